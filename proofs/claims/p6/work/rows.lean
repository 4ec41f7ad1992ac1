section
-- ===== PART A: goes FIRST, ahead of the names: the tables' words, and 'selects' of the private methods out of them =====
/-- a private method of a class that the tables say can be made, by its rows of tables_1 -/
def lw_okq (q : MethodName × Nat) : Prop := (q.1.cls ≠ "java/lang/invoke/MethodHandle" ∧ q.1.cls ≠ "java/lang/invoke/VarHandle") ∧ Cond.instantiable q.1.cls q.2 ∈ tables_1 ∧ Cond.privateMethod q.1 ∈ tables_1 ∧ Cond.instanceMethod q.1 ∈ tables_1
theorem lw_p0 : lw_okq (⟨"SharedShelf", "find", "(I)LSharedShelf$Operation;"⟩, 9) := ⟨⟨by decide +kernel, by decide +kernel⟩, List.mem_of_getElem? (i := 14) (by decide +kernel), List.mem_of_getElem? (i := 150) (by decide +kernel), List.mem_of_getElem? (i := 151) (by decide +kernel)⟩
theorem lw_p1 : lw_okq (⟨"SharedShelf", "fold", "(LSharedShelf$Operation;)J"⟩, 9) := ⟨⟨by decide +kernel, by decide +kernel⟩, List.mem_of_getElem? (i := 14) (by decide +kernel), List.mem_of_getElem? (i := 167) (by decide +kernel), List.mem_of_getElem? (i := 168) (by decide +kernel)⟩
theorem lw_p2 : lw_okq (⟨"SharedShelf", "sum", "(LSharedShelf$Operation;)J"⟩, 9) := ⟨⟨by decide +kernel, by decide +kernel⟩, List.mem_of_getElem? (i := 14) (by decide +kernel), List.mem_of_getElem? (i := 171) (by decide +kernel), List.mem_of_getElem? (i := 172) (by decide +kernel)⟩
theorem lw_p3 : lw_okq (⟨"SharedShelf", "greatest", "(LSharedShelf$Operation;)J"⟩, 9) := ⟨⟨by decide +kernel, by decide +kernel⟩, List.mem_of_getElem? (i := 14) (by decide +kernel), List.mem_of_getElem? (i := 179) (by decide +kernel), List.mem_of_getElem? (i := 180) (by decide +kernel)⟩
theorem lw_p4 : lw_okq (⟨"SharedShelf", "contains", "(LSharedShelf$Operation;)Z"⟩, 9) := ⟨⟨by decide +kernel, by decide +kernel⟩, List.mem_of_getElem? (i := 14) (by decide +kernel), List.mem_of_getElem? (i := 187) (by decide +kernel), List.mem_of_getElem? (i := 188) (by decide +kernel)⟩
theorem lw_p5 : lw_okq (⟨"SharedShelf", "different", "(LSharedShelf$Operation;I)I"⟩, 9) := ⟨⟨by decide +kernel, by decide +kernel⟩, List.mem_of_getElem? (i := 14) (by decide +kernel), List.mem_of_getElem? (i := 191) (by decide +kernel), List.mem_of_getElem? (i := 192) (by decide +kernel)⟩
theorem lw_p6 : lw_okq (⟨"SharedShelf", "isRepeated", "(LSharedShelf$Operation;LSharedShelf$Operation;)Z"⟩, 9) := ⟨⟨by decide +kernel, by decide +kernel⟩, List.mem_of_getElem? (i := 14) (by decide +kernel), List.mem_of_getElem? (i := 195) (by decide +kernel), List.mem_of_getElem? (i := 196) (by decide +kernel)⟩
theorem lw_p7 : lw_okq (⟨"SharedShelf", "greatestOfKey", "(LSharedShelf$Operation;)J"⟩, 9) := ⟨⟨by decide +kernel, by decide +kernel⟩, List.mem_of_getElem? (i := 14) (by decide +kernel), List.mem_of_getElem? (i := 199) (by decide +kernel), List.mem_of_getElem? (i := 200) (by decide +kernel)⟩
theorem lw_p8 : lw_okq (⟨"SharedShelf", "isNode", "(I)Z"⟩, 9) := ⟨⟨by decide +kernel, by decide +kernel⟩, List.mem_of_getElem? (i := 14) (by decide +kernel), List.mem_of_getElem? (i := 207) (by decide +kernel), List.mem_of_getElem? (i := 208) (by decide +kernel)⟩
theorem lw_p9 : lw_okq (⟨"SharedShelf", "nodesUp", "()I"⟩, 9) := ⟨⟨by decide +kernel, by decide +kernel⟩, List.mem_of_getElem? (i := 14) (by decide +kernel), List.mem_of_getElem? (i := 251) (by decide +kernel), List.mem_of_getElem? (i := 252) (by decide +kernel)⟩
theorem lw_p10 : lw_okq (⟨"SharedShelf", "seesWhatBeganLater", "(LSharedShelf$Operation;)Z"⟩, 9) := ⟨⟨by decide +kernel, by decide +kernel⟩, List.mem_of_getElem? (i := 14) (by decide +kernel), List.mem_of_getElem? (i := 259) (by decide +kernel), List.mem_of_getElem? (i := 260) (by decide +kernel)⟩
theorem lw_p11 : lw_okq (⟨"SharedShelf", "strays", "(LSharedShelf$Operation;LSharedShelf$Operation;)I"⟩, 9) := ⟨⟨by decide +kernel, by decide +kernel⟩, List.mem_of_getElem? (i := 14) (by decide +kernel), List.mem_of_getElem? (i := 263) (by decide +kernel), List.mem_of_getElem? (i := 264) (by decide +kernel)⟩
theorem lw_p12 : lw_okq (⟨"java/lang/Throwable", "fillInStackTrace", "(I)Ljava/lang/Throwable;"⟩, 6) := ⟨⟨by decide +kernel, by decide +kernel⟩, List.mem_of_getElem? (i := 324) (by decide +kernel), List.mem_of_getElem? (i := 322) (by decide +kernel), List.mem_of_getElem? (i := 323) (by decide +kernel)⟩
theorem lw_p13 : lw_okq (⟨"SharedShelf", "begin", "(IIII)I"⟩, 9) := ⟨⟨by decide +kernel, by decide +kernel⟩, List.mem_of_getElem? (i := 14) (by decide +kernel), List.mem_of_getElem? (i := 370) (by decide +kernel), List.mem_of_getElem? (i := 371) (by decide +kernel)⟩
theorem lw_p14 : lw_okq (⟨"SharedShelf", "beginCollect", "(LSharedShelf$Node;)V"⟩, 9) := ⟨⟨by decide +kernel, by decide +kernel⟩, List.mem_of_getElem? (i := 14) (by decide +kernel), List.mem_of_getElem? (i := 437) (by decide +kernel), List.mem_of_getElem? (i := 438) (by decide +kernel)⟩
theorem lw_p15 : lw_okq (⟨"SharedShelf", "sendToAll", "(LSharedShelf$Node;II[I)V"⟩, 9) := ⟨⟨by decide +kernel, by decide +kernel⟩, List.mem_of_getElem? (i := 14) (by decide +kernel), List.mem_of_getElem? (i := 445) (by decide +kernel), List.mem_of_getElem? (i := 446) (by decide +kernel)⟩
def lw_privs_1 : List (MethodName × Nat) := [(⟨"SharedShelf", "find", "(I)LSharedShelf$Operation;"⟩, 9), (⟨"SharedShelf", "fold", "(LSharedShelf$Operation;)J"⟩, 9), (⟨"SharedShelf", "sum", "(LSharedShelf$Operation;)J"⟩, 9), (⟨"SharedShelf", "greatest", "(LSharedShelf$Operation;)J"⟩, 9), (⟨"SharedShelf", "contains", "(LSharedShelf$Operation;)Z"⟩, 9), (⟨"SharedShelf", "different", "(LSharedShelf$Operation;I)I"⟩, 9), (⟨"SharedShelf", "isRepeated", "(LSharedShelf$Operation;LSharedShelf$Operation;)Z"⟩, 9), (⟨"SharedShelf", "greatestOfKey", "(LSharedShelf$Operation;)J"⟩, 9), (⟨"SharedShelf", "isNode", "(I)Z"⟩, 9), (⟨"SharedShelf", "nodesUp", "()I"⟩, 9), (⟨"SharedShelf", "seesWhatBeganLater", "(LSharedShelf$Operation;)Z"⟩, 9), (⟨"SharedShelf", "strays", "(LSharedShelf$Operation;LSharedShelf$Operation;)I"⟩, 9), (⟨"java/lang/Throwable", "fillInStackTrace", "(I)Ljava/lang/Throwable;"⟩, 6), (⟨"SharedShelf", "begin", "(IIII)I"⟩, 9), (⟨"SharedShelf", "beginCollect", "(LSharedShelf$Node;)V"⟩, 9), (⟨"SharedShelf", "sendToAll", "(LSharedShelf$Node;II[I)V"⟩, 9)]
theorem lw_r1 : ∀ q ∈ lw_privs_1, lw_okq q := List.forall_mem_cons.mpr ⟨lw_p0, List.forall_mem_cons.mpr ⟨lw_p1, List.forall_mem_cons.mpr ⟨lw_p2, List.forall_mem_cons.mpr ⟨lw_p3, List.forall_mem_cons.mpr ⟨lw_p4, List.forall_mem_cons.mpr ⟨lw_p5, List.forall_mem_cons.mpr ⟨lw_p6, List.forall_mem_cons.mpr ⟨lw_p7, List.forall_mem_cons.mpr ⟨lw_p8, List.forall_mem_cons.mpr ⟨lw_p9, List.forall_mem_cons.mpr ⟨lw_p10, List.forall_mem_cons.mpr ⟨lw_p11, List.forall_mem_cons.mpr ⟨lw_p12, List.forall_mem_cons.mpr ⟨lw_p13, List.forall_mem_cons.mpr ⟨lw_p14, List.forall_mem_cons.mpr ⟨lw_p15, fun _ h => absurd h List.not_mem_nil⟩⟩⟩⟩⟩⟩⟩⟩⟩⟩⟩⟩⟩⟩⟩⟩
theorem lw_p16 : lw_okq (⟨"SharedShelf", "come", "(I)I"⟩, 9) := ⟨⟨by decide +kernel, by decide +kernel⟩, List.mem_of_getElem? (i := 14) (by decide +kernel), List.mem_of_getElem? (i := 476) (by decide +kernel), List.mem_of_getElem? (i := 477) (by decide +kernel)⟩
theorem lw_p17 : lw_okq (⟨"SharedShelf", "leadsTo", "(LSharedShelf$Node;I)I"⟩, 9) := ⟨⟨by decide +kernel, by decide +kernel⟩, List.mem_of_getElem? (i := 14) (by decide +kernel), List.mem_of_getElem? (i := 481) (by decide +kernel), List.mem_of_getElem? (i := 482) (by decide +kernel)⟩
theorem lw_p18 : lw_okq (⟨"SharedShelf", "endsOperation", "(LSharedShelf$Node;)Z"⟩, 9) := ⟨⟨by decide +kernel, by decide +kernel⟩, List.mem_of_getElem? (i := 14) (by decide +kernel), List.mem_of_getElem? (i := 493) (by decide +kernel), List.mem_of_getElem? (i := 494) (by decide +kernel)⟩
theorem lw_p19 : lw_okq (⟨"SharedShelf", "lender", "(LSharedShelf$Node;)LSharedShelf$Operation;"⟩, 9) := ⟨⟨by decide +kernel, by decide +kernel⟩, List.mem_of_getElem? (i := 14) (by decide +kernel), List.mem_of_getElem? (i := 501) (by decide +kernel), List.mem_of_getElem? (i := 502) (by decide +kernel)⟩
theorem lw_p20 : lw_okq (⟨"SharedShelf", "hear", "(LSharedShelf$Node;I)V"⟩, 9) := ⟨⟨by decide +kernel, by decide +kernel⟩, List.mem_of_getElem? (i := 14) (by decide +kernel), List.mem_of_getElem? (i := 520) (by decide +kernel), List.mem_of_getElem? (i := 521) (by decide +kernel)⟩
theorem lw_p21 : lw_okq (⟨"SharedShelf", "endCollect", "(LSharedShelf$Node;LSharedShelf$Operation;)V"⟩, 9) := ⟨⟨by decide +kernel, by decide +kernel⟩, List.mem_of_getElem? (i := 14) (by decide +kernel), List.mem_of_getElem? (i := 524) (by decide +kernel), List.mem_of_getElem? (i := 525) (by decide +kernel)⟩
theorem lw_p22 : lw_okq (⟨"SharedShelf", "useView", "(LSharedShelf$Node;LSharedShelf$Operation;[I)V"⟩, 9) := ⟨⟨by decide +kernel, by decide +kernel⟩, List.mem_of_getElem? (i := 14) (by decide +kernel), List.mem_of_getElem? (i := 529) (by decide +kernel), List.mem_of_getElem? (i := 530) (by decide +kernel)⟩
theorem lw_p23 : lw_okq (⟨"SharedShelf", "endOperation", "(LSharedShelf$Node;LSharedShelf$Operation;)V"⟩, 9) := ⟨⟨by decide +kernel, by decide +kernel⟩, List.mem_of_getElem? (i := 14) (by decide +kernel), List.mem_of_getElem? (i := 541) (by decide +kernel), List.mem_of_getElem? (i := 542) (by decide +kernel)⟩
theorem lw_p24 : lw_okq (⟨"SharedShelfModel", "isNode", "(I)Z"⟩, 41) := ⟨⟨by decide +kernel, by decide +kernel⟩, List.mem_of_getElem? (i := 568) (by decide +kernel), List.mem_of_getElem? (i := 708) (by decide +kernel), List.mem_of_getElem? (i := 709) (by decide +kernel)⟩
theorem lw_p25 : lw_okq (⟨"SharedShelfModel", "begin", "(IIII)I"⟩, 41) := ⟨⟨by decide +kernel, by decide +kernel⟩, List.mem_of_getElem? (i := 568) (by decide +kernel), List.mem_of_getElem? (i := 712) (by decide +kernel), List.mem_of_getElem? (i := 713) (by decide +kernel)⟩
theorem lw_p26 : lw_okq (⟨"SharedShelfModel", "hasRoom", "(I)Z"⟩, 41) := ⟨⟨by decide +kernel, by decide +kernel⟩, List.mem_of_getElem? (i := 568) (by decide +kernel), List.mem_of_getElem? (i := 716) (by decide +kernel), List.mem_of_getElem? (i := 717) (by decide +kernel)⟩
theorem lw_p27 : lw_okq (⟨"SharedShelfModel", "collect", "(I)V"⟩, 41) := ⟨⟨by decide +kernel, by decide +kernel⟩, List.mem_of_getElem? (i := 568) (by decide +kernel), List.mem_of_getElem? (i := 720) (by decide +kernel), List.mem_of_getElem? (i := 721) (by decide +kernel)⟩
theorem lw_p28 : lw_okq (⟨"SharedShelfModel", "toAll", "(II[I)V"⟩, 41) := ⟨⟨by decide +kernel, by decide +kernel⟩, List.mem_of_getElem? (i := 568) (by decide +kernel), List.mem_of_getElem? (i := 724) (by decide +kernel), List.mem_of_getElem? (i := 725) (by decide +kernel)⟩
theorem lw_p29 : lw_okq (⟨"SharedShelfModel", "send", "(IIII)I"⟩, 41) := ⟨⟨by decide +kernel, by decide +kernel⟩, List.mem_of_getElem? (i := 568) (by decide +kernel), List.mem_of_getElem? (i := 728) (by decide +kernel), List.mem_of_getElem? (i := 729) (by decide +kernel)⟩
theorem lw_p30 : lw_okq (⟨"SharedShelfModel", "come", "(I)I"⟩, 41) := ⟨⟨by decide +kernel, by decide +kernel⟩, List.mem_of_getElem? (i := 568) (by decide +kernel), List.mem_of_getElem? (i := 740) (by decide +kernel), List.mem_of_getElem? (i := 741) (by decide +kernel)⟩
theorem lw_p31 : lw_okq (⟨"SharedShelfModel", "wanted", "(I)I"⟩, 41) := ⟨⟨by decide +kernel, by decide +kernel⟩, List.mem_of_getElem? (i := 568) (by decide +kernel), List.mem_of_getElem? (i := 744) (by decide +kernel), List.mem_of_getElem? (i := 745) (by decide +kernel)⟩
def lw_privs_2 : List (MethodName × Nat) := [(⟨"SharedShelf", "come", "(I)I"⟩, 9), (⟨"SharedShelf", "leadsTo", "(LSharedShelf$Node;I)I"⟩, 9), (⟨"SharedShelf", "endsOperation", "(LSharedShelf$Node;)Z"⟩, 9), (⟨"SharedShelf", "lender", "(LSharedShelf$Node;)LSharedShelf$Operation;"⟩, 9), (⟨"SharedShelf", "hear", "(LSharedShelf$Node;I)V"⟩, 9), (⟨"SharedShelf", "endCollect", "(LSharedShelf$Node;LSharedShelf$Operation;)V"⟩, 9), (⟨"SharedShelf", "useView", "(LSharedShelf$Node;LSharedShelf$Operation;[I)V"⟩, 9), (⟨"SharedShelf", "endOperation", "(LSharedShelf$Node;LSharedShelf$Operation;)V"⟩, 9), (⟨"SharedShelfModel", "isNode", "(I)Z"⟩, 41), (⟨"SharedShelfModel", "begin", "(IIII)I"⟩, 41), (⟨"SharedShelfModel", "hasRoom", "(I)Z"⟩, 41), (⟨"SharedShelfModel", "collect", "(I)V"⟩, 41), (⟨"SharedShelfModel", "toAll", "(II[I)V"⟩, 41), (⟨"SharedShelfModel", "send", "(IIII)I"⟩, 41), (⟨"SharedShelfModel", "come", "(I)I"⟩, 41), (⟨"SharedShelfModel", "wanted", "(I)I"⟩, 41)]
theorem lw_r2 : ∀ q ∈ lw_privs_2, lw_okq q := List.forall_mem_cons.mpr ⟨lw_p16, List.forall_mem_cons.mpr ⟨lw_p17, List.forall_mem_cons.mpr ⟨lw_p18, List.forall_mem_cons.mpr ⟨lw_p19, List.forall_mem_cons.mpr ⟨lw_p20, List.forall_mem_cons.mpr ⟨lw_p21, List.forall_mem_cons.mpr ⟨lw_p22, List.forall_mem_cons.mpr ⟨lw_p23, List.forall_mem_cons.mpr ⟨lw_p24, List.forall_mem_cons.mpr ⟨lw_p25, List.forall_mem_cons.mpr ⟨lw_p26, List.forall_mem_cons.mpr ⟨lw_p27, List.forall_mem_cons.mpr ⟨lw_p28, List.forall_mem_cons.mpr ⟨lw_p29, List.forall_mem_cons.mpr ⟨lw_p30, List.forall_mem_cons.mpr ⟨lw_p31, fun _ h => absurd h List.not_mem_nil⟩⟩⟩⟩⟩⟩⟩⟩⟩⟩⟩⟩⟩⟩⟩⟩
theorem lw_p32 : lw_okq (⟨"SharedShelfModel", "counts", "(I)Z"⟩, 41) := ⟨⟨by decide +kernel, by decide +kernel⟩, List.mem_of_getElem? (i := 568) (by decide +kernel), List.mem_of_getElem? (i := 748) (by decide +kernel), List.mem_of_getElem? (i := 749) (by decide +kernel)⟩
theorem lw_p33 : lw_okq (⟨"SharedShelfModel", "isSeen", "(I)Z"⟩, 41) := ⟨⟨by decide +kernel, by decide +kernel⟩, List.mem_of_getElem? (i := 568) (by decide +kernel), List.mem_of_getElem? (i := 752) (by decide +kernel), List.mem_of_getElem? (i := 753) (by decide +kernel)⟩
theorem lw_p34 : lw_okq (⟨"SharedShelfModel", "isSame", "(I)Z"⟩, 41) := ⟨⟨by decide +kernel, by decide +kernel⟩, List.mem_of_getElem? (i := 568) (by decide +kernel), List.mem_of_getElem? (i := 756) (by decide +kernel), List.mem_of_getElem? (i := 757) (by decide +kernel)⟩
theorem lw_p35 : lw_okq (⟨"SharedShelfModel", "movedTwice", "(I)I"⟩, 41) := ⟨⟨by decide +kernel, by decide +kernel⟩, List.mem_of_getElem? (i := 568) (by decide +kernel), List.mem_of_getElem? (i := 760) (by decide +kernel), List.mem_of_getElem? (i := 761) (by decide +kernel)⟩
theorem lw_p36 : lw_okq (⟨"SharedShelfModel", "isQuery", "(I)Z"⟩, 41) := ⟨⟨by decide +kernel, by decide +kernel⟩, List.mem_of_getElem? (i := 568) (by decide +kernel), List.mem_of_getElem? (i := 764) (by decide +kernel), List.mem_of_getElem? (i := 765) (by decide +kernel)⟩
theorem lw_p37 : lw_okq (⟨"SharedShelfModel", "replies", "(I)V"⟩, 41) := ⟨⟨by decide +kernel, by decide +kernel⟩, List.mem_of_getElem? (i := 568) (by decide +kernel), List.mem_of_getElem? (i := 768) (by decide +kernel), List.mem_of_getElem? (i := 769) (by decide +kernel)⟩
theorem lw_p38 : lw_okq (⟨"SharedShelfModel", "hears", "(I)V"⟩, 41) := ⟨⟨by decide +kernel, by decide +kernel⟩, List.mem_of_getElem? (i := 568) (by decide +kernel), List.mem_of_getElem? (i := 773) (by decide +kernel), List.mem_of_getElem? (i := 774) (by decide +kernel)⟩
theorem lw_p39 : lw_okq (⟨"SharedShelfModel", "through", "(I)V"⟩, 41) := ⟨⟨by decide +kernel, by decide +kernel⟩, List.mem_of_getElem? (i := 568) (by decide +kernel), List.mem_of_getElem? (i := 777) (by decide +kernel), List.mem_of_getElem? (i := 778) (by decide +kernel)⟩
theorem lw_p40 : lw_okq (⟨"SharedShelfModel", "take", "(I)V"⟩, 41) := ⟨⟨by decide +kernel, by decide +kernel⟩, List.mem_of_getElem? (i := 568) (by decide +kernel), List.mem_of_getElem? (i := 781) (by decide +kernel), List.mem_of_getElem? (i := 782) (by decide +kernel)⟩
theorem lw_p41 : lw_okq (⟨"SharedShelfModel", "ends", "(I)V"⟩, 41) := ⟨⟨by decide +kernel, by decide +kernel⟩, List.mem_of_getElem? (i := 568) (by decide +kernel), List.mem_of_getElem? (i := 785) (by decide +kernel), List.mem_of_getElem? (i := 786) (by decide +kernel)⟩
theorem lw_p42 : lw_okq (⟨"SharedShelfModel", "isOperation", "(I)Z"⟩, 41) := ⟨⟨by decide +kernel, by decide +kernel⟩, List.mem_of_getElem? (i := 568) (by decide +kernel), List.mem_of_getElem? (i := 801) (by decide +kernel), List.mem_of_getElem? (i := 802) (by decide +kernel)⟩
theorem lw_p43 : lw_okq (⟨"SharedShelfModel", "gather", "(II)V"⟩, 41) := ⟨⟨by decide +kernel, by decide +kernel⟩, List.mem_of_getElem? (i := 568) (by decide +kernel), List.mem_of_getElem? (i := 809) (by decide +kernel), List.mem_of_getElem? (i := 810) (by decide +kernel)⟩
theorem lw_p44 : lw_okq (⟨"SharedShelfModel", "different", "()I"⟩, 41) := ⟨⟨by decide +kernel, by decide +kernel⟩, List.mem_of_getElem? (i := 568) (by decide +kernel), List.mem_of_getElem? (i := 813) (by decide +kernel), List.mem_of_getElem? (i := 814) (by decide +kernel)⟩
theorem lw_p45 : lw_okq (⟨"SharedShelfModel", "isLate", "(I)Z"⟩, 41) := ⟨⟨by decide +kernel, by decide +kernel⟩, List.mem_of_getElem? (i := 568) (by decide +kernel), List.mem_of_getElem? (i := 846) (by decide +kernel), List.mem_of_getElem? (i := 847) (by decide +kernel)⟩
theorem lw_p46 : lw_okq (⟨"SharedShelfModel", "isWithin", "(II)Z"⟩, 41) := ⟨⟨by decide +kernel, by decide +kernel⟩, List.mem_of_getElem? (i := 568) (by decide +kernel), List.mem_of_getElem? (i := 850) (by decide +kernel), List.mem_of_getElem? (i := 851) (by decide +kernel)⟩
def lw_privs_3 : List (MethodName × Nat) := [(⟨"SharedShelfModel", "counts", "(I)Z"⟩, 41), (⟨"SharedShelfModel", "isSeen", "(I)Z"⟩, 41), (⟨"SharedShelfModel", "isSame", "(I)Z"⟩, 41), (⟨"SharedShelfModel", "movedTwice", "(I)I"⟩, 41), (⟨"SharedShelfModel", "isQuery", "(I)Z"⟩, 41), (⟨"SharedShelfModel", "replies", "(I)V"⟩, 41), (⟨"SharedShelfModel", "hears", "(I)V"⟩, 41), (⟨"SharedShelfModel", "through", "(I)V"⟩, 41), (⟨"SharedShelfModel", "take", "(I)V"⟩, 41), (⟨"SharedShelfModel", "ends", "(I)V"⟩, 41), (⟨"SharedShelfModel", "isOperation", "(I)Z"⟩, 41), (⟨"SharedShelfModel", "gather", "(II)V"⟩, 41), (⟨"SharedShelfModel", "different", "()I"⟩, 41), (⟨"SharedShelfModel", "isLate", "(I)Z"⟩, 41), (⟨"SharedShelfModel", "isWithin", "(II)Z"⟩, 41)]
theorem lw_r3 : ∀ q ∈ lw_privs_3, lw_okq q := List.forall_mem_cons.mpr ⟨lw_p32, List.forall_mem_cons.mpr ⟨lw_p33, List.forall_mem_cons.mpr ⟨lw_p34, List.forall_mem_cons.mpr ⟨lw_p35, List.forall_mem_cons.mpr ⟨lw_p36, List.forall_mem_cons.mpr ⟨lw_p37, List.forall_mem_cons.mpr ⟨lw_p38, List.forall_mem_cons.mpr ⟨lw_p39, List.forall_mem_cons.mpr ⟨lw_p40, List.forall_mem_cons.mpr ⟨lw_p41, List.forall_mem_cons.mpr ⟨lw_p42, List.forall_mem_cons.mpr ⟨lw_p43, List.forall_mem_cons.mpr ⟨lw_p44, List.forall_mem_cons.mpr ⟨lw_p45, List.forall_mem_cons.mpr ⟨lw_p46, fun _ h => absurd h List.not_mem_nil⟩⟩⟩⟩⟩⟩⟩⟩⟩⟩⟩⟩⟩⟩⟩
def lw_privs : List (MethodName × Nat) := lw_privs_1 ++ (lw_privs_2 ++ (lw_privs_3))
def lw_tbl : List Cond := k2_sels lw_privs ++ tables_1
theorem lw_privs_ok : ∀ q ∈ lw_privs, lw_okq q := by
  show ∀ q ∈ lw_privs_1 ++ (lw_privs_2 ++ (lw_privs_3)), lw_okq q
  exact List.forall_mem_append.mpr ⟨lw_r1, List.forall_mem_append.mpr ⟨lw_r2, lw_r3⟩⟩
-- ===== end of PART A; then your names; then what follows =====
end
section
/-! ===== BEGIN words of one list among another's, by their places ===== -/
theorem goodIn_r {big : List Cond} (ws : List Cond) (ps : List Nat) (hp : ws = ps.filterMap (fun i => big[i]?)) (h : ws.all goodWord = true) : GoodIn big ws := by
  intro w hw
  have h1 := List.all_eq_true.mp h w hw
  rw [hp] at hw
  obtain ⟨i, -, hi⟩ := List.mem_filterMap.mp hw
  have hm : w ∈ big := by first | exact List.mem_of_getElem? hi | exact List.getElem?_mem hi
  exact ⟨hm, good_of_word h1⟩
theorem goodIn_app {big a b : List Cond} (ha : GoodIn big a) (hb : GoodIn big b) : GoodIn big (a ++ b) := fun w h => (List.mem_append.mp h).elim (ha w) (hb w)
theorem goodIn_ca {big a b : List Cond} {c : Cond} (ha : GoodIn big (c :: a)) (hb : GoodIn big b) : GoodIn big (c :: (a ++ b)) := fun w h => (List.mem_cons.mp h).elim (fun e => ha w (List.mem_cons.mpr (Or.inl e))) (fun h => (List.mem_append.mp h).elim (fun h => ha w (List.mem_cons.mpr (Or.inr h))) (hb w))
theorem goodIn_sub {big ws : List Cond} (hm : ∀ w ∈ ws, w ∈ big) (h : ws.all goodWord = true) : GoodIn big ws := fun w hw => ⟨hm w hw, good_of_word (List.all_eq_true.mp h w hw)⟩
/-! ===== END ===== -/

/-! ===== BEGIN exceptions that leave a method, and their catching by the caller (launches without stack traces) ===== -/
section VXA
/-! The laws vx_back, vx_callV, vx_callS, vx_callSW, vx_throw0, vx_throwS follow proofs of the library, with one case more: JvmDerived/Free/Laws.lean (Back.of_free), Shelf42/LK1.lean (callV, callS), Shelf/KitTraced.lean (throwNew0V, throwNewS). -/
/-- where a method has thrown q: the class by its name, the cell, what was written, the world -/
def vx_T (XC : String → State → State → Prop) (st : State) (q : Addr) (t : State) (mc ms : Nat) (free : Addr → Prop) : Prop :=
  ∃ (E : String) (ce : Cell) (L : List Loc), XC E st t ∧ t.heap[q]? = some ce ∧ ce.vm = .none ∧ st.vm.findClass E = some ce.cls ∧ st.WarmedH t.vm ∧ st.sameButNew ({ t with vm := st.vm } : State) L mc ms ∧ ∀ z ∈ L, free z.base
def vx_Q (Qc : Array Value → State → Outcome → State → Prop) (XC : String → State → State → Prop) (mc ms : Nat) (free : Addr → Prop) : Array Value → State → Outcome → State → Prop := fun a st o t =>
  (Qc a st o t ∧ ∃ L, FrameEnd st o t L mc ms ∧ ∀ q ∈ L, free q.base) ∨ ∃ q, o = .threw q ∧ vx_T XC st q t mc ms free
/-- a callee that returns or throws -/
def vx_Met (l : Launch) (y : MethodName) (ws : List Cond) (rm : Room) (Pc : Array Value → State → Prop) (Qc : Array Value → State → Outcome → State → Prop) (XC : String → State → State → Prop) (mc ms : Nat) (free : Addr → Prop) : Prop :=
  MetFree l y (headSpec ws rm) Pc (fun _ _ _ _ _ => True) (vx_Q Qc XC mc ms free)
def vx_Post (XC : String → State → State → Prop) (mc ms : Nat) (free : Addr → Prop) : Pt → Array Value → Addr → Pt → Prop := fun A a q B =>
  ∃ (g : JFrame) (mk : MethodId) (t : State) (L : List Loc) (E : String) (ce : Cell), B.U.heap = t.heap ∧ B.U.vm = t.vm ∧ XC E (A.U.calling g mk a) t ∧ t.heap[q]? = some ce ∧ ce.vm = .none ∧ A.U.vm.findClass E = some ce.cls ∧ B.locs = A.locs ++ L ∧ (∀ z ∈ L, free z.base) ∧ B.cells = A.cells + mc ∧ B.slots = A.slots + ms
def vx_Back (l : Launch) (R : Room) (p : Program) (e : Env) (below : List Frame) (s : State) (sargs : Array Value) (y : MethodName) (len W9 : Nat)
    (Pre : Pt → Array Value → Prop) (Post : Pt → Array Value → Option Value → Pt → Prop) (PostX : Pt → Array Value → Addr → Pt → Prop) : Prop :=
  ∀ (m : MethodId) (meth : Method) (c : Code) (A : Pt) (g : JFrame) (ig : Instr) (mk : MethodId) (a : Array Value),
    Stand p l e R s m sargs below meth c A.U A.locs A.cells A.slots → g.method = m → g.locals.size = c.maxLocals → decode c.code g.pc = .ok (ig, len) →
    2 * g.monitorRoom + (g.stack.map fun v => v.category).sum ≤ W9 → A.U.methodNamed? y = some mk → Pre A a →
    (∃ (v : Option Value) (B : Pt), Stand p l e R s m sargs below meth c B.U B.locs B.cells B.slots ∧ Post A a v B ∧
      Steps p.tables e below (doInvoke e (A.U.setTop g) [] mk a).1 (B.U.setTop { g with pc := g.pc + len, stack := v.toList ++ g.stack })) ∨
    (∃ (q : Addr) (B : Pt), Stand p l e R s m sargs below meth c B.U B.locs B.cells B.slots ∧ PostX A a q B ∧
      Steps p.tables e below (doInvoke e (A.U.setTop g) [] mk a).1 ((B.U.setTop g).pushFrame (.throwing q)))
section Payer
variable {l : Launch} {R : Room} {p : Program} {e : Env} {below : List Frame} {s : State} {sargs : Array Value} {y : MethodName} {len W9 : Nat}
theorem vx_back {ws : List Cond} {rm : Room} {Pc : Array Value → State → Prop} {Qc : Array Value → State → Outcome → State → Prop} {XC : String → State → State → Prop} {mc ms : Nat} {free : Addr → Prop} {bytes : ByteArray} {maxL : Nat} {ret : Option FieldType}
    (hM : vx_Met l y ws rm Pc Qc XC mc ms free) (hblind : FrameBlind Pc) (hrc : rm.cells = mc) (hrs : rm.slots = ms)
    (hframes : rm.frames + 1 ≤ R.frames) (hlocals : W9 + (maxL + 11) + rm.locals ≤ R.locals)
    (hws : ∀ w ∈ ws, ∀ a' U, s.WarmedH U.vm → w.before a' U = true) (hcode : Cond.code y bytes maxL ret ∈ ws) (hinit : ∀ a' U, s.WarmedH U.vm → (Cond.initialized y.cls).before a' U = true) :
    vx_Back l R p e below s sargs y len W9 (PreOf R mc ms Pc) (PostOf Qc mc ms free) (vx_Post XC mc ms free) := by
  intro m meth c A g ig mk a X hg hsize hdg hW hn hp
  have h1 : (headSpec ws rm).pre.before a A.U = true := atoms_intro fun w hw => hws w hw _ _ X.warmed
  have h2 : (Cond.code y bytes maxL ret).before a A.U = true := hws _ hcode _ _ X.warmed
  have h3 : (Cond.initialized y.cls).before a A.U = true := hinit _ _ X.warmed
  have h4 : A.cells + (headSpec ws rm).room.cells ≤ R.cells := by rw [show (headSpec ws rm).room.cells = mc from hrc]; exact hp.1
  have h5 : A.slots + (headSpec ws rm).room.slots ≤ R.slots := by rw [show (headSpec ws rm).room.slots = ms from hrs]; exact hp.2.1
  have hPc : Pc a (A.U.calling g mk a) := hblind _ _ _ _ hp.2.2
  obtain ⟨U, Ls, c0, s0⟩ := A
  dsimp only [Pt.U, Pt.locs, Pt.cells, Pt.slots] at h1 h2 h3 h4 h5 X hn hPc ⊢
  obtain ⟨methY, cY, hmY, hcY, -, hlY, -, -, -, -⟩ := Cond.code_spec hn h2
  obtain ⟨kY, hkY, -⟩ := className_of_methodNamed hn
  have hinitY : kY.init = .initialized := Cond.initialized_spec (findClass_of_methodNamed hn) hkY h3
  have h : At U g.method c below := by rw [hg]; exact X.here
  have hlocals9 : W9 + (maxL + 11) + (headSpec ws rm).room.locals ≤ R.locals := hlocals
  have happ : (headSpec ws rm).appliesLoose y e.platform (U.calling g mk a) = true :=
    Spec.appliesLoose_calling (g := g) h hdg hn hkY hinitY
      (X.room_calling (g := g) (R' := (headSpec ws rm).room) hsize hmY hcY hframes (by rw [hlY]; omega) h4 h5) h1
  obtain ⟨mid, hmid⟩ := h.above
  have hfr : (U.setTop g).frames = (.java g :: mid) ++ below := by rw [State.frames_setTop' g h.top, hmid]; rfl
  obtain ⟨o, s₂, hsteps, -, hend, hq⟩ := Steps.callFree hM p X.admits X.cas X.clock (acts := []) hfr happ hPc trivial
  have hq' : vx_Q Qc XC mc ms free a (U.calling g mk a) o s₂ := hq
  rw [State.frames_setTop' g h.top] at hend
  obtain ⟨g₀, hg0⟩ := Option.isSome_iff_exists.mp h.top
  obtain ⟨r, hr⟩ := State.topJava?_eq_some.mp hg0
  have hr' : (({ U with heap := s₂.heap, slotsUsed := s₂.slotsUsed } : State).setVm s₂.vm).frames = .java g₀ :: r := hr
  rcases hq' with ⟨hqc, L, hfe, hL⟩ | ⟨q, rfl, E, ce, L, hx, hce, hcv, hcl, hW₂, hsm, hL⟩
  · obtain ⟨⟨v, rfl⟩, hW₂, e2, q2, q3, q4, q5, q6⟩ := id hfe
    have e3 : s₂ = ({ (U.calling g mk a).setFrames s₂.frames with heap := s₂.heap, slotsUsed := s₂.slotsUsed } : State).setVm s₂.vm := by
      have : s₂ = ({ s₂ with vm := (U.calling g mk a).vm } : State).setVm s₂.vm := rfl
      rw [e2] at this
      exact this
    obtain ⟨c₂, i₂, len₂, hc₂, hd₂, hf₂⟩ := hend
    have hW' : U.WarmedH s₂.vm := hW₂
    have hcc : c₂ = c := by
      have h1 : s₂.code? g.method = U.code? g.method := by
        rw [State.code?_eq, State.code?_eq, hW'.alike.method?]
      exact Option.some.inj (hc₂.symm.trans (h1.trans h.code))
    subst hcc
    have hlen : len₂ = len := by rw [hdg] at hd₂; cases hd₂; rfl
    subst hlen
    have hs₂ : s₂ = (({ U with heap := s₂.heap, slotsUsed := s₂.slotsUsed } : State).setVm s₂.vm).setTop { g with pc := g.pc + len₂, stack := v.toList ++ g.stack } := by
      refine e3.trans ?_
      rw [hf₂, State.calling_eq h.top, State.setFrames_setFrames, State.setTop_of_frames _ hr', hr]
      rfl
    have hsame : U.sameButNew ({ U with heap := s₂.heap, slotsUsed := s₂.slotsUsed } : State) L mc ms := by
      refine ⟨?_, q2, q3, q4, q5, q6⟩
      obtain ⟨t, ht, -⟩ := State.frames_cons hr
      show ({ U with heap := s₂.heap, slotsUsed := s₂.slotsUsed } : State) = { U.setFrames U.frames with heap := s₂.heap, slotsUsed := s₂.slotsUsed }
      rw [State.setFrames_self ht]
    subst hg
    refine Or.inl ⟨v, ⟨(({ U with heap := s₂.heap, slotsUsed := s₂.slotsUsed } : State).setVm s₂.vm), Ls ++ L, c0 + mc, s0 + ms⟩,
      ⟨X.admits, X.cas, X.clock, X.frames, X.room, X.hears, X.method, X.code, (X.here.setHeapUsed s₂.heap s₂.slotsUsed).setVm hW'.alike, X.tail, State.WarmedH.trans X.warmed hW', X.limits, X.bytes, X.same.trans (hsame.setVm s.vm)⟩,
      ⟨g, mk, s₂, L, rfl, rfl, hqc, rfl, hL, rfl, rfl⟩, ?_⟩
    show Steps p.tables e below _ ((({ U with heap := s₂.heap, slotsUsed := s₂.slotsUsed } : State).setVm s₂.vm).setTop { g with pc := g.pc + len₂, stack := v.toList ++ g.stack })
    rw [← hs₂]
    exact hsteps
  · obtain ⟨e2, q2, q3, q4, q5, q6⟩ := id hsm
    have e3 : s₂ = ({ (U.calling g mk a).setFrames s₂.frames with heap := s₂.heap, slotsUsed := s₂.slotsUsed } : State).setVm s₂.vm := by
      have : s₂ = ({ s₂ with vm := (U.calling g mk a).vm } : State).setVm s₂.vm := rfl
      rw [e2] at this
      exact this
    have hf₂ : s₂.frames = .throwing q :: .java g :: U.frames.tail := hend
    have hW' : U.WarmedH s₂.vm := hW₂
    have hs₂ : s₂ = ((({ U with heap := s₂.heap, slotsUsed := s₂.slotsUsed } : State).setVm s₂.vm).setTop g).pushFrame (.throwing q) := by
      refine e3.trans ?_
      rw [hf₂, State.calling_eq h.top, State.setFrames_setFrames, State.pushFrame, State.frames_setTop _ hr', State.setTop_of_frames _ hr', State.setFrames_setFrames, hr]
      rfl
    have hsame : U.sameButNew ({ U with heap := s₂.heap, slotsUsed := s₂.slotsUsed } : State) L mc ms := by
      refine ⟨?_, q2, q3, q4, q5, q6⟩
      obtain ⟨t, ht, -⟩ := State.frames_cons hr
      show ({ U with heap := s₂.heap, slotsUsed := s₂.slotsUsed } : State) = { U.setFrames U.frames with heap := s₂.heap, slotsUsed := s₂.slotsUsed }
      rw [State.setFrames_self ht]
    subst hg
    refine Or.inr ⟨q, ⟨(({ U with heap := s₂.heap, slotsUsed := s₂.slotsUsed } : State).setVm s₂.vm), Ls ++ L, c0 + mc, s0 + ms⟩,
      ⟨X.admits, X.cas, X.clock, X.frames, X.room, X.hears, X.method, X.code, (X.here.setHeapUsed s₂.heap s₂.slotsUsed).setVm hW'.alike, X.tail, State.WarmedH.trans X.warmed hW', X.limits, X.bytes, X.same.trans (hsame.setVm s.vm)⟩,
      ⟨g, mk, s₂, L, E, ce, rfl, rfl, hx, hce, hcv, hcl, rfl, hL, rfl, rfl⟩, ?_⟩
    show Steps p.tables e below _ (((({ U with heap := s₂.heap, slotsUsed := s₂.slotsUsed } : State).setVm s₂.vm).setTop g).pushFrame (.throwing q))
    rw [← hs₂]
    exact hsteps
end Payer
section Calls
variable {p : Program} {l : Launch} {e : Env} {R : Room} {s : State} {m : MethodId} {args : Array Value} {below : List Frame} {meth : Method} {c : Code} {T : State} {locs : List Loc} {cells slots : Nat}
theorem vx_callV (X : Stand p l e R s m args below meth c T locs cells slots) (hexec : p.tables.exec = Jvm.exec) {own C : String} {index : Nat} {y : MethodName} {bytes : ByteArray} {maxL : Nat} {ret : Option FieldType}
    (hown : s.vm.findClass own = some m.cls) (hlink : (Cond.methodLink own index y).before args s = true) (hinst : (Cond.instanceMethod y).before args s = true) (hsel : (Cond.selects C y y).before args s = true)
    (hcode : (Cond.code y bytes maxL ret).before args s = true) (hy : y.cls ≠ "java/lang/invoke/MethodHandle" ∧ y.cls ≠ "java/lang/invoke/VarHandle")
    {W9 : Nat} {Pre : Pt → Array Value → Prop} {Post : Pt → Array Value → Option Value → Pt → Prop} {PostX : Pt → Array Value → Addr → Pt → Prop} (hK : vx_Back l R p e below s args y 3 W9 Pre Post PostX)
    {b : Addr} {cellB : Cell} (hcell : T.heap[b]? = some cellB) (hobj : cellB.vm.isStatics = false) (hcls : s.vm.findClass C = some cellB.cls)
    {g : JFrame} (hg : g.method = m) (hsize : g.locals.size = c.maxLocals) {argsL rest : List Value} (hlen : ∀ sig, parseMethodDescriptor y.desc = some sig → argsL.length = sig.parameters.length)
    (hstack : g.stack = argsL.reverse ++ .ref b :: rest) (hW : 2 * g.monitorRoom + (rest.map fun v => v.category).sum ≤ W9) (hdg : decode c.code g.pc = .ok (.invokevirtual index, 3))
    (hpre : ∀ vm₁, s.WarmedH vm₁ → Pre ⟨T.setVm vm₁, locs, cells, slots⟩ (Value.ref b :: argsL).toArray) :
    (∃ (v : Option Value) (vm₁ : Vm) (B : Pt), s.WarmedH vm₁ ∧ Stand p l e R s m args below meth c B.U B.locs B.cells B.slots ∧ Post ⟨T.setVm vm₁, locs, cells, slots⟩ (Value.ref b :: argsL).toArray v B ∧
      ∀ target, Steps p.tables e below (B.U.setTop { g with pc := g.pc + 3, stack := v.toList ++ rest }) target → Steps p.tables e below (T.setTop g) target) ∨
    (∃ (q : Addr) (vm₁ : Vm) (B : Pt), s.WarmedH vm₁ ∧ Stand p l e R s m args below meth c B.U B.locs B.cells B.slots ∧ PostX ⟨T.setVm vm₁, locs, cells, slots⟩ (Value.ref b :: argsL).toArray q B ∧
      Steps p.tables e below (T.setTop g) ((B.U.setTop { g with stack := rest }).pushFrame (.throwing q))) := by
  obtain ⟨mk, methM, hnamed, hmethM, hstM, habM⟩ := Cond.instanceMethod_spec hinst
  obtain ⟨methM', cM, hmethM', -, -, -, -, -, -, hsigM⟩ := Cond.code_spec hnamed hcode
  cases hmethM.symm.trans hmethM'
  obtain ⟨c2, r2, m2, q1, q2, q3, q4, kP, hkP, hkPi⟩ := Cond.selects_spec hsel
  cases hcls.symm.trans q1
  cases (State.methodFound?_of_named hnamed hy).symm.trans q2
  cases hnamed.symm.trans q3
  have hselP : selectMethod e.platform s.vm cellB.cls mk = .method mk := by rw [Launch.admits_selectMethod X.admits]; exact q4
  obtain ⟨vm₁, X₁, hstep₁⟩ := X.invokevirtual hexec hown hlink hnamed hmethM hstM hkP hkPi hy (a := b) (cell := cellB) hcell
    (fun z h => by rw [h] at hobj; cases hobj) hselP hmethM habM hkP hkPi (g := g) hg (argsL := argsL) (rest := rest) (hlen _ hsigM) hstack hdg
  rcases hK m meth c ⟨T.setVm vm₁, locs, cells, slots⟩ { g with stack := rest } (.invokevirtual index) mk (Value.ref b :: argsL).toArray X₁ hg hsize hdg hW (X₁.named hnamed) (hpre vm₁ X₁.warmed) with ⟨v, B, X', hpost, hsteps⟩ | ⟨q, B, X', hpost, hsteps⟩
  · exact Or.inl ⟨v, vm₁, B, X₁.warmed, X', hpost, fun target h => hstep₁ _ fun acts => by rw [doInvoke_state]; exact hsteps.trans h⟩
  · exact Or.inr ⟨q, vm₁, B, X₁.warmed, X', hpost, hstep₁ _ fun acts => by rw [doInvoke_state]; exact hsteps⟩
theorem vx_callS (X : Stand p l e R s m args below meth c T locs cells slots) (hexec : p.tables.exec = Jvm.exec) {own : String} {index : Nat} {y : MethodName} {bytes : ByteArray} {maxL : Nat} {ret : Option FieldType}
    (hown : s.vm.findClass own = some m.cls) (hlink : (Cond.methodLink own index y).before args s = true) (hstat : (Cond.static y).before args s = true) (hinit : (Cond.initialized y.cls).before args s = true)
    (hcode : (Cond.code y bytes maxL ret).before args s = true) (hy : y.cls ≠ "java/lang/invoke/MethodHandle" ∧ y.cls ≠ "java/lang/invoke/VarHandle")
    {W9 : Nat} {Pre : Pt → Array Value → Prop} {Post : Pt → Array Value → Option Value → Pt → Prop} {PostX : Pt → Array Value → Addr → Pt → Prop} (hK : vx_Back l R p e below s args y 3 W9 Pre Post PostX)
    {g : JFrame} (hg : g.method = m) (hsize : g.locals.size = c.maxLocals) {argsL rest : List Value} (hlen : ∀ sig, parseMethodDescriptor y.desc = some sig → argsL.length = sig.parameters.length)
    (hstack : g.stack = argsL.reverse ++ rest) (hW : 2 * g.monitorRoom + (rest.map fun v => v.category).sum ≤ W9) (hdg : decode c.code g.pc = .ok (.invokestatic index, 3))
    (hpre : ∀ vm₁, s.WarmedH vm₁ → Pre ⟨T.setVm vm₁, locs, cells, slots⟩ argsL.toArray) :
    (∃ (v : Option Value) (vm₁ : Vm) (B : Pt), s.WarmedH vm₁ ∧ Stand p l e R s m args below meth c B.U B.locs B.cells B.slots ∧ Post ⟨T.setVm vm₁, locs, cells, slots⟩ argsL.toArray v B ∧
      ∀ target, Steps p.tables e below (B.U.setTop { g with pc := g.pc + 3, stack := v.toList ++ rest }) target → Steps p.tables e below (T.setTop g) target) ∨
    (∃ (q : Addr) (vm₁ : Vm) (B : Pt), s.WarmedH vm₁ ∧ Stand p l e R s m args below meth c B.U B.locs B.cells B.slots ∧ PostX ⟨T.setVm vm₁, locs, cells, slots⟩ argsL.toArray q B ∧
      Steps p.tables e below (T.setTop g) ((B.U.setTop { g with stack := rest }).pushFrame (.throwing q))) := by
  obtain ⟨mk, hnamed⟩ := Cond.code_named hcode
  obtain ⟨methM, cM, hmethM, -, -, -, -, -, -, hsigM⟩ := Cond.code_spec hnamed hcode
  have hstatic : methM.isStatic = true := Cond.static_spec hnamed hmethM hstat
  obtain ⟨kP, hkP, -⟩ := className_of_methodNamed hnamed
  have hinitP : kP.init = .initialized := Cond.initialized_spec (findClass_of_methodNamed hnamed) hkP hinit
  obtain ⟨vm₁, X₁, hstep₁⟩ := X.invokestatic hexec hown hlink hnamed hmethM hstatic hkP hinitP hy (g := g) hg (argsL := argsL) (rest := rest) (hlen _ hsigM) hstack hdg
  rcases hK m meth c ⟨T.setVm vm₁, locs, cells, slots⟩ { g with stack := rest } (.invokestatic index) mk argsL.toArray X₁ hg hsize hdg hW (X₁.named hnamed) (hpre vm₁ X₁.warmed) with ⟨v, B, X', hpost, hsteps⟩ | ⟨q, B, X', hpost, hsteps⟩
  · exact Or.inl ⟨v, vm₁, B, X₁.warmed, X', hpost, fun target h => hstep₁ _ fun acts => by rw [doInvoke_state]; exact hsteps.trans h⟩
  · exact Or.inr ⟨q, vm₁, B, X₁.warmed, X', hpost, hstep₁ _ fun acts => by rw [doInvoke_state]; exact hsteps⟩
end Calls
theorem vx_cls {s : State} {T : State} {vm₁ : Vm} {E : String} {k : ClassId} (hW : s.WarmedH vm₁) (h : (T.setVm vm₁).vm.findClass E = some k) : s.vm.findClass E = some k := by
  have h1 : vm₁.findClass E = some k := h
  rw [hW.alike.findClass] at h1
  exact h1
/-- the method's frame g, with q thrown over it -/
def vx_W (p : Program) (l : Launch) (e : Env) (R : Room) (s : State) (m : MethodId) (args : Array Value) (below : List Frame) (meth : Method) (c : Code) (H : Heap) (locs : List Loc) (cells slots : Nat) (Q : State → Prop) (g : JFrame) (q : Addr) : Prop :=
  ∀ T : State, T.heap = H → Stand p l e R s m args below meth c T locs cells slots → ∃ t, Steps p.tables e below ((T.setTop g).pushFrame (.throwing q)) t ∧ Q t
def vx_Run (p : Program) (l : Launch) (e : Env) (R : Room) (s : State) (m : MethodId) (args : Array Value) (below : List Frame) (meth : Method) (c : Code) (H : Heap) (locs : List Loc) (cells slots mc ms : Nat) (g : JFrame) (rest : List Value) (Qa : State → Outcome → State → Prop) (XC : String → State → State → Prop) (free : Addr → Prop) : Prop :=
  ∀ T : State, T.heap = H → Stand p l e R s m args below meth c T locs cells slots →
    (∃ (v : Option Value) (st₀ t T' : State) (L : List Loc), st₀.heap = H ∧ Stand p l e R s m args below meth c T' (locs ++ L) (cells + mc) (slots + ms) ∧ (∀ q ∈ L, free q.base) ∧ T'.heap = t.heap ∧ T'.vm = t.vm ∧ Qa st₀ (.returned v) t ∧
      Goes p e below T g T' { g with pc := g.pc + 3, stack := v.toList ++ rest }) ∨
    (∃ (q : Addr) (st₀ t T' : State) (L : List Loc) (E : String) (ce : Cell), st₀.heap = H ∧ Stand p l e R s m args below meth c T' (locs ++ L) (cells + mc) (slots + ms) ∧ (∀ z ∈ L, free z.base) ∧ T'.heap = t.heap ∧ T'.vm = t.vm ∧ XC E st₀ t ∧ t.heap[q]? = some ce ∧ ce.vm = .none ∧ s.vm.findClass E = some ce.cls ∧
      Steps p.tables e below (T.setTop g) ((T'.setTop { g with stack := rest }).pushFrame (.throwing q)))
def vx_X {S : Type} (px : S → Prop) (B : String → S → State → Prop) (A : Nat → Prop) : String → State → State → Prop := fun E st t => ∃ u : S, px u ∧ B E u t ∧ va_F A st t
section Runs
variable {p : Program} {l : Launch} {e : Env} {R : Room} {s : State} {m : MethodId} {args : Array Value} {below : List Frame} {meth : Method} {c : Code} {H : Heap} {locs : List Loc} {cells slots : Nat}
variable {y : MethodName} {bytes cc : ByteArray} {maxL nL mc ms n index : Nat} {ret : Option FieldType} {ws : List Cond} {rm : Room} {Pc : Array Value → State → Prop} {Qc : Array Value → State → Outcome → State → Prop} {XC : String → State → State → Prop} {free : Addr → Prop} {Ts : List Cond} {own C : String} {b : Addr} {As rest : List Value} {g : JFrame}
theorem vx_callBack (cb : CallB R s args own index y bytes maxL ret ws rm mc ms n) (hM : vx_Met l y ws rm Pc Qc XC mc ms free) (hbl : FrameBlind Pc) : vx_Back l R p e below s args y 3 8 (PreOf R mc ms Pc) (PostOf Qc mc ms free) (vx_Post XC mc ms free) := by
  obtain ⟨hrc, hrs, hfr, hlo, hws, hcw, -, hini, -⟩ := cb
  exact vx_back (bytes := bytes) (maxL := maxL) (ret := ret) hM hbl hrc hrs hfr hlo hws hcw (fun a' U hW => word_at hW (Or.inl (by first | rfl | simp [Cond.onTables, Cond.keeps, Cond.steady])) hini)
theorem vx_runV (S : CallFix p m c cc nL s args Ts own) (hM : vx_Met l y ws rm Pc Qc XC mc ms free) (cw : CallW R s args own C index y bytes maxL ret ws rm mc ms n) (hp : PreV s H C b Pc As)
    (hg : g.method = m) (hn : As.length = n) (hsize : g.locals.size = nL) (hstack : g.stack = As.reverse ++ .ref b :: rest) (hW : 2 * g.monitorRoom + (rest.map fun v => v.category).sum ≤ 8) (hdg : decode cc g.pc = .ok (.invokevirtual index, 3)) (hf : cells + mc ≤ R.cells ∧ slots + ms ≤ R.slots) :
    vx_Run p l e R s m args below meth c H locs cells slots mc ms g rest (Qc (Value.ref b :: As).toArray) XC free := by
  have hK : vx_Back l R p e below s args y 3 8 (PreOf R mc ms Pc) (PostOf Qc mc ms free) (vx_Post XC mc ms free) := vx_callBack cw.1 hM hp.1
  obtain ⟨⟨-, -, -, -, -, -, hcode, -, hy, hlen, hl⟩, hin, hse⟩ := cw
  obtain ⟨hx, hb, hml, ho, -⟩ := S
  obtain ⟨-, ⟨cellB, hcB, hoB, hclB⟩, hPc⟩ := hp
  intro T hT X
  rcases vx_callV X hx (C := C) (bytes := bytes) (maxL := maxL) (ret := ret) ho hl hin hse hcode hy hK (by rw [hT]; exact hcB) hoB hclB hg (hsize.trans hml.symm) (argsL := As) (rest := rest) (fun sig h => hn.trans (hlen sig h)) hstack hW (by rw [hb]; exact hdg)
    (fun vm₁ hW₁ => ⟨hf.1, hf.2, hPc (T.setVm vm₁) hT hW₁⟩) with ⟨v, vm₁, ⟨U', l2, c2, s2⟩, hW₁, X', ⟨g', mk, t, L, e1, e2, hq, h1, hL, h2, h3⟩, st⟩ | ⟨q, vm₁, ⟨U', l2, c2, s2⟩, hW₁, X', ⟨g', mk, t, L, E, ce, e1, e2, hq, hce, hcv, hcl, h1, hL, h2, h3⟩, st⟩
  · dsimp only [Pt.U, Pt.locs, Pt.cells, Pt.slots] at X' e1 e2 h1 h2 h3 st
    subst h1; subst h2; subst h3
    exact Or.inl ⟨v, (T.setVm vm₁).calling g' mk (Value.ref b :: As).toArray, t, U', L, hT, X', hL, e1, e2, hq, st⟩
  · dsimp only [Pt.U, Pt.locs, Pt.cells, Pt.slots] at X' e1 e2 h1 h2 h3 st hcl
    subst h1; subst h2; subst h3
    exact Or.inr ⟨q, (T.setVm vm₁).calling g' mk (Value.ref b :: As).toArray, t, U', L, E, ce, hT, X', hL, e1, e2, hq, hce, hcv, vx_cls hW₁ hcl, st⟩
theorem vx_runS (S : CallFix p m c cc nL s args Ts own) (hM : vx_Met l y ws rm Pc Qc XC mc ms free) (cw : CallB R s args own index y bytes maxL ret ws rm mc ms n ∧ (Cond.static y).before args s = true) (hp : PreS s H Pc As)
    (hg : g.method = m) (hn : As.length = n) (hsize : g.locals.size = nL) (hstack : g.stack = As.reverse ++ rest) (hW : 2 * g.monitorRoom + (rest.map fun v => v.category).sum ≤ 8) (hdg : decode cc g.pc = .ok (.invokestatic index, 3)) (hf : cells + mc ≤ R.cells ∧ slots + ms ≤ R.slots) :
    vx_Run p l e R s m args below meth c H locs cells slots mc ms g rest (Qc As.toArray) XC free := by
  have hK : vx_Back l R p e below s args y 3 8 (PreOf R mc ms Pc) (PostOf Qc mc ms free) (vx_Post XC mc ms free) := vx_callBack cw.1 hM hp.1
  obtain ⟨⟨-, -, -, -, -, -, hcode, hini, hy, hlen, hl⟩, hstt⟩ := cw
  obtain ⟨hx, hb, hml, ho, -⟩ := S
  intro T hT X
  rcases vx_callS X hx (bytes := bytes) (maxL := maxL) (ret := ret) ho hl hstt hini hcode hy hK hg (hsize.trans hml.symm) (argsL := As) (rest := rest) (fun sig h => hn.trans (hlen sig h)) hstack hW (by rw [hb]; exact hdg)
    (fun vm₁ hW₁ => ⟨hf.1, hf.2, hp.2 (T.setVm vm₁) hT hW₁⟩) with ⟨v, vm₁, ⟨U', l2, c2, s2⟩, hW₁, X', ⟨g', mk, t, L, e1, e2, hq, h1, hL, h2, h3⟩, st⟩ | ⟨q, vm₁, ⟨U', l2, c2, s2⟩, hW₁, X', ⟨g', mk, t, L, E, ce, e1, e2, hq, hce, hcv, hcl, h1, hL, h2, h3⟩, st⟩
  · dsimp only [Pt.U, Pt.locs, Pt.cells, Pt.slots] at X' e1 e2 h1 h2 h3 st
    subst h1; subst h2; subst h3
    exact Or.inl ⟨v, (T.setVm vm₁).calling g' mk As.toArray, t, U', L, hT, X', hL, e1, e2, hq, st⟩
  · dsimp only [Pt.U, Pt.locs, Pt.cells, Pt.slots] at X' e1 e2 h1 h2 h3 st hcl
    subst h1; subst h2; subst h3
    exact Or.inr ⟨q, (T.setVm vm₁).calling g' mk As.toArray, t, U', L, E, ce, hT, X', hL, e1, e2, hq, hce, hcv, vx_cls hW₁ hcl, st⟩
end Runs
section Rows
variable {p : Program} {l : Launch} {e : Env} {R : Room} {s : State} {m : MethodId} {args : Array Value} {below : List Frame} {meth : Method} {c : Code} {H : Heap} {locs : List Loc} {cells slots : Nat} {Q : State → Prop}
variable {mc ms : Nat} {free : Addr → Prop} {A0 A1 : Nat → Prop} {H0 : Heap} {a : Array Value} {pc : Nat} {ls : Array Slot} {st0 rest : List Value}
theorem vx_keep {st₀ t T' : State} {L : List Loc} (h0 : st₀.heap = H) (e1 : T'.heap = t.heap) (hS : va_S A0 H0 H locs) (hA : ∀ q, q < H.size → A1 q → A0 q) (hf : ∀ q, free q → A0 q) (hL : ∀ q ∈ L, free q.base) (hF : va_F A1 st₀ t) :
    H.size ≤ T'.heap.size ∧ (∀ q : Nat, q < H.size → ¬ A1 q → T'.heap[q]? = H[q]?) ∧ va_S A0 H0 T'.heap (locs ++ L) := by
  obtain ⟨hz, hk⟩ := hF
  rw [h0] at hz hk
  exact ⟨by rw [e1]; exact hz, fun q h1 h2 => by rw [e1]; exact hk q h1 h2,
    ⟨Nat.le_trans hS.1 (by rw [e1]; exact hz), fun q h1 h2 => by rw [e1, hk q (Nat.lt_of_lt_of_le h1 hS.1) (fun z => h2 (hA q (Nat.lt_of_lt_of_le h1 hS.1) z))]; exact hS.2.1 q h1 h2, fun q hq => by
      rcases List.mem_append.mp hq with h | h
      · exact hS.2.2 q h
      · exact hf _ (hL q h)⟩⟩
theorem vx_calli {S SX : Type} {post : Int32 → S → Prop} {px : SX → Prop} {B : S → State → Prop} {BX : String → SX → State → Prop} {AX : Nat → Prop} (hr : vx_Run p l e R s m args below meth c H locs cells slots mc ms (F0 m pc ls st0) rest (va_Qi post B A1 a) (vx_X px BX AX) free) (hS : va_S A0 H0 H locs) (hA : ∀ q, q < H.size → A1 q → A0 q) (hf : ∀ q, free q → A0 q) (hAX : ∀ q, q < H.size → AX q → A0 q)
    (kx : ∀ (E : String) (ce : Cell) (q9 : Addr) (u : SX) (t : State) (H1 : Heap) (locs1 : List Loc), t.heap = H1 → s.vm.Alike t.vm → px u → BX E u t → H.size ≤ H1.size → (∀ q : Nat, q < H.size → ¬ AX q → H1[q]? = H[q]?) → va_S A0 H0 H1 locs1 → H1[q9]? = some ce → ce.vm = .none → s.vm.findClass E = some ce.cls → vx_W p l e R s m args below meth c H1 locs1 (cells + mc) (slots + ms) Q (F0 m pc ls rest) q9)
    (kk : ∀ (r : Int32) (u : S) (t : State) (H1 : Heap) (locs1 : List Loc), t.heap = H1 → s.vm.Alike t.vm → post r u → B u t → H.size ≤ H1.size → (∀ q : Nat, q < H.size → ¬ A1 q → H1[q]? = H[q]?) → va_S A0 H0 H1 locs1 → W p l e R s m args below meth c H1 locs1 (cells + mc) (slots + ms) Q (F0 m (pc + 3) ls (.int r :: rest))) : W p l e R s m args below meth c H locs cells slots Q (F0 m pc ls st0) := by
  intro T hT X
  rcases hr T hT X with ⟨v, st₀, t, T', L, h0, X', hL, e1, e2, ⟨⟨r, u, hv, hp, hb⟩, hF⟩, st⟩ | ⟨q, st₀, t, T', L, E, ce, h0, X', hL, e1, e2, ⟨u, hp, hb, hF⟩, hce, hcv, hcl, st⟩
  · cases hv
    obtain ⟨k1, k2, k3⟩ := vx_keep h0 e1 hS hA hf hL hF
    obtain ⟨t2, a1, b1⟩ := kk r u t T'.heap (locs ++ L) e1.symm (by rw [← e2]; exact X'.warmed.alike) hp hb k1 k2 k3 T' rfl X'
    exact ⟨t2, st t2 a1, b1⟩
  · obtain ⟨k1, k2, k3⟩ := vx_keep h0 e1 hS hAX hf hL hF
    obtain ⟨t2, a1, b1⟩ := kx E ce q u t T'.heap (locs ++ L) e1.symm (by rw [← e2]; exact X'.warmed.alike) hp hb k1 k2 k3 (by rw [e1]; exact hce) hcv hcl T' rfl X'
    exact ⟨t2, st.trans a1, b1⟩
theorem vx_calll {S SX : Type} {post : Int64 → S → Prop} {px : SX → Prop} {B : S → State → Prop} {BX : String → SX → State → Prop} {AX : Nat → Prop} (hr : vx_Run p l e R s m args below meth c H locs cells slots mc ms (F0 m pc ls st0) rest (va_Ql post B A1 a) (vx_X px BX AX) free) (hS : va_S A0 H0 H locs) (hA : ∀ q, q < H.size → A1 q → A0 q) (hf : ∀ q, free q → A0 q) (hAX : ∀ q, q < H.size → AX q → A0 q)
    (kx : ∀ (E : String) (ce : Cell) (q9 : Addr) (u : SX) (t : State) (H1 : Heap) (locs1 : List Loc), t.heap = H1 → s.vm.Alike t.vm → px u → BX E u t → H.size ≤ H1.size → (∀ q : Nat, q < H.size → ¬ AX q → H1[q]? = H[q]?) → va_S A0 H0 H1 locs1 → H1[q9]? = some ce → ce.vm = .none → s.vm.findClass E = some ce.cls → vx_W p l e R s m args below meth c H1 locs1 (cells + mc) (slots + ms) Q (F0 m pc ls rest) q9)
    (kk : ∀ (r : Int64) (u : S) (t : State) (H1 : Heap) (locs1 : List Loc), t.heap = H1 → s.vm.Alike t.vm → post r u → B u t → H.size ≤ H1.size → (∀ q : Nat, q < H.size → ¬ A1 q → H1[q]? = H[q]?) → va_S A0 H0 H1 locs1 → W p l e R s m args below meth c H1 locs1 (cells + mc) (slots + ms) Q (F0 m (pc + 3) ls (.long r :: rest))) : W p l e R s m args below meth c H locs cells slots Q (F0 m pc ls st0) := by
  intro T hT X
  rcases hr T hT X with ⟨v, st₀, t, T', L, h0, X', hL, e1, e2, ⟨⟨r, u, hv, hp, hb⟩, hF⟩, st⟩ | ⟨q, st₀, t, T', L, E, ce, h0, X', hL, e1, e2, ⟨u, hp, hb, hF⟩, hce, hcv, hcl, st⟩
  · cases hv
    obtain ⟨k1, k2, k3⟩ := vx_keep h0 e1 hS hA hf hL hF
    obtain ⟨t2, a1, b1⟩ := kk r u t T'.heap (locs ++ L) e1.symm (by rw [← e2]; exact X'.warmed.alike) hp hb k1 k2 k3 T' rfl X'
    exact ⟨t2, st t2 a1, b1⟩
  · obtain ⟨k1, k2, k3⟩ := vx_keep h0 e1 hS hAX hf hL hF
    obtain ⟨t2, a1, b1⟩ := kx E ce q u t T'.heap (locs ++ L) e1.symm (by rw [← e2]; exact X'.warmed.alike) hp hb k1 k2 k3 (by rw [e1]; exact hce) hcv hcl T' rfl X'
    exact ⟨t2, st.trans a1, b1⟩
theorem vx_callf {S SX : Type} {post : UInt32 → S → Prop} {px : SX → Prop} {B : S → State → Prop} {BX : String → SX → State → Prop} {AX : Nat → Prop} (hr : vx_Run p l e R s m args below meth c H locs cells slots mc ms (F0 m pc ls st0) rest (va_Qf post B A1 a) (vx_X px BX AX) free) (hS : va_S A0 H0 H locs) (hA : ∀ q, q < H.size → A1 q → A0 q) (hf : ∀ q, free q → A0 q) (hAX : ∀ q, q < H.size → AX q → A0 q)
    (kx : ∀ (E : String) (ce : Cell) (q9 : Addr) (u : SX) (t : State) (H1 : Heap) (locs1 : List Loc), t.heap = H1 → s.vm.Alike t.vm → px u → BX E u t → H.size ≤ H1.size → (∀ q : Nat, q < H.size → ¬ AX q → H1[q]? = H[q]?) → va_S A0 H0 H1 locs1 → H1[q9]? = some ce → ce.vm = .none → s.vm.findClass E = some ce.cls → vx_W p l e R s m args below meth c H1 locs1 (cells + mc) (slots + ms) Q (F0 m pc ls rest) q9)
    (kk : ∀ (r : UInt32) (u : S) (t : State) (H1 : Heap) (locs1 : List Loc), t.heap = H1 → s.vm.Alike t.vm → post r u → B u t → H.size ≤ H1.size → (∀ q : Nat, q < H.size → ¬ A1 q → H1[q]? = H[q]?) → va_S A0 H0 H1 locs1 → W p l e R s m args below meth c H1 locs1 (cells + mc) (slots + ms) Q (F0 m (pc + 3) ls (.float r :: rest))) : W p l e R s m args below meth c H locs cells slots Q (F0 m pc ls st0) := by
  intro T hT X
  rcases hr T hT X with ⟨v, st₀, t, T', L, h0, X', hL, e1, e2, ⟨⟨r, u, hv, hp, hb⟩, hF⟩, st⟩ | ⟨q, st₀, t, T', L, E, ce, h0, X', hL, e1, e2, ⟨u, hp, hb, hF⟩, hce, hcv, hcl, st⟩
  · cases hv
    obtain ⟨k1, k2, k3⟩ := vx_keep h0 e1 hS hA hf hL hF
    obtain ⟨t2, a1, b1⟩ := kk r u t T'.heap (locs ++ L) e1.symm (by rw [← e2]; exact X'.warmed.alike) hp hb k1 k2 k3 T' rfl X'
    exact ⟨t2, st t2 a1, b1⟩
  · obtain ⟨k1, k2, k3⟩ := vx_keep h0 e1 hS hAX hf hL hF
    obtain ⟨t2, a1, b1⟩ := kx E ce q u t T'.heap (locs ++ L) e1.symm (by rw [← e2]; exact X'.warmed.alike) hp hb k1 k2 k3 (by rw [e1]; exact hce) hcv hcl T' rfl X'
    exact ⟨t2, st.trans a1, b1⟩
theorem vx_calld {S SX : Type} {post : UInt64 → S → Prop} {px : SX → Prop} {B : S → State → Prop} {BX : String → SX → State → Prop} {AX : Nat → Prop} (hr : vx_Run p l e R s m args below meth c H locs cells slots mc ms (F0 m pc ls st0) rest (va_Qd post B A1 a) (vx_X px BX AX) free) (hS : va_S A0 H0 H locs) (hA : ∀ q, q < H.size → A1 q → A0 q) (hf : ∀ q, free q → A0 q) (hAX : ∀ q, q < H.size → AX q → A0 q)
    (kx : ∀ (E : String) (ce : Cell) (q9 : Addr) (u : SX) (t : State) (H1 : Heap) (locs1 : List Loc), t.heap = H1 → s.vm.Alike t.vm → px u → BX E u t → H.size ≤ H1.size → (∀ q : Nat, q < H.size → ¬ AX q → H1[q]? = H[q]?) → va_S A0 H0 H1 locs1 → H1[q9]? = some ce → ce.vm = .none → s.vm.findClass E = some ce.cls → vx_W p l e R s m args below meth c H1 locs1 (cells + mc) (slots + ms) Q (F0 m pc ls rest) q9)
    (kk : ∀ (r : UInt64) (u : S) (t : State) (H1 : Heap) (locs1 : List Loc), t.heap = H1 → s.vm.Alike t.vm → post r u → B u t → H.size ≤ H1.size → (∀ q : Nat, q < H.size → ¬ A1 q → H1[q]? = H[q]?) → va_S A0 H0 H1 locs1 → W p l e R s m args below meth c H1 locs1 (cells + mc) (slots + ms) Q (F0 m (pc + 3) ls (.double r :: rest))) : W p l e R s m args below meth c H locs cells slots Q (F0 m pc ls st0) := by
  intro T hT X
  rcases hr T hT X with ⟨v, st₀, t, T', L, h0, X', hL, e1, e2, ⟨⟨r, u, hv, hp, hb⟩, hF⟩, st⟩ | ⟨q, st₀, t, T', L, E, ce, h0, X', hL, e1, e2, ⟨u, hp, hb, hF⟩, hce, hcv, hcl, st⟩
  · cases hv
    obtain ⟨k1, k2, k3⟩ := vx_keep h0 e1 hS hA hf hL hF
    obtain ⟨t2, a1, b1⟩ := kk r u t T'.heap (locs ++ L) e1.symm (by rw [← e2]; exact X'.warmed.alike) hp hb k1 k2 k3 T' rfl X'
    exact ⟨t2, st t2 a1, b1⟩
  · obtain ⟨k1, k2, k3⟩ := vx_keep h0 e1 hS hAX hf hL hF
    obtain ⟨t2, a1, b1⟩ := kx E ce q u t T'.heap (locs ++ L) e1.symm (by rw [← e2]; exact X'.warmed.alike) hp hb k1 k2 k3 (by rw [e1]; exact hce) hcv hcl T' rfl X'
    exact ⟨t2, st.trans a1, b1⟩
theorem vx_callv {S SX : Type} {post : S → Prop} {px : SX → Prop} {B : S → State → Prop} {BX : String → SX → State → Prop} {AX : Nat → Prop} (hr : vx_Run p l e R s m args below meth c H locs cells slots mc ms (F0 m pc ls st0) rest (va_Qv post B A1 a) (vx_X px BX AX) free) (hS : va_S A0 H0 H locs) (hA : ∀ q, q < H.size → A1 q → A0 q) (hf : ∀ q, free q → A0 q) (hAX : ∀ q, q < H.size → AX q → A0 q)
    (kx : ∀ (E : String) (ce : Cell) (q9 : Addr) (u : SX) (t : State) (H1 : Heap) (locs1 : List Loc), t.heap = H1 → s.vm.Alike t.vm → px u → BX E u t → H.size ≤ H1.size → (∀ q : Nat, q < H.size → ¬ AX q → H1[q]? = H[q]?) → va_S A0 H0 H1 locs1 → H1[q9]? = some ce → ce.vm = .none → s.vm.findClass E = some ce.cls → vx_W p l e R s m args below meth c H1 locs1 (cells + mc) (slots + ms) Q (F0 m pc ls rest) q9)
    (kk : ∀ (u : S) (t : State) (H1 : Heap) (locs1 : List Loc), t.heap = H1 → s.vm.Alike t.vm → post u → B u t → H.size ≤ H1.size → (∀ q : Nat, q < H.size → ¬ A1 q → H1[q]? = H[q]?) → va_S A0 H0 H1 locs1 → W p l e R s m args below meth c H1 locs1 (cells + mc) (slots + ms) Q (F0 m (pc + 3) ls (rest))) : W p l e R s m args below meth c H locs cells slots Q (F0 m pc ls st0) := by
  intro T hT X
  rcases hr T hT X with ⟨v, st₀, t, T', L, h0, X', hL, e1, e2, ⟨⟨u, hv, hp, hb⟩, hF⟩, st⟩ | ⟨q, st₀, t, T', L, E, ce, h0, X', hL, e1, e2, ⟨u, hp, hb, hF⟩, hce, hcv, hcl, st⟩
  · cases hv
    obtain ⟨k1, k2, k3⟩ := vx_keep h0 e1 hS hA hf hL hF
    obtain ⟨t2, a1, b1⟩ := kk u t T'.heap (locs ++ L) e1.symm (by rw [← e2]; exact X'.warmed.alike) hp hb k1 k2 k3 T' rfl X'
    exact ⟨t2, st t2 a1, b1⟩
  · obtain ⟨k1, k2, k3⟩ := vx_keep h0 e1 hS hAX hf hL hF
    obtain ⟨t2, a1, b1⟩ := kx E ce q u t T'.heap (locs ++ L) e1.symm (by rw [← e2]; exact X'.warmed.alike) hp hb k1 k2 k3 (by rw [e1]; exact hce) hcv hcl T' rfl X'
    exact ⟨t2, st.trans a1, b1⟩
/-- caught by the row x of this method's table; the rows ahead don't take it -/
theorem vx_catch {own name : String} {E : String} {ce : Cell} {q : Addr} (hown : s.vm.findClass own = some m.cls) (pre : List ExceptionTableEntry) (x : ExceptionTableEntry) (suf : List ExceptionTableEntry) (hsplit : c.exceptionTable.toList = pre ++ x :: suf)
    (hpass : ∀ z ∈ pre, covers z pc = false ∨ (z.catchType ≠ 0 ∧ ∃ nm : String, (Cond.classLink own z.catchType nm).before args s = true ∧ va_Nc E nm s)) (hx : covers x pc = true) (h0 : x.catchType ≠ 0)
    (hlink : (Cond.classLink own x.catchType name).before args s = true) (hcast : (Cond.castable E name).before args s = true) (hcell : H[q]? = some ce) (hv : ce.vm = .none) (hcl : s.vm.findClass E = some ce.cls)
    (kk : W p l e R s m args below meth c H locs cells slots Q (F0 m x.handlerPc ls [.ref q])) : vx_W p l e R s m args below meth c H locs cells slots Q (F0 m pc ls rest) q := by
  intro T hT X
  have hpl : e.platform.magicAccessors = ({} : Platform).magicAccessors := by rw [X.admits.platform]
  obtain ⟨c3, c4, hc3, hc4, hasg⟩ := Cond.castable_spec hcast
  cases Option.some.inj (hc3.symm.trans hcl)
  obtain ⟨c5, hc5, hcl5⟩ := Cond.classLink_spec hown hlink e.platform hpl
  cases Option.some.inj (hc4.symm.trans hc5)
  obtain ⟨vm', X', st⟩ := Jvm.Stand.thenCaughtThrough X q (g := F0 m pc ls rest) rfl (Steps.refl _) (by rw [hT]; exact hcell) (by rw [hv]; rfl) (by obtain ⟨k9, h9, -⟩ := Vm.findClass_spec hcl; exact ⟨k9, h9⟩) pre x suf hsplit
    (fun z hz => by
      rcases hpass z hz with h | ⟨hz0, nm, hl1, hn1⟩
      · exact Or.inl h
      · obtain ⟨c6, hc6, hcl6⟩ := Cond.classLink_spec hown hl1 e.platform hpl
        obtain ⟨a8, b8, h1, h2, h3⟩ := hn1
        cases Option.some.inj (h1.symm.trans hcl)
        cases Option.some.inj (h2.symm.trans hc6)
        exact Or.inr ⟨hz0, _, hcl6, h3⟩) hx (Or.inr ⟨h0, c4, hcl5, hasg⟩)
  obtain ⟨t, a1, b1⟩ := kk (T.setVm vm') hT X'
  exact ⟨t, st.trans a1, b1⟩
end Rows
section Ends
variable {p : Program} {l : Launch} {e : Env} {R : Room} {s : State} {m : MethodId} {args : Array Value} {below : List Frame} {meth : Method} {c : Code} {H : Heap} {locs : List Loc} {cells slots : Nat} {Q : State → Prop}
variable {mc ms : Nat} {free : Addr → Prop} {A0 A1 : Nat → Prop} {H0 : Heap} {a : Array Value} {ls : Array Slot} {st0 rest : List Value}
variable {Qc : Array Value → State → Outcome → State → Prop} {XC : String → State → State → Prop}
/-- what a body that may throw owes at its end -/
def vx_MQ (below : List Frame) (Qc : Array Value → State → Outcome → State → Prop) (XC : String → State → State → Prop) (a : Array Value) (s : State) (mc ms : Nat) (free : Addr → Prop) : State → Prop := fun t =>
  ∃ o, t.status = .running ∧ Ended t below o ∧ vx_Q Qc XC mc ms free a s o t
theorem vx_ret {g : JFrame} {mc ms : Nat} (k : W p l e R s m args below meth c H locs cells slots (MQ below Qc args s mc ms free) g) : W p l e R s m args below meth c H locs cells slots (vx_MQ below Qc XC args s mc ms free) g := by
  intro T hT X
  obtain ⟨t, a1, o, b1, b2, b3, b4⟩ := k T hT X
  exact ⟨t, a1, o, b1, b2, Or.inl ⟨b3, b4⟩⟩
/-- not caught here: it goes on to the caller -/
theorem vx_widen {g : JFrame} {q : Addr} {k n : Nat} (h1 : cells ≤ k) (h2 : slots ≤ n) (kk : vx_W p l e R s m args below meth c H locs k n Q g q) : vx_W p l e R s m args below meth c H locs cells slots Q g q := fun T hT X => kk T hT (stand_widen X h1 h2)
theorem vx_out {pc : Nat} {E : String} {ce : Cell} {q : Addr} {mc ms : Nat} (hout : ∀ x ∈ c.exceptionTable.toList, covers x pc = false) (hlocks : meth.locks = false) (hcell : H[q]? = some ce) (hv : ce.vm = .none) (hcl : s.vm.findClass E = some ce.cls)
    (hx : ∀ t : State, t.heap = H → s.vm.Alike t.vm → XC E s t) (hf : ∀ z ∈ locs, free z.base) (hc : cells ≤ mc) (hs : slots ≤ ms) :
    vx_W p l e R s m args below meth c H locs cells slots (vx_MQ below Qc XC args s mc ms free) (F0 m pc ls rest) q := by
  intro T hT X
  obtain ⟨st1, hrun, hend, hW, hsm⟩ := X.leaveThrown q (g := F0 m pc ls rest) rfl rfl rfl hout hlocks
  have hcell9 : (T.setFrames (.throwing q :: below)).heap[q]? = some ce := by
    show T.heap[q]? = some ce
    rw [hT]; exact hcell
  exact ⟨_, st1, .threw q, hrun, hend, Or.inr ⟨q, rfl, E, ce, locs, hx _ hT hW.alike, hcell9, hv, hcl, hW, hsm.mono hc hs, hf⟩⟩
theorem vx_frame {U : State} {k n : Nat} (h : s.sameButNew ({ U with vm := s.vm } : State) locs k n) : s.heap.size ≤ U.heap.size ∧ ∀ q : Nat, q < s.heap.size → (∀ z ∈ locs, z.base ≠ q) → U.heap[q]? = s.heap[q]? := by
  obtain ⟨-, h2, -, -, -, h6⟩ := h
  refine ⟨h2, fun q hq hz => ?_⟩
  obtain ⟨c9, e1, e2, e3, e4⟩ := h6 q _ (Array.getElem?_eq_getElem hq)
  have hs : c9.slots = (s.heap[q]).slots := Array.ext_getElem? fun i => e4 i fun hm => hz _ hm rfl
  have h9 : c9 = s.heap[q] := by
    rw [hs] at e2
    exact e2
  have e5 : U.heap[q]? = some c9 := e1
  rw [e5, h9, Array.getElem?_eq_getElem hq]
/-- the words of a throw but the four that speak of the heap -/
def vx_no (w : Cond) : Bool := decide (w ≠ .isRef (.static Bundle.tN "UNASSIGNED_STACK" Bundle.steD)) && decide (w ≠ .isRef (.static Bundle.tN "SUPPRESSED_SENTINEL" Bundle.listD)) && decide (w ≠ .laysStatic Bundle.tN "UNASSIGNED_STACK" Bundle.steD) && decide (w ≠ .laysStatic Bundle.tN "SUPPRESSED_SENTINEL" Bundle.listD)
def vx_at0 (own : String) (ic : Nat) (X : String) (names : List String) : List Cond := (Bundle.ownAtoms0 own ic X names).filter vx_no
def vx_atS (own : String) (ic : Nat) (X : String) (names : List String) : List Cond := (Bundle.ownAtoms own ic X names).filter vx_no
/-- a word that the tables alone decide, or a good one -/
def vx_ot (w : Cond) : Bool := w.onTables || goodWord w
theorem vx_ot_at {args a' : Array Value} {s U : State} {w : Cond} (hW : s.WarmedH U.vm) (hvm : s.vm = U.vm) (hg : vx_ot w = true) (h : w.before args s = true) : w.before a' U = true := by
  simp only [vx_ot, Bool.or_eq_true] at hg
  rcases hg with hg | hg
  · exact va_tabs hg hvm h
  · exact word_at hW (good_of_word hg) h
/-- a list's words: the good ones out of the method's own list, the others by premises of their own -/
theorem vx_hat {args : Array Value} {s : State} {L B : List Cond} (h1 : ∀ w ∈ L.filter goodWord, w.before args s = true) (h2 : ∀ w ∈ L.filter (fun w => !goodWord w), w ∈ B) (h3 : ∀ w ∈ B, w.before args s = true) : ∀ w ∈ L, w.before args s = true := by
  intro w hw
  by_cases g : goodWord w = true
  · exact h1 w (List.mem_filter.mpr ⟨hw, g⟩)
  · refine h3 w (h2 w (List.mem_filter.mpr ⟨hw, ?_⟩))
    show (!goodWord w) = true
    cases hgw : goodWord w
    · rfl
    · exact absurd hgw g
theorem vx_c {args : Array Value} {s : State} {w : Cond} {B : List Cond} (h : w.before args s = true) (t : ∀ w ∈ B, w.before args s = true) : ∀ w' ∈ w :: B, w'.before args s = true := fun w' h' => (List.mem_cons.mp h').elim (fun e => by rw [e]; exact h) (t w')
theorem vx_n {args : Array Value} {s : State} : ∀ w ∈ ([] : List Cond), w.before args s = true := fun _ h => nomatch h
theorem vx_own {args : Array Value} {s : State} {L : List Cond} (h1 : ∀ w ∈ L.filter vx_no, w.before args s = true)
    (hU : (Cond.isRef (.static Bundle.tN "UNASSIGNED_STACK" Bundle.steD)).before args s = true) (hN : (Cond.isRef (.static Bundle.tN "SUPPRESSED_SENTINEL" Bundle.listD)).before args s = true)
    (lU : (Cond.laysStatic Bundle.tN "UNASSIGNED_STACK" Bundle.steD).before args s = true) (lN : (Cond.laysStatic Bundle.tN "SUPPRESSED_SENTINEL" Bundle.listD).before args s = true) : ∀ w ∈ L, w.before args s = true := by
  intro w hw
  by_cases e1 : w = .isRef (.static Bundle.tN "UNASSIGNED_STACK" Bundle.steD)
  · rw [e1]; exact hU
  · by_cases e2 : w = .isRef (.static Bundle.tN "SUPPRESSED_SENTINEL" Bundle.listD)
    · rw [e2]; exact hN
    · by_cases e3 : w = .laysStatic Bundle.tN "UNASSIGNED_STACK" Bundle.steD
      · rw [e3]; exact lU
      · by_cases e4 : w = .laysStatic Bundle.tN "SUPPRESSED_SENTINEL" Bundle.listD
        · rw [e4]; exact lN
        · exact h1 w (List.mem_filter.mpr ⟨hw, by unfold vx_no; rw [decide_eq_true e1, decide_eq_true e2, decide_eq_true e3, decide_eq_true e4]; rfl⟩)
/-- where a static field lies, its class's statics cell in H -/
def vx_L (C n d : String) (A : Nat → Prop) (U : State) (H : Heap) : Prop := ∃ (c : ClassId) (k : Class) (i : Nat) (f : Field) (a : Nat) (cell : Cell), U.vm.findClass C = some c ∧ U.fieldFound? C n d = some (c, k, i, f) ∧ f.isStatic = true ∧ k.statics = some a ∧ H[a]? = some cell ∧ cell.vm.isStatics = true ∧ cell.cls = c ∧ f.slot < cell.slots.size ∧ k.staticTypes[f.slot]? = some f.type ∧ ¬ A a
theorem vx_L.moved {C n d : String} {A : Nat → Prop} {u U : State} {H : Heap} (hvm : u.vm.Alike U.vm) (h : vx_L C n d A u H) : vx_L C n d A U H := by
  obtain ⟨c, k, i, f, a, cell, h1, h2, h3, h4, h5, h6, h7, h8, h9, h10⟩ := h
  obtain ⟨k', hi', he⟩ := State.fieldFound?_setVm hvm h2
  exact ⟨c, k', i, f, a, cell, by rw [hvm.findClass]; exact h1, hi', h3, by rw [he]; exact h4, h5, h6, h7, h8, by rw [he]; exact h9, h10⟩
theorem vx_L.kept {C n d : String} {A : Nat → Prop} {U : State} {H H1 : Heap} (h : vx_L C n d A U H) (hq : ∀ a : Nat, a < H.size → ¬ A a → H1[a]? = H[a]?) : vx_L C n d A U H1 := by
  obtain ⟨c, k, i, f, a, cell, h1, h2, h3, h4, h5, h6, h7, h8, h9, h10⟩ := h
  exact ⟨c, k, i, f, a, cell, h1, h2, h3, h4, by rw [hq a (Array.getElem?_eq_some_iff.mp h5).1 h10]; exact h5, h6, h7, h8, h9, h10⟩
theorem vx_L.narrow {C n d : String} {A B : Nat → Prop} {U : State} {H : Heap} (h : vx_L C n d A U H) (hAB : ∀ q, B q → A q) : vx_L C n d B U H := by
  obtain ⟨c, k, i, f, a, cell, h1, h2, h3, h4, h5, h6, h7, h8, h9, h10⟩ := h
  exact ⟨c, k, i, f, a, cell, h1, h2, h3, h4, h5, h6, h7, h8, h9, fun z => h10 (hAB _ z)⟩
theorem vx_L.word {C n d : String} {A : Nat → Prop} {s : State} {args : Array Value} (h : vx_L C n d A s s.heap) : (Cond.laysStatic C n d).before args s = true := by
  obtain ⟨c, k, i, f, a, cell, h1, h2, h3, h4, h5, h6, h7, h8, h9, -⟩ := h
  show (Cond.laysStatic C n d).holds args s none s [] = true
  exact Cond.laysStatic_of h1 h2 h3 h4 h5 h6 h7 h8 h9
/-- .. and what it holds: null or some reference -/
def vx_Zq (C n d : String) (A : Nat → Prop) (U : State) (H : Heap) : Prop := va_Zq C n d A U H ∧ vx_L C n d A U H
theorem vx_Zq.moved {C n d : String} {A : Nat → Prop} {u U : State} {H : Heap} (hvm : u.vm.Alike U.vm) (h : vx_Zq C n d A u H) : vx_Zq C n d A U H := ⟨va_Zq.moved hvm h.1, vx_L.moved hvm h.2⟩
theorem vx_Zq.kept {C n d : String} {A : Nat → Prop} {U : State} {H H1 : Heap} (h : vx_Zq C n d A U H) (hq : ∀ a : Nat, a < H.size → ¬ A a → H1[a]? = H[a]?) : vx_Zq C n d A U H1 := ⟨va_Zq.kept h.1 hq, vx_L.kept h.2 hq⟩
theorem vx_Zq.narrow {C n d : String} {A B : Nat → Prop} {U : State} {H : Heap} (h : vx_Zq C n d A U H) (hAB : ∀ q, B q → A q) : vx_Zq C n d B U H := ⟨va_Zq.narrow h.1 hAB, vx_L.narrow h.2 hAB⟩
theorem vx_Zqof {args : Array Value} {s : State} {C n d : String} {A : Nat → Prop} (hl : (Cond.laysStatic C n d).before args s = true) (hini : (Cond.initialized C).before args s = true) (h : (Cond.isRef (.static C n d)).before args s = true) (hA : ∀ a : Nat, a < s.heap.size → ¬ A a) : vx_Zq C n d A s s.heap := by
  refine ⟨va_Zqof hl hini h hA, ?_⟩
  obtain ⟨c, k, i, f, a, cell, h1, h2, h3, h4, h5, h6, h7, h8, h9⟩ := Cond.laysStatic_spec hl
  exact ⟨c, k, i, f, a, cell, h1, h2, h3, h4, h5, h6, h7, h8, h9, hA a (Array.getElem?_eq_some_iff.mp h5).1⟩
theorem vx_isRef {C n d : String} {v : Value} {A : Nat → Prop} {s : State} {args : Array Value} (h : va_Z C n d v A s s.heap) (hv : v.isRef = true) : (Cond.isRef (.static C n d)).before args s = true := by
  obtain ⟨cf, kf, fi, f, a, cell, h1, h2, h3, h4, h5, h6, h7, -⟩ := h
  have he : (Term.static C n d).eval args s none [] s = some v := by
    simp [Term.eval, State.fieldNamed?, h1, h2, h4, h5, h6, h7]
  simp only [Cond.before, Cond.holds, Cond.value, he]
  cases v <;> simp_all [Value.isRef]
theorem vx_isRefq {C n d : String} {A : Nat → Prop} {s : State} {args : Array Value} (h : va_Zq C n d A s s.heap) : (Cond.isRef (.static C n d)).before args s = true := by
  rcases h with h | ⟨t, h⟩
  · exact vx_isRef h rfl
  · exact vx_isRef h rfl
/-- the same frame, seen from here: as if the method were called anew in this heap -/
theorem vx_rebase {T : State} (X : Stand p l e R s m args below meth c T locs cells slots) {R' : Room} (hf : R'.frames ≤ R.frames) (hl : R'.locals ≤ R.locals) (hc : cells + R'.cells ≤ R.cells) (hs : slots + R'.slots ≤ R.slots) :
    Stand p l e R' ((T.setVm s.vm).setFrames (.invoking m args :: below)) m args below meth c T [] 0 0 := by
  have htop : (T.setVm s.vm).topJava?.isSome := X.here.top
  have hF : ((T.setVm s.vm).setFrames (.invoking m args :: below)).frames = .invoking m args :: below := State.frames_setFrames _ (State.cur_lt_of_top htop)
  obtain ⟨g₀, hg0⟩ := Option.isSome_iff_exists.mp htop
  obtain ⟨r, hr⟩ := State.topJava?_eq_some.mp hg0
  have hl9 : e.platform.stackLimits (T.setVm s.vm).me = e.platform.stackLimits s.me := X.limits
  have hb9 : (T.setVm s.vm).me.stackBytes = s.me.stackBytes := X.bytes
  refine ⟨X.admits, X.cas, X.clock, hF, ?_, X.hears, X.method, X.code, X.here, X.tail, X.warmed, ?_, ?_, ?_⟩
  · have h := X.room
    have hU : ((T.setVm s.vm).setFrames (.invoking m args :: below)).localsInUse = s.localsInUse := by
      rw [State.localsInUse_invoking hF (meth := meth) (c := c) X.method X.code, State.localsInUse_invoking X.frames X.method X.code]
    simp only [State.hasRoom, Bool.and_eq_true, decide_eq_true_eq] at h ⊢
    obtain ⟨⟨⟨⟨h1, h2, h3, h4, h5, h6⟩, h7⟩, h8⟩, h9⟩ := h
    rw [X.frames, List.length_cons] at h2 h3
    have q1 := X.heapSize
    have q2 := X.used
    simp only [hF, hU, List.length_cons, State.stackLimits_setFrames, State.stackBytes_setFrames, hl9, hb9]
    refine ⟨⟨⟨⟨by omega, by omega, by omega, by omega, by omega, h6⟩, ?_⟩, ?_⟩, X.book⟩
    · show T.heap.size + R'.cells ≤ e.platform.maxCells
      omega
    · show T.slotsUsed + R'.slots ≤ e.platform.maxSlots
      omega
  · rw [State.stackLimits_setFrames]; rfl
  · rw [State.stackBytes_setFrames]; rfl
  · refine ⟨?_, Nat.le_refl _, Nat.le_refl _, ?_, ?_, fun a c9 h9 => ⟨c9, h9, rfl, rfl, fun _ _ => rfl⟩⟩
    · obtain ⟨t, ht, -⟩ := State.frames_cons hr
      show T.setVm s.vm = { ((T.setVm s.vm).setFrames (.invoking m args :: below)).setFrames (T.setVm s.vm).frames with heap := T.heap, slotsUsed := T.slotsUsed }
      rw [State.setFrames_setFrames, State.setFrames_self ht]
      rfl
    · show T.slotsUsed = T.slotsUsed + ((T.heap.toList.drop T.heap.size).map (·.slots.size)).sum
      rw [List.drop_eq_nil_of_le (Nat.le_of_eq Array.length_toList)]
      rfl
    · show ((T.heap.toList.drop T.heap.size).map (·.slots.size)).sum ≤ 0
      rw [List.drop_eq_nil_of_le (Nat.le_of_eq Array.length_toList)]
      exact Nat.le_refl _
/-- 'throw new E()': new; dup; invokespecial; athrow -/
theorem vx_throw0 {cc : ByteArray} {pc : Nat} (hexec : p.tables.exec = Jvm.exec) (hb : c.code = cc) (hl : l.stackTraces = false) {own cls : String} {names : List String} {ik ic mc ms : Nat} {A : Nat → Prop}
    (hown : s.vm.findClass own = some m.cls) (hcls : Bundle.fit cls = true) (hnames : ∀ n ∈ names, Bundle.fit n = true)
    (hk : (Cond.classLink own ik cls).before args s = true) (hini : (Cond.initialized cls).before args s = true) (hat : ∀ w ∈ vx_at0 own ic cls names, w.before args s = true)
    (hgood : ∀ w ∈ Cond.classLink own ik cls :: Cond.initialized cls :: vx_at0 own ic cls names, vx_ot w = true)
    (hU : vx_Zq Bundle.tN "UNASSIGNED_STACK" Bundle.steD A s s.heap) (hN : vx_Zq Bundle.tN "SUPPRESSED_SENTINEL" Bundle.listD A s s.heap) (hS : va_S A s.heap H locs) (hsize : ls.size = c.maxLocals)
    (d0 : decode cc pc = .ok (.new ik, 3)) (d3 : decode cc (pc + 3) = .ok (.dup, 1)) (d4 : decode cc (pc + 4) = .ok (.invokespecial ic, 3)) (d7 : decode cc (pc + 7) = .ok (.athrow, 1))
    (hout : ∀ x ∈ c.exceptionTable.toList, covers x (pc + 7) = false)
    (hRframes : names.length + 3 < R.frames) (hRlocals : (rest.map fun v => v.category).sum + (13 * (names.length + 1) + 42) ≤ R.locals) (hRcells : cells + 1 ≤ R.cells) (hRslots : slots + 6 ≤ R.slots) (hlocks : meth.locks = false)
    (hx : ∀ t : State, s.vm.Alike t.vm → H.size ≤ t.heap.size → (∀ q : Nat, q < H.size → t.heap[q]? = H[q]?) → XC cls s t)
    (hf : ∀ z ∈ locs, free z.base) (hc : cells + 1 ≤ mc) (hs : slots + 6 ≤ ms) :
    W p l e R s m args below meth c H locs cells slots (vx_MQ below Qc XC args s mc ms free) (F0 m pc ls rest) := by
  intro T hT X
  have htr : e.platform.stackTraces = false := (show e.platform.stackTraces = l.stackTraces by rw [X.admits.platform]).trans hl
  have Y := vx_rebase X (R' := { frames := R.frames, locals := R.locals, cells := 1, slots := 6 }) (Nat.le_refl _) (Nat.le_refl _) hRcells hRslots
  obtain ⟨s', hA⟩ : ∃ z, z = (T.setVm s.vm).setFrames (.invoking m args :: below) := ⟨_, rfl⟩
  rw [← hA] at Y
  have hvm : s'.vm = s.vm := by rw [hA]; rfl
  have hhp : s'.heap = H := by rw [hA]; exact hT
  have hW0 : s.WarmedH s'.vm := by rw [hvm]; exact State.WarmedH.refl s
  have hat' : ∀ w ∈ vx_at0 own ic cls names, w.before args s' = true := fun w hw => vx_ot_at hW0 hvm.symm (hgood w (List.mem_cons_of_mem _ (List.mem_cons_of_mem _ hw))) (hat w hw)
  have hk' : (Cond.classLink own ik cls).before args s' = true := vx_ot_at hW0 hvm.symm (hgood _ List.mem_cons_self) hk
  have hini' : (Cond.initialized cls).before args s' = true := vx_ot_at hW0 hvm.symm (hgood _ (List.mem_cons_of_mem _ List.mem_cons_self)) hini
  have hU' : vx_Zq Bundle.tN "UNASSIGNED_STACK" Bundle.steD A s' s'.heap := by rw [hhp]; exact vx_Zq.moved hW0.alike (hU.kept hS.2.1)
  have hN' : vx_Zq Bundle.tN "SUPPRESSED_SENTINEL" Bundle.listD A s' s'.heap := by rw [hhp]; exact vx_Zq.moved hW0.alike (hN.kept hS.2.1)
  have h : ∀ w ∈ Bundle.ownAtoms0 own ic cls names, w.before args s' = true := vx_own hat' (vx_isRefq hU'.1) (vx_isRefq hN'.1) hU'.2.word hN'.2.word
  have hown' : s'.vm.findClass own = some m.cls := by rw [hvm]; exact hown
  have hins : (Cond.instantiable cls 6).before args s' = true := h _ (by simp [Bundle.ownAtoms0])
  obtain ⟨vm₁, cX, kX, hfX, hkX, -, -, X₁, st1⟩ := Y.newCold hexec (own := own) (C := cls) (index := ik) (n := 6) hown' hk' hins hini'
    (g := F0 m pc ls rest) rfl (by rw [hb]; exact d0) (Nat.le_refl _) (Nat.le_refl _)
  generalize hT1 : (T.setVm vm₁).pushCell { cls := cX, slots := kX.instanceTypes.map defaultValue, vm := .none } = T1 at X₁ st1
  have hcat : (Value.ref T.heap.size).category = 1 := rfl
  have hcellA : T1.heap[T.heap.size]? = some (freshCell cX kX) := by rw [← hT1]; exact State.heap_pushCell_size _ _
  have d3' : decode c.code (pc + 3) = .ok (.dup, 1) := by rw [hb]; exact d3
  obtain ⟨U, hsteps, hrun, hend, hW, hsame, ce, hce, hO⟩ := X₁.ctorThrow0 hexec htr (own := own) (cls := cls) (names := names) (ic := ic) hown' hcls hnames h (fun x hx => nomatch hx) hfX hkX hcellA (by rw [hhp, hT]; exact Nat.le_refl _)
    (g := { method := m, pc := pc + 4, locals := ls, stack := .ref T.heap.size :: .ref T.heap.size :: rest, locked := none }) rfl hsize rfl rfl (rest := rest) rfl
    (by rw [hb]; exact d4) (by rw [hb]; exact d7) hout hRframes (by simp only [List.map_cons, List.sum_cons, hcat]; omega) hlocks
  obtain ⟨f1, f2⟩ := vx_frame hsame
  rw [hhp] at f1 f2
  have hWs : s.WarmedH U.vm := State.WarmedH.trans hW0 hW
  have hcl : s.vm.findClass cls = some ce.cls := by
    have h9 := hO.cls
    rw [hvm] at h9
    exact h9
  have hall : s.sameButNew ({ U with vm := s.vm } : State) locs mc ms := by
    subst hA
    obtain ⟨e1, e2⟩ := hsame
    rw [State.setFrames_setFrames] at e1
    have h2 : (T.setVm s.vm).sameButNew ({ U with vm := s.vm } : State) [] (0 + 1) (0 + 6) := ⟨e1, e2⟩
    have h3 := X.same.trans h2
    rw [List.append_nil] at h3
    exact h3.mono hc hs
  refine ⟨U, ?_, .threw T.heap.size, hrun, hend, Or.inr ⟨T.heap.size, rfl, cls, ce, locs, hx U hWs.alike f1 (fun q hq => f2 q hq (fun z hz => nomatch hz)), hce, hO.vm, hcl, hWs, hall, hf⟩⟩
  refine st1 _ ?_
  show Steps p.tables e below (T1.setTop { method := m, pc := pc + 3, locals := ls, stack := .ref T.heap.size :: rest, locked := none }) _
  jvm_step X₁.here [X₁.here.top, hexec, d3', Value.category]
  exact hsteps
/-- 'throw new E("text")': new; dup; ldc; invokespecial; athrow -/
theorem vx_throwS {cc : ByteArray} {pc : Nat} (hexec : p.tables.exec = Jvm.exec) (hb : c.code = cc) (hl : l.stackTraces = false) {own cls text : String} {names : List String} {ik is ic mc ms sa : Nat} {A : Nat → Prop}
    (hown : s.vm.findClass own = some m.cls) (hcls : Bundle.fit cls = true) (hnames : ∀ n ∈ names, Bundle.fit n = true)
    (hk : (Cond.classLink own ik cls).before args s = true) (hini : (Cond.initialized cls).before args s = true) (hstr : vk_R own is text sa s) (hat : ∀ w ∈ vx_atS own ic cls names, w.before args s = true)
    (hgood : ∀ w ∈ Cond.classLink own ik cls :: Cond.initialized cls :: vx_atS own ic cls names, vx_ot w = true)
    (hU : vx_Zq Bundle.tN "UNASSIGNED_STACK" Bundle.steD A s s.heap) (hN : vx_Zq Bundle.tN "SUPPRESSED_SENTINEL" Bundle.listD A s s.heap) (hS : va_S A s.heap H locs) (hsize : ls.size = c.maxLocals)
    (d0 : decode cc pc = .ok (.new ik, 3)) (d3 : decode cc (pc + 3) = .ok (.dup, 1)) (d4 : decode cc (pc + 4) = .ok (.ldc is, 2)) (d6 : decode cc (pc + 6) = .ok (.invokespecial ic, 3)) (d9 : decode cc (pc + 9) = .ok (.athrow, 1))
    (hout : ∀ x ∈ c.exceptionTable.toList, covers x (pc + 9) = false)
    (hRframes : names.length + 3 < R.frames) (hRlocals : (rest.map fun v => v.category).sum + (13 * (names.length + 1) + 43) ≤ R.locals) (hRcells : cells + 1 ≤ R.cells) (hRslots : slots + 6 ≤ R.slots) (hlocks : meth.locks = false)
    (hx : ∀ t : State, s.vm.Alike t.vm → H.size ≤ t.heap.size → (∀ q : Nat, q < H.size → t.heap[q]? = H[q]?) → XC cls s t)
    (hf : ∀ z ∈ locs, free z.base) (hc : cells + 1 ≤ mc) (hs : slots + 6 ≤ ms) :
    W p l e R s m args below meth c H locs cells slots (vx_MQ below Qc XC args s mc ms free) (F0 m pc ls rest) := by
  intro T hT X
  have htr : e.platform.stackTraces = false := (show e.platform.stackTraces = l.stackTraces by rw [X.admits.platform]).trans hl
  have Y := vx_rebase X (R' := { frames := R.frames, locals := R.locals, cells := 1, slots := 6 }) (Nat.le_refl _) (Nat.le_refl _) hRcells hRslots
  obtain ⟨s', hA⟩ : ∃ z, z = (T.setVm s.vm).setFrames (.invoking m args :: below) := ⟨_, rfl⟩
  rw [← hA] at Y
  have hvm : s'.vm = s.vm := by rw [hA]; rfl
  have hhp : s'.heap = H := by rw [hA]; exact hT
  have hW0 : s.WarmedH s'.vm := by rw [hvm]; exact State.WarmedH.refl s
  have hat' : ∀ w ∈ vx_atS own ic cls names, w.before args s' = true := fun w hw => vx_ot_at hW0 hvm.symm (hgood w (List.mem_cons_of_mem _ (List.mem_cons_of_mem _ hw))) (hat w hw)
  have hk' : (Cond.classLink own ik cls).before args s' = true := vx_ot_at hW0 hvm.symm (hgood _ List.mem_cons_self) hk
  have hini' : (Cond.initialized cls).before args s' = true := vx_ot_at hW0 hvm.symm (hgood _ (List.mem_cons_of_mem _ List.mem_cons_self)) hini
  have hU' : vx_Zq Bundle.tN "UNASSIGNED_STACK" Bundle.steD A s' s'.heap := by rw [hhp]; exact vx_Zq.moved hW0.alike (hU.kept hS.2.1)
  have hN' : vx_Zq Bundle.tN "SUPPRESSED_SENTINEL" Bundle.listD A s' s'.heap := by rw [hhp]; exact vx_Zq.moved hW0.alike (hN.kept hS.2.1)
  have h : ∀ w ∈ Bundle.ownAtoms own ic cls names, w.before args s' = true := vx_own hat' (vx_isRefq hU'.1) (vx_isRefq hN'.1) hU'.2.word hN'.2.word
  have hown' : s'.vm.findClass own = some m.cls := by rw [hvm]; exact hown
  have hins : (Cond.instantiable cls 6).before args s' = true := h _ (by simp [Bundle.ownAtoms])
  obtain ⟨vm₁, cX, kX, hfX, hkX, -, -, X₁, st1⟩ := Y.newCold hexec (own := own) (C := cls) (index := ik) (n := 6) hown' hk' hins hini'
    (g := F0 m pc ls rest) rfl (by rw [hb]; exact d0) (Nat.le_refl _) (Nat.le_refl _)
  generalize hT1 : (T.setVm vm₁).pushCell { cls := cX, slots := kX.instanceTypes.map defaultValue, vm := .none } = T1 at X₁ st1
  have hcat : (Value.ref T.heap.size).category = 1 := rfl
  have hcellA : T1.heap[T.heap.size]? = some (freshCell cX kX) := by rw [← hT1]; exact State.heap_pushCell_size _ _
  have d3' : decode c.code (pc + 3) = .ok (.dup, 1) := by rw [hb]; exact d3
  have d4' : decode c.code (pc + 4) = .ok (.ldc is, 2) := by rw [hb]; exact d4
  have hstr' : vk_R own is text sa s' := vk_R.warm hW0 hstr
  obtain ⟨U, hsteps, hrun, hend, hW, hsame, ce, hce, hO⟩ := X₁.ctorThrowS hexec htr (own := own) (cls := cls) (names := names) (ic := ic) hown' hcls hnames h (fun x hx => nomatch hx) hfX hkX hcellA (by rw [hhp, hT]; exact Nat.le_refl _) (msg := .ref sa) rfl
    (g := { method := m, pc := pc + 6, locals := ls, stack := .ref sa :: .ref T.heap.size :: .ref T.heap.size :: rest, locked := none }) rfl hsize rfl rfl (rest := rest) rfl
    (by rw [hb]; exact d6) (by rw [hb]; exact d9) hout hRframes (by simp only [List.map_cons, List.sum_cons, hcat]; omega) hlocks
  obtain ⟨f1, f2⟩ := vx_frame hsame
  rw [hhp] at f1 f2
  have hWs : s.WarmedH U.vm := State.WarmedH.trans hW0 hW
  have hcl : s.vm.findClass cls = some ce.cls := by
    have h9 := hO.cls
    rw [hvm] at h9
    exact h9
  have hall : s.sameButNew ({ U with vm := s.vm } : State) locs mc ms := by
    subst hA
    obtain ⟨e1, e2⟩ := hsame
    rw [State.setFrames_setFrames] at e1
    have h2 : (T.setVm s.vm).sameButNew ({ U with vm := s.vm } : State) [] (0 + 1) (0 + 6) := ⟨e1, e2⟩
    have h3 := X.same.trans h2
    rw [List.append_nil] at h3
    exact h3.mono hc hs
  refine ⟨U, ?_, .threw T.heap.size, hrun, hend, Or.inr ⟨T.heap.size, rfl, cls, ce, locs, hx U hWs.alike f1 (fun q hq => f2 q hq (fun z hz => nomatch hz)), hce, hO.vm, hcl, hWs, hall, hf⟩⟩
  refine st1 _ ?_
  show Steps p.tables e below (T1.setTop { method := m, pc := pc + 3, locals := ls, stack := .ref T.heap.size :: rest, locked := none }) _
  jvm_step X₁.here [X₁.here.top, hexec, d3', Value.category]
  exact X₁.ldcString hexec (own := own) (text := text) (index := is) (a := sa) hown' hstr'.1 hstr'.2
    (g := { method := m, pc := pc + 4, locals := ls, stack := .ref T.heap.size :: .ref T.heap.size :: rest, locked := none }) rfl d4' _ hsteps
/-- 'throw new E("text")', the text by a wide index -/
theorem vx_throwSW {cc : ByteArray} {pc : Nat} (hexec : p.tables.exec = Jvm.exec) (hb : c.code = cc) (hl : l.stackTraces = false) {own cls text : String} {names : List String} {ik is ic mc ms sa : Nat} {A : Nat → Prop}
    (hown : s.vm.findClass own = some m.cls) (hcls : Bundle.fit cls = true) (hnames : ∀ n ∈ names, Bundle.fit n = true)
    (hk : (Cond.classLink own ik cls).before args s = true) (hini : (Cond.initialized cls).before args s = true) (hstr : vk_R own is text sa s) (hat : ∀ w ∈ vx_atS own ic cls names, w.before args s = true)
    (hgood : ∀ w ∈ Cond.classLink own ik cls :: Cond.initialized cls :: vx_atS own ic cls names, vx_ot w = true)
    (hU : vx_Zq Bundle.tN "UNASSIGNED_STACK" Bundle.steD A s s.heap) (hN : vx_Zq Bundle.tN "SUPPRESSED_SENTINEL" Bundle.listD A s s.heap) (hS : va_S A s.heap H locs) (hsize : ls.size = c.maxLocals)
    (d0 : decode cc pc = .ok (.new ik, 3)) (d3 : decode cc (pc + 3) = .ok (.dup, 1)) (d4 : decode cc (pc + 4) = .ok (.ldc_w is, 3)) (d7 : decode cc (pc + 7) = .ok (.invokespecial ic, 3)) (d10 : decode cc (pc + 10) = .ok (.athrow, 1))
    (hout : ∀ x ∈ c.exceptionTable.toList, covers x (pc + 10) = false)
    (hRframes : names.length + 3 < R.frames) (hRlocals : (rest.map fun v => v.category).sum + (13 * (names.length + 1) + 43) ≤ R.locals) (hRcells : cells + 1 ≤ R.cells) (hRslots : slots + 6 ≤ R.slots) (hlocks : meth.locks = false)
    (hx : ∀ t : State, s.vm.Alike t.vm → H.size ≤ t.heap.size → (∀ q : Nat, q < H.size → t.heap[q]? = H[q]?) → XC cls s t)
    (hf : ∀ z ∈ locs, free z.base) (hc : cells + 1 ≤ mc) (hs : slots + 6 ≤ ms) :
    W p l e R s m args below meth c H locs cells slots (vx_MQ below Qc XC args s mc ms free) (F0 m pc ls rest) := by
  intro T hT X
  have htr : e.platform.stackTraces = false := (show e.platform.stackTraces = l.stackTraces by rw [X.admits.platform]).trans hl
  have Y := vx_rebase X (R' := { frames := R.frames, locals := R.locals, cells := 1, slots := 6 }) (Nat.le_refl _) (Nat.le_refl _) hRcells hRslots
  obtain ⟨s', hA⟩ : ∃ z, z = (T.setVm s.vm).setFrames (.invoking m args :: below) := ⟨_, rfl⟩
  rw [← hA] at Y
  have hvm : s'.vm = s.vm := by rw [hA]; rfl
  have hhp : s'.heap = H := by rw [hA]; exact hT
  have hW0 : s.WarmedH s'.vm := by rw [hvm]; exact State.WarmedH.refl s
  have hat' : ∀ w ∈ vx_atS own ic cls names, w.before args s' = true := fun w hw => vx_ot_at hW0 hvm.symm (hgood w (List.mem_cons_of_mem _ (List.mem_cons_of_mem _ hw))) (hat w hw)
  have hk' : (Cond.classLink own ik cls).before args s' = true := vx_ot_at hW0 hvm.symm (hgood _ List.mem_cons_self) hk
  have hini' : (Cond.initialized cls).before args s' = true := vx_ot_at hW0 hvm.symm (hgood _ (List.mem_cons_of_mem _ List.mem_cons_self)) hini
  have hU' : vx_Zq Bundle.tN "UNASSIGNED_STACK" Bundle.steD A s' s'.heap := by rw [hhp]; exact vx_Zq.moved hW0.alike (hU.kept hS.2.1)
  have hN' : vx_Zq Bundle.tN "SUPPRESSED_SENTINEL" Bundle.listD A s' s'.heap := by rw [hhp]; exact vx_Zq.moved hW0.alike (hN.kept hS.2.1)
  have h : ∀ w ∈ Bundle.ownAtoms own ic cls names, w.before args s' = true := vx_own hat' (vx_isRefq hU'.1) (vx_isRefq hN'.1) hU'.2.word hN'.2.word
  have hown' : s'.vm.findClass own = some m.cls := by rw [hvm]; exact hown
  have hins : (Cond.instantiable cls 6).before args s' = true := h _ (by simp [Bundle.ownAtoms])
  obtain ⟨vm₁, cX, kX, hfX, hkX, -, -, X₁, st1⟩ := Y.newCold hexec (own := own) (C := cls) (index := ik) (n := 6) hown' hk' hins hini'
    (g := F0 m pc ls rest) rfl (by rw [hb]; exact d0) (Nat.le_refl _) (Nat.le_refl _)
  generalize hT1 : (T.setVm vm₁).pushCell { cls := cX, slots := kX.instanceTypes.map defaultValue, vm := .none } = T1 at X₁ st1
  have hcat : (Value.ref T.heap.size).category = 1 := rfl
  have hcellA : T1.heap[T.heap.size]? = some (freshCell cX kX) := by rw [← hT1]; exact State.heap_pushCell_size _ _
  have d3' : decode c.code (pc + 3) = .ok (.dup, 1) := by rw [hb]; exact d3
  have d4' : decode c.code (pc + 4) = .ok (.ldc_w is, 3) := by rw [hb]; exact d4
  have hstr' : vk_R own is text sa s' := vk_R.warm hW0 hstr
  obtain ⟨U, hsteps, hrun, hend, hW, hsame, ce, hce, hO⟩ := X₁.ctorThrowS hexec htr (own := own) (cls := cls) (names := names) (ic := ic) hown' hcls hnames h (fun x hx => nomatch hx) hfX hkX hcellA (by rw [hhp, hT]; exact Nat.le_refl _) (msg := .ref sa) rfl
    (g := { method := m, pc := pc + 7, locals := ls, stack := .ref sa :: .ref T.heap.size :: .ref T.heap.size :: rest, locked := none }) rfl hsize rfl rfl (rest := rest) rfl
    (by rw [hb]; exact d7) (by rw [hb]; exact d10) hout hRframes (by simp only [List.map_cons, List.sum_cons, hcat]; omega) hlocks
  obtain ⟨f1, f2⟩ := vx_frame hsame
  rw [hhp] at f1 f2
  have hWs : s.WarmedH U.vm := State.WarmedH.trans hW0 hW
  have hcl : s.vm.findClass cls = some ce.cls := by
    have h9 := hO.cls
    rw [hvm] at h9
    exact h9
  have hall : s.sameButNew ({ U with vm := s.vm } : State) locs mc ms := by
    subst hA
    obtain ⟨e1, e2⟩ := hsame
    rw [State.setFrames_setFrames] at e1
    have h2 : (T.setVm s.vm).sameButNew ({ U with vm := s.vm } : State) [] (0 + 1) (0 + 6) := ⟨e1, e2⟩
    have h3 := X.same.trans h2
    rw [List.append_nil] at h3
    exact h3.mono hc hs
  refine ⟨U, ?_, .threw T.heap.size, hrun, hend, Or.inr ⟨T.heap.size, rfl, cls, ce, locs, hx U hWs.alike f1 (fun q hq => f2 q hq (fun z hz => nomatch hz)), hce, hO.vm, hcl, hWs, hall, hf⟩⟩
  refine st1 _ ?_
  show Steps p.tables e below (T1.setTop { method := m, pc := pc + 3, locals := ls, stack := .ref T.heap.size :: rest, locked := none }) _
  jvm_step X₁.here [X₁.here.top, hexec, d3', Value.category]
  exact X₁.ldcStringW hexec (own := own) (text := text) (index := is) (a := sa) hown' hstr'.1 hstr'.2
    (g := { method := m, pc := pc + 4, locals := ls, stack := .ref T.heap.size :: .ref T.heap.size :: rest, locked := none }) rfl d4' _ hsteps
end Ends
section Bodies
variable {l : Launch}
theorem vx_ofW {y : MethodName} {ws ws' : List Cond} {rm : Room} {Pc : Array Value → State → Prop} {Qc : Array Value → State → Outcome → State → Prop} {XC : String → State → State → Prop} {mc ms : Nat} {free : Addr → Prop} {cc : ByteArray} {maxL : Nat} {ret : Option FieldType}
    (hy : plainName y.cls = true) (hw : ws = Cond.code y cc maxL ret :: ws')
    (body : ∀ p e s m args below meth c s₁, BodyLoose p l y (headSpec ws rm) cc maxL ret e s m args below meth c s₁ → c.maxLocals = maxL → (∀ x ∈ c.exceptionTable.toList, False) → Pc args s →
      W p l e (headSpec ws rm).room s m args below meth c s.heap [] 0 0 (vx_MQ below Qc XC args s mc ms free) (entryFrame m args maxL)) : vx_Met l y ws rm Pc Qc XC mc ms free := by
  refine MetFree.of_bodyS (code := cc) (maxLocals := maxL) (ret := ret) hy ?_ ?_
  · intro args s m h hn
    obtain ⟨meth, c, h1, h2, h3, h4, h5, h6, -, -⟩ := Cond.code_spec hn (atoms_spec (ws := ws) h _ (by rw [hw]; exact List.mem_cons_self))
    exact ⟨meth, c, h1, h2, h3, h4, h5, h6⟩
  · intro p e s m args below meth c s₁ B hml hP _
    have hh0 : s₁.heap = s.heap := by rw [B.state]; rfl
    have ht : ∀ x ∈ c.exceptionTable.toList, False := by
      obtain ⟨meth9, c9, h1, h2, -, -, -, -, h7, -⟩ := Cond.code_spec B.named (atoms_spec (ws := ws) B.pre _ (by rw [hw]; exact List.mem_cons_self))
      cases Option.some.inj (h1.symm.trans B.method)
      cases Option.some.inj (h2.symm.trans (Stand.of_body B).code)
      intro x hx
      rw [Array.isEmpty_iff.mp h7] at hx
      cases hx
    obtain ⟨t, a1, o, b1, b2, b3⟩ := body p e s m args below meth c s₁ B hml ht hP s₁ hh0 (Stand.of_body B)
    exact ⟨t, o, a1, b1, b2, b3⟩
/-- the table of a body with handlers -/
theorem vx_table {p : Program} {x y : MethodName} {S : Spec} {cc bytes : ByteArray} {maxL maxL' : Nat} {ret ret' : Option FieldType} {e : Env} {s s₁ : State} {m : MethodId} {args : Array Value} {below : List Frame} {meth : Method} {c : Code} {hh : List (Nat × Nat × Nat × Nat)}
    (B : BodyLoose p l y S cc maxL ret e s m args below meth c s₁) (h : (Cond.codeWith y bytes maxL' ret' hh).before args s = true) : c.exceptionTable.toList = tableOf hh := by
  obtain ⟨m9, meth9, c9, hn9, h1, h2, -, -, h6, -⟩ := Cond.codeWith_spec h
  cases Option.some.inj (hn9.symm.trans B.named)
  cases Option.some.inj (h1.symm.trans B.method)
  cases Option.some.inj (h2.symm.trans (Stand.of_body B).code)
  rw [← h6, table_eq]
end Bodies
end VXA
/-! ===== END ===== -/
/-! ===== BEGIN a static call of a method with an exception table ===== -/
section VXS
variable {p : Program} {l : Launch} {e : Env} {R : Room} {s : State} {m : MethodId} {args : Array Value} {below : List Frame} {meth : Method} {c : Code} {T : State} {H : Heap} {locs : List Loc} {cells slots : Nat}
abbrev vx_CSW (R : Room) (s : State) (args : Array Value) (own : String) (index : Nat) (y : MethodName) (bytes : ByteArray) (maxL : Nat) (ret : Option FieldType) (hh : List (Nat × Nat × Nat × Nat)) (ws : List Cond) (rm : Room) (mc ms n : Nat) : Prop :=
  (rm.cells = mc ∧ rm.slots = ms ∧ rm.frames + 1 ≤ R.frames ∧ 8 + (maxL + 11) + rm.locals ≤ R.locals ∧ (∀ w ∈ ws, ∀ (a' : Array Value) (U : State), s.WarmedH U.vm → w.before a' U = true) ∧ Cond.codeWith y bytes maxL ret hh ∈ ws) ∧
  (Cond.codeWith y bytes maxL ret hh).before args s = true ∧ (Cond.initialized y.cls).before args s = true ∧ (y.cls ≠ "java/lang/invoke/MethodHandle" ∧ y.cls ≠ "java/lang/invoke/VarHandle") ∧
  (∀ sig, parseMethodDescriptor y.desc = some sig → n = sig.parameters.length) ∧ (Cond.methodLink own index y).before args s = true ∧ (Cond.static y).before args s = true
theorem vx_cwSW {own : String} {index maxL mc ms : Nat} {y : MethodName} {bytes : ByteArray} {ret : Option FieldType} {hh : List (Nat × Nat × Nat × Nat)} {Ts ws ws' : List Cond} {rm : Room} (n : Nat) (ht : ∀ w ∈ Ts, w.before args s = true) (hT : GoodIn Ts (va_wsS own index y ws)) (hw : ws = Cond.codeWith y bytes maxL ret hh :: ws') (hrc : rm.cells = mc) (hrs : rm.slots = ms)
    (hd : y.cls ≠ "java/lang/invoke/MethodHandle" ∧ y.cls ≠ "java/lang/invoke/VarHandle" ∧ (parseMethodDescriptor y.desc).map (fun d => d.parameters.length) = some n) (hR : rm.frames + 1 ≤ R.frames ∧ 8 + (maxL + 11) + rm.locals ≤ R.locals) :
    vx_CSW R s args own index y bytes maxL ret hh ws rm mc ms n := by
  have ok : ∀ w ∈ va_wsS own index y ws, w.before args s = true := fun w h => ht w (hT w h).1
  have hG : GoodIn Ts ws := fun w h => hT w (by unfold va_wsS; exact List.mem_append_right _ h)
  have hc : Cond.codeWith y bytes maxL ret hh ∈ ws := by rw [hw]; exact List.mem_cons_self
  refine ⟨⟨hrc, hrs, hR.1, hR.2, pay_in ht hG, hc⟩, ht _ (hG _ hc).1, ok _ (by simp [va_wsS]), ⟨hd.1, hd.2.1⟩, fun sig h => ?_, ok _ (by simp [va_wsS]), ok _ (by simp [va_wsS])⟩
  have h2 := hd.2.2
  rw [h] at h2
  exact (Option.some.inj h2).symm
theorem vx_callSW (X : Stand p l e R s m args below meth c T locs cells slots) (hexec : p.tables.exec = Jvm.exec) {own : String} {index : Nat} {y : MethodName} {bytes : ByteArray} {maxL : Nat} {ret : Option FieldType} {hh : List (Nat × Nat × Nat × Nat)}
    (hown : s.vm.findClass own = some m.cls) (hlink : (Cond.methodLink own index y).before args s = true) (hstat : (Cond.static y).before args s = true) (hinit : (Cond.initialized y.cls).before args s = true)
    (hcode : (Cond.codeWith y bytes maxL ret hh).before args s = true) (hy : y.cls ≠ "java/lang/invoke/MethodHandle" ∧ y.cls ≠ "java/lang/invoke/VarHandle")
    {W9 : Nat} {Pre : Pt → Array Value → Prop} {Post : Pt → Array Value → Option Value → Pt → Prop} (hK : Back l R p e below s args y 3 W9 Pre Post)
    {g : JFrame} (hg : g.method = m) (hsize : g.locals.size = c.maxLocals) {argsL rest : List Value} (hlen : ∀ sig, parseMethodDescriptor y.desc = some sig → argsL.length = sig.parameters.length)
    (hstack : g.stack = argsL.reverse ++ rest) (hW : 2 * g.monitorRoom + (rest.map fun v => v.category).sum ≤ W9) (hdg : decode c.code g.pc = .ok (.invokestatic index, 3))
    (hpre : ∀ vm₁, s.WarmedH vm₁ → Pre ⟨T.setVm vm₁, locs, cells, slots⟩ argsL.toArray) :
    ∃ (v : Option Value) (vm₁ : Vm) (B : Pt), s.WarmedH vm₁ ∧ Stand p l e R s m args below meth c B.U B.locs B.cells B.slots ∧ Post ⟨T.setVm vm₁, locs, cells, slots⟩ argsL.toArray v B ∧
      ∀ target, Steps p.tables e below (B.U.setTop { g with pc := g.pc + 3, stack := v.toList ++ rest }) target → Steps p.tables e below (T.setTop g) target := by
  obtain ⟨mk, methM, cM, hnamed, hmethM, -, -, -, -, -, -, hsigM⟩ := Cond.codeWith_spec hcode
  have hstatic : methM.isStatic = true := Cond.static_spec hnamed hmethM hstat
  obtain ⟨kP, hkP, -⟩ := className_of_methodNamed hnamed
  have hinitP : kP.init = .initialized := Cond.initialized_spec (findClass_of_methodNamed hnamed) hkP hinit
  obtain ⟨vm₁, X₁, hstep₁⟩ := X.invokestatic hexec hown hlink hnamed hmethM hstatic hkP hinitP hy (g := g) hg (argsL := argsL) (rest := rest) (hlen _ hsigM) hstack hdg
  obtain ⟨v, B, X', hpost, hsteps⟩ := hK m meth c ⟨T.setVm vm₁, locs, cells, slots⟩ { g with stack := rest } (.invokestatic index) mk argsL.toArray X₁ hg hsize hdg hW (X₁.named hnamed) (hpre vm₁ X₁.warmed)
  exact ⟨v, vm₁, B, X₁.warmed, X', hpost, fun target h => hstep₁ _ fun acts => by rw [doInvoke_state]; exact hsteps.trans h⟩
theorem vx_runSW {y : MethodName} {bytes cc : ByteArray} {maxL nL mc ms n index : Nat} {ret : Option FieldType} {hh : List (Nat × Nat × Nat × Nat)} {ws : List Cond} {rm : Room} {Pc : Array Value → State → Prop} {Qc : Array Value → State → Outcome → State → Prop} {free : Addr → Prop} {Ts : List Cond} {own : String} {As rest : List Value} {g : JFrame}
    (S : CallFix p m c cc nL s args Ts own) (hM : Met l y ws rm Pc Qc mc ms free) (cw : vx_CSW R s args own index y bytes maxL ret hh ws rm mc ms n) (hp : PreS s H Pc As)
    (hg : g.method = m) (hn : As.length = n) (hsize : g.locals.size = nL) (hstack : g.stack = As.reverse ++ rest) (hW : 2 * g.monitorRoom + (rest.map fun v => v.category).sum ≤ 8) (hdg : decode cc g.pc = .ok (.invokestatic index, 3)) (hf : cells + mc ≤ R.cells ∧ slots + ms ≤ R.slots) :
    va_Run p l e R s m args below meth c H locs cells slots mc ms g rest (Qc As.toArray) (free) := by
  obtain ⟨⟨hrc, hrs, hfr, hlo, hws, hcw⟩, hcode, hini, hy, hlen, hl, hstt⟩ := cw
  have hK : Back l R p e below s args y 3 8 (PreOf R mc ms Pc) (PostOf Qc mc ms free) := va_backW (hh := hh) (bytes := bytes) (maxL := maxL) (ret := ret) hM hp.1 hrc hrs hfr hlo hws hcw (fun a' U hW => word_at hW (Or.inl (by first | rfl | simp [Cond.onTables, Cond.keeps, Cond.steady])) hini)
  obtain ⟨hx, hb, hml, ho, -⟩ := S
  intro T hT X
  obtain ⟨v, vm₁, ⟨U', l2, c2, s2⟩, hW₁, X', ⟨g', mk, t, L, e1, e2, hq, h1, hL, h2, h3⟩, st⟩ := vx_callSW X hx (hh := hh) (bytes := bytes) (maxL := maxL) (ret := ret) ho hl hstt hini hcode hy hK hg (hsize.trans hml.symm) (argsL := As) (rest := rest) (fun sig h => hn.trans (hlen sig h)) hstack hW (by rw [hb]; exact hdg)
    (fun vm₁ hW₁ => ⟨hf.1, hf.2, hp.2 (T.setVm vm₁) hT hW₁⟩)
  dsimp only [Pt.U, Pt.locs, Pt.cells, Pt.slots] at X' e1 e2 h1 h2 h3 st
  subst h1; subst h2; subst h3
  exact ⟨v, (T.setVm vm₁).calling g' mk As.toArray, t, U', L, hT, X', hL, e1, e2, hq, st⟩
/-- not caught here, past rows that name other classes: it goes on to the caller -/
theorem vx_outP {p : Program} {l : Launch} {e : Env} {R : Room} {s : State} {m : MethodId} {args : Array Value} {below : List Frame} {meth : Method} {c : Code} {H : Heap} {locs : List Loc} {cells slots : Nat} {free : Addr → Prop} {ls : Array Slot} {rest : List Value} {Qc : Array Value → State → Outcome → State → Prop} {XC : String → State → State → Prop}
    {pc : Nat} {own E : String} {ce : Cell} {q : Addr} {mc ms : Nat} (hown : s.vm.findClass own = some m.cls) (hlocks : meth.locks = false)
    (hpass : ∀ z ∈ c.exceptionTable.toList, covers z pc = false ∨ (z.catchType ≠ 0 ∧ ∃ nm : String, (Cond.classLink own z.catchType nm).before args s = true ∧ va_Nc E nm s)) (hcell : H[q]? = some ce) (hv : ce.vm = .none) (hcl : s.vm.findClass E = some ce.cls)
    (hx : ∀ t : State, t.heap = H → s.vm.Alike t.vm → XC E s t) (hf : ∀ z ∈ locs, free z.base) (hc : cells ≤ mc) (hs : slots ≤ ms) :
    vx_W p l e R s m args below meth c H locs cells slots (vx_MQ below Qc XC args s mc ms free) (F0 m pc ls rest) q := by
  intro T hT X
  have hpl : e.platform.magicAccessors = ({} : Platform).magicAccessors := by rw [X.admits.platform]
  obtain ⟨vm', hW', X', st⟩ := Jvm.Stand.outThrough X hlocks q (g := F0 m pc ls rest) rfl rfl rfl (cell := ce) (by rw [hT]; exact hcell) (by rw [hv]; rfl)
    (by obtain ⟨k9, h9, -⟩ := Vm.findClass_spec hcl; exact ⟨k9, h9⟩) (fun z hz => by
      rcases hpass z hz with h | ⟨hz0, nm, hl1, hn1⟩
      · exact Or.inl h
      · obtain ⟨c6, hc6, hcl6⟩ := Cond.classLink_spec hown hl1 e.platform hpl
        obtain ⟨a8, b8, h1, h2, h3⟩ := hn1
        cases Option.some.inj (h1.symm.trans hcl)
        cases Option.some.inj (h2.symm.trans hc6)
        exact Or.inr ⟨hz0, _, hcl6, h3⟩)
  obtain ⟨g₀, hfr⟩ := X'.frames_eq
  have hcell9 : ((T.setVm vm').setFrames (.throwing q :: below)).heap[q]? = some ce := by
    show T.heap[q]? = some ce
    rw [hT]; exact hcell
  have hend : Ended ((T.setVm vm').setFrames (.throwing q :: below)) below (.threw q) := State.frames_setFrames _ (State.cur_lt_of_frames hfr)
  refine ⟨(T.setVm vm').setFrames (.throwing q :: below), ?_, .threw q, X'.here.running, hend, Or.inr ⟨q, rfl, E, ce, locs, hx _ hT (X'.ends _).1.alike, hcell9, hv, hcl, (X'.ends _).1, (X'.ends _).2.mono hc hs, hf⟩⟩
  rw [X.pushThrowing_eq]
  exact st
/-- a thing of a world lies in the heap -/
theorem vx_lt {D : va_G} {cl : List vw_C} {ws : va_W} {H1 : Heap} (h : va_P D cl ws H1) {k : Nat} {q : Nat × va_E} (hk : ws[k]? = some q) : q.1 < H1.size := (h k q hk).lt
end VXS
/-! ===== END ===== -/
/-! ===== BEGIN methods with a table of their own: called by a name, returning or throwing ===== -/
section VXH
/-! vx_backW, vx_callVX, vx_callSX, vx_callVW, vx_runVW, vx_runVX, vx_runSX, vx_ofWH follow the same proofs as their sisters above (Free/Laws.lean, Shelf42/LK1.lean); vx_outP calls Shelf42/NT130.lean (outThrough). -/
section
variable {l : Launch} {R : Room} {p : Program} {e : Env} {below : List Frame} {s : State} {sargs : Array Value} {y : MethodName} {len W9 : Nat}
theorem vx_backW {ws : List Cond} {rm : Room} {Pc : Array Value → State → Prop} {Qc : Array Value → State → Outcome → State → Prop} {XC : String → State → State → Prop} {mc ms : Nat} {free : Addr → Prop} {bytes : ByteArray} {maxL : Nat} {ret : Option FieldType} {hh : List (Nat × Nat × Nat × Nat)}
    (hM : vx_Met l y ws rm Pc Qc XC mc ms free) (hblind : FrameBlind Pc) (hrc : rm.cells = mc) (hrs : rm.slots = ms)
    (hframes : rm.frames + 1 ≤ R.frames) (hlocals : W9 + (maxL + 11) + rm.locals ≤ R.locals)
    (hws : ∀ w ∈ ws, ∀ a' U, s.WarmedH U.vm → w.before a' U = true) (hcode : Cond.codeWith y bytes maxL ret hh ∈ ws) (hinit : ∀ a' U, s.WarmedH U.vm → (Cond.initialized y.cls).before a' U = true) :
    vx_Back l R p e below s sargs y len W9 (PreOf R mc ms Pc) (PostOf Qc mc ms free) (vx_Post XC mc ms free) := by
  intro m meth c A g ig mk a X hg hsize hdg hW hn hp
  have h1 : (headSpec ws rm).pre.before a A.U = true := atoms_intro fun w hw => hws w hw _ _ X.warmed
  have h2 : (Cond.codeWith y bytes maxL ret hh).before a A.U = true := hws _ hcode _ _ X.warmed
  have h3 : (Cond.initialized y.cls).before a A.U = true := hinit _ _ X.warmed
  have h4 : A.cells + (headSpec ws rm).room.cells ≤ R.cells := by rw [show (headSpec ws rm).room.cells = mc from hrc]; exact hp.1
  have h5 : A.slots + (headSpec ws rm).room.slots ≤ R.slots := by rw [show (headSpec ws rm).room.slots = ms from hrs]; exact hp.2.1
  have hPc : Pc a (A.U.calling g mk a) := hblind _ _ _ _ hp.2.2
  obtain ⟨U, Ls, c0, s0⟩ := A
  dsimp only [Pt.U, Pt.locs, Pt.cells, Pt.slots] at h1 h2 h3 h4 h5 X hn hPc ⊢
  obtain ⟨m9, methY, cY, hn9, hmY, hcY, -, hlY, -⟩ := Cond.codeWith_spec h2
  cases Option.some.inj (hn9.symm.trans hn)
  obtain ⟨kY, hkY, -⟩ := className_of_methodNamed hn
  have hinitY : kY.init = .initialized := Cond.initialized_spec (findClass_of_methodNamed hn) hkY h3
  have h : At U g.method c below := by rw [hg]; exact X.here
  have hlocals9 : W9 + (maxL + 11) + (headSpec ws rm).room.locals ≤ R.locals := hlocals
  have happ : (headSpec ws rm).appliesLoose y e.platform (U.calling g mk a) = true :=
    Spec.appliesLoose_calling (g := g) h hdg hn hkY hinitY
      (X.room_calling (g := g) (R' := (headSpec ws rm).room) hsize hmY hcY hframes (by rw [hlY]; omega) h4 h5) h1
  obtain ⟨mid, hmid⟩ := h.above
  have hfr : (U.setTop g).frames = (.java g :: mid) ++ below := by rw [State.frames_setTop' g h.top, hmid]; rfl
  obtain ⟨o, s₂, hsteps, -, hend, hq⟩ := Steps.callFree hM p X.admits X.cas X.clock (acts := []) hfr happ hPc trivial
  have hq' : vx_Q Qc XC mc ms free a (U.calling g mk a) o s₂ := hq
  rw [State.frames_setTop' g h.top] at hend
  obtain ⟨g₀, hg0⟩ := Option.isSome_iff_exists.mp h.top
  obtain ⟨r, hr⟩ := State.topJava?_eq_some.mp hg0
  have hr' : (({ U with heap := s₂.heap, slotsUsed := s₂.slotsUsed } : State).setVm s₂.vm).frames = .java g₀ :: r := hr
  rcases hq' with ⟨hqc, L, hfe, hL⟩ | ⟨q, rfl, E, ce, L, hx, hce, hcv, hcl, hW₂, hsm, hL⟩
  · obtain ⟨⟨v, rfl⟩, hW₂, e2, q2, q3, q4, q5, q6⟩ := id hfe
    have e3 : s₂ = ({ (U.calling g mk a).setFrames s₂.frames with heap := s₂.heap, slotsUsed := s₂.slotsUsed } : State).setVm s₂.vm := by
      have : s₂ = ({ s₂ with vm := (U.calling g mk a).vm } : State).setVm s₂.vm := rfl
      rw [e2] at this
      exact this
    obtain ⟨c₂, i₂, len₂, hc₂, hd₂, hf₂⟩ := hend
    have hW' : U.WarmedH s₂.vm := hW₂
    have hcc : c₂ = c := by
      have h1 : s₂.code? g.method = U.code? g.method := by
        rw [State.code?_eq, State.code?_eq, hW'.alike.method?]
      exact Option.some.inj (hc₂.symm.trans (h1.trans h.code))
    subst hcc
    have hlen : len₂ = len := by rw [hdg] at hd₂; cases hd₂; rfl
    subst hlen
    have hs₂ : s₂ = (({ U with heap := s₂.heap, slotsUsed := s₂.slotsUsed } : State).setVm s₂.vm).setTop { g with pc := g.pc + len₂, stack := v.toList ++ g.stack } := by
      refine e3.trans ?_
      rw [hf₂, State.calling_eq h.top, State.setFrames_setFrames, State.setTop_of_frames _ hr', hr]
      rfl
    have hsame : U.sameButNew ({ U with heap := s₂.heap, slotsUsed := s₂.slotsUsed } : State) L mc ms := by
      refine ⟨?_, q2, q3, q4, q5, q6⟩
      obtain ⟨t, ht, -⟩ := State.frames_cons hr
      show ({ U with heap := s₂.heap, slotsUsed := s₂.slotsUsed } : State) = { U.setFrames U.frames with heap := s₂.heap, slotsUsed := s₂.slotsUsed }
      rw [State.setFrames_self ht]
    subst hg
    refine Or.inl ⟨v, ⟨(({ U with heap := s₂.heap, slotsUsed := s₂.slotsUsed } : State).setVm s₂.vm), Ls ++ L, c0 + mc, s0 + ms⟩,
      ⟨X.admits, X.cas, X.clock, X.frames, X.room, X.hears, X.method, X.code, (X.here.setHeapUsed s₂.heap s₂.slotsUsed).setVm hW'.alike, X.tail, State.WarmedH.trans X.warmed hW', X.limits, X.bytes, X.same.trans (hsame.setVm s.vm)⟩,
      ⟨g, mk, s₂, L, rfl, rfl, hqc, rfl, hL, rfl, rfl⟩, ?_⟩
    show Steps p.tables e below _ ((({ U with heap := s₂.heap, slotsUsed := s₂.slotsUsed } : State).setVm s₂.vm).setTop { g with pc := g.pc + len₂, stack := v.toList ++ g.stack })
    rw [← hs₂]
    exact hsteps
  · obtain ⟨e2, q2, q3, q4, q5, q6⟩ := id hsm
    have e3 : s₂ = ({ (U.calling g mk a).setFrames s₂.frames with heap := s₂.heap, slotsUsed := s₂.slotsUsed } : State).setVm s₂.vm := by
      have : s₂ = ({ s₂ with vm := (U.calling g mk a).vm } : State).setVm s₂.vm := rfl
      rw [e2] at this
      exact this
    have hf₂ : s₂.frames = .throwing q :: .java g :: U.frames.tail := hend
    have hW' : U.WarmedH s₂.vm := hW₂
    have hs₂ : s₂ = ((({ U with heap := s₂.heap, slotsUsed := s₂.slotsUsed } : State).setVm s₂.vm).setTop g).pushFrame (.throwing q) := by
      refine e3.trans ?_
      rw [hf₂, State.calling_eq h.top, State.setFrames_setFrames, State.pushFrame, State.frames_setTop _ hr', State.setTop_of_frames _ hr', State.setFrames_setFrames, hr]
      rfl
    have hsame : U.sameButNew ({ U with heap := s₂.heap, slotsUsed := s₂.slotsUsed } : State) L mc ms := by
      refine ⟨?_, q2, q3, q4, q5, q6⟩
      obtain ⟨t, ht, -⟩ := State.frames_cons hr
      show ({ U with heap := s₂.heap, slotsUsed := s₂.slotsUsed } : State) = { U.setFrames U.frames with heap := s₂.heap, slotsUsed := s₂.slotsUsed }
      rw [State.setFrames_self ht]
    subst hg
    refine Or.inr ⟨q, ⟨(({ U with heap := s₂.heap, slotsUsed := s₂.slotsUsed } : State).setVm s₂.vm), Ls ++ L, c0 + mc, s0 + ms⟩,
      ⟨X.admits, X.cas, X.clock, X.frames, X.room, X.hears, X.method, X.code, (X.here.setHeapUsed s₂.heap s₂.slotsUsed).setVm hW'.alike, X.tail, State.WarmedH.trans X.warmed hW', X.limits, X.bytes, X.same.trans (hsame.setVm s.vm)⟩,
      ⟨g, mk, s₂, L, E, ce, rfl, rfl, hx, hce, hcv, hcl, rfl, hL, rfl, rfl⟩, ?_⟩
    show Steps p.tables e below _ (((({ U with heap := s₂.heap, slotsUsed := s₂.slotsUsed } : State).setVm s₂.vm).setTop g).pushFrame (.throwing q))
    rw [← hs₂]
    exact hsteps
end
variable {p : Program} {l : Launch} {e : Env} {R : Room} {s : State} {m : MethodId} {args : Array Value} {below : List Frame} {meth : Method} {c : Code} {T : State} {H : Heap} {locs : List Loc} {cells slots : Nat}
theorem vx_callVX (X : Stand p l e R s m args below meth c T locs cells slots) (hexec : p.tables.exec = Jvm.exec) {own C : String} {index : Nat} {y : MethodName} {bytes : ByteArray} {maxL : Nat} {ret : Option FieldType} {hh : List (Nat × Nat × Nat × Nat)}
    (hown : s.vm.findClass own = some m.cls) (hlink : (Cond.methodLink own index y).before args s = true) (hinst : (Cond.instanceMethod y).before args s = true) (hsel : (Cond.selects C y y).before args s = true)
    (hcode : (Cond.codeWith y bytes maxL ret hh).before args s = true) (hy : y.cls ≠ "java/lang/invoke/MethodHandle" ∧ y.cls ≠ "java/lang/invoke/VarHandle")
    {W9 : Nat} {Pre : Pt → Array Value → Prop} {Post : Pt → Array Value → Option Value → Pt → Prop} {PostX : Pt → Array Value → Addr → Pt → Prop} (hK : vx_Back l R p e below s args y 3 W9 Pre Post PostX)
    {b : Addr} {cellB : Cell} (hcell : T.heap[b]? = some cellB) (hobj : cellB.vm.isStatics = false) (hcls : s.vm.findClass C = some cellB.cls)
    {g : JFrame} (hg : g.method = m) (hsize : g.locals.size = c.maxLocals) {argsL rest : List Value} (hlen : ∀ sig, parseMethodDescriptor y.desc = some sig → argsL.length = sig.parameters.length)
    (hstack : g.stack = argsL.reverse ++ .ref b :: rest) (hW : 2 * g.monitorRoom + (rest.map fun v => v.category).sum ≤ W9) (hdg : decode c.code g.pc = .ok (.invokevirtual index, 3))
    (hpre : ∀ vm₁, s.WarmedH vm₁ → Pre ⟨T.setVm vm₁, locs, cells, slots⟩ (Value.ref b :: argsL).toArray) :
    (∃ (v : Option Value) (vm₁ : Vm) (B : Pt), s.WarmedH vm₁ ∧ Stand p l e R s m args below meth c B.U B.locs B.cells B.slots ∧ Post ⟨T.setVm vm₁, locs, cells, slots⟩ (Value.ref b :: argsL).toArray v B ∧
      ∀ target, Steps p.tables e below (B.U.setTop { g with pc := g.pc + 3, stack := v.toList ++ rest }) target → Steps p.tables e below (T.setTop g) target) ∨
    (∃ (q : Addr) (vm₁ : Vm) (B : Pt), s.WarmedH vm₁ ∧ Stand p l e R s m args below meth c B.U B.locs B.cells B.slots ∧ PostX ⟨T.setVm vm₁, locs, cells, slots⟩ (Value.ref b :: argsL).toArray q B ∧
      Steps p.tables e below (T.setTop g) ((B.U.setTop { g with stack := rest }).pushFrame (.throwing q))) := by
  obtain ⟨mk, methM, hnamed, hmethM, hstM, habM⟩ := Cond.instanceMethod_spec hinst
  obtain ⟨m8, methM', cM, hn8, hmethM', -, -, -, -, -, -, hsigM⟩ := Cond.codeWith_spec hcode
  cases Option.some.inj (hn8.symm.trans hnamed)
  cases hmethM.symm.trans hmethM'
  obtain ⟨c2, r2, m2, q1, q2, q3, q4, kP, hkP, hkPi⟩ := Cond.selects_spec hsel
  cases hcls.symm.trans q1
  cases (State.methodFound?_of_named hnamed hy).symm.trans q2
  cases hnamed.symm.trans q3
  have hselP : selectMethod e.platform s.vm cellB.cls mk = .method mk := by rw [Launch.admits_selectMethod X.admits]; exact q4
  obtain ⟨vm₁, X₁, hstep₁⟩ := X.invokevirtual hexec hown hlink hnamed hmethM hstM hkP hkPi hy (a := b) (cell := cellB) hcell
    (fun z h => by rw [h] at hobj; cases hobj) hselP hmethM habM hkP hkPi (g := g) hg (argsL := argsL) (rest := rest) (hlen _ hsigM) hstack hdg
  rcases hK m meth c ⟨T.setVm vm₁, locs, cells, slots⟩ { g with stack := rest } (.invokevirtual index) mk (Value.ref b :: argsL).toArray X₁ hg hsize hdg hW (X₁.named hnamed) (hpre vm₁ X₁.warmed) with ⟨v, B, X', hpost, hsteps⟩ | ⟨q, B, X', hpost, hsteps⟩
  · exact Or.inl ⟨v, vm₁, B, X₁.warmed, X', hpost, fun target h => hstep₁ _ fun acts => by rw [doInvoke_state]; exact hsteps.trans h⟩
  · exact Or.inr ⟨q, vm₁, B, X₁.warmed, X', hpost, hstep₁ _ fun acts => by rw [doInvoke_state]; exact hsteps⟩
theorem vx_callSX (X : Stand p l e R s m args below meth c T locs cells slots) (hexec : p.tables.exec = Jvm.exec) {own : String} {index : Nat} {y : MethodName} {bytes : ByteArray} {maxL : Nat} {ret : Option FieldType} {hh : List (Nat × Nat × Nat × Nat)}
    (hown : s.vm.findClass own = some m.cls) (hlink : (Cond.methodLink own index y).before args s = true) (hstat : (Cond.static y).before args s = true) (hinit : (Cond.initialized y.cls).before args s = true)
    (hcode : (Cond.codeWith y bytes maxL ret hh).before args s = true) (hy : y.cls ≠ "java/lang/invoke/MethodHandle" ∧ y.cls ≠ "java/lang/invoke/VarHandle")
    {W9 : Nat} {Pre : Pt → Array Value → Prop} {Post : Pt → Array Value → Option Value → Pt → Prop} {PostX : Pt → Array Value → Addr → Pt → Prop} (hK : vx_Back l R p e below s args y 3 W9 Pre Post PostX)
    {g : JFrame} (hg : g.method = m) (hsize : g.locals.size = c.maxLocals) {argsL rest : List Value} (hlen : ∀ sig, parseMethodDescriptor y.desc = some sig → argsL.length = sig.parameters.length)
    (hstack : g.stack = argsL.reverse ++ rest) (hW : 2 * g.monitorRoom + (rest.map fun v => v.category).sum ≤ W9) (hdg : decode c.code g.pc = .ok (.invokestatic index, 3))
    (hpre : ∀ vm₁, s.WarmedH vm₁ → Pre ⟨T.setVm vm₁, locs, cells, slots⟩ argsL.toArray) :
    (∃ (v : Option Value) (vm₁ : Vm) (B : Pt), s.WarmedH vm₁ ∧ Stand p l e R s m args below meth c B.U B.locs B.cells B.slots ∧ Post ⟨T.setVm vm₁, locs, cells, slots⟩ argsL.toArray v B ∧
      ∀ target, Steps p.tables e below (B.U.setTop { g with pc := g.pc + 3, stack := v.toList ++ rest }) target → Steps p.tables e below (T.setTop g) target) ∨
    (∃ (q : Addr) (vm₁ : Vm) (B : Pt), s.WarmedH vm₁ ∧ Stand p l e R s m args below meth c B.U B.locs B.cells B.slots ∧ PostX ⟨T.setVm vm₁, locs, cells, slots⟩ argsL.toArray q B ∧
      Steps p.tables e below (T.setTop g) ((B.U.setTop { g with stack := rest }).pushFrame (.throwing q))) := by
  obtain ⟨mk, methM, cM, hnamed, hmethM, -, -, -, -, -, -, hsigM⟩ := Cond.codeWith_spec hcode
  have hstatic : methM.isStatic = true := Cond.static_spec hnamed hmethM hstat
  obtain ⟨kP, hkP, -⟩ := className_of_methodNamed hnamed
  have hinitP : kP.init = .initialized := Cond.initialized_spec (findClass_of_methodNamed hnamed) hkP hinit
  obtain ⟨vm₁, X₁, hstep₁⟩ := X.invokestatic hexec hown hlink hnamed hmethM hstatic hkP hinitP hy (g := g) hg (argsL := argsL) (rest := rest) (hlen _ hsigM) hstack hdg
  rcases hK m meth c ⟨T.setVm vm₁, locs, cells, slots⟩ { g with stack := rest } (.invokestatic index) mk argsL.toArray X₁ hg hsize hdg hW (X₁.named hnamed) (hpre vm₁ X₁.warmed) with ⟨v, B, X', hpost, hsteps⟩ | ⟨q, B, X', hpost, hsteps⟩
  · exact Or.inl ⟨v, vm₁, B, X₁.warmed, X', hpost, fun target h => hstep₁ _ fun acts => by rw [doInvoke_state]; exact hsteps.trans h⟩
  · exact Or.inr ⟨q, vm₁, B, X₁.warmed, X', hpost, hstep₁ _ fun acts => by rw [doInvoke_state]; exact hsteps⟩
theorem vx_callVW (X : Stand p l e R s m args below meth c T locs cells slots) (hexec : p.tables.exec = Jvm.exec) {own C : String} {index : Nat} {y : MethodName} {bytes : ByteArray} {maxL : Nat} {ret : Option FieldType} {hh : List (Nat × Nat × Nat × Nat)}
    (hown : s.vm.findClass own = some m.cls) (hlink : (Cond.methodLink own index y).before args s = true) (hinst : (Cond.instanceMethod y).before args s = true) (hsel : (Cond.selects C y y).before args s = true)
    (hcode : (Cond.codeWith y bytes maxL ret hh).before args s = true) (hy : y.cls ≠ "java/lang/invoke/MethodHandle" ∧ y.cls ≠ "java/lang/invoke/VarHandle")
    {W9 : Nat} {Pre : Pt → Array Value → Prop} {Post : Pt → Array Value → Option Value → Pt → Prop} (hK : Back l R p e below s args y 3 W9 Pre Post)
    {b : Addr} {cellB : Cell} (hcell : T.heap[b]? = some cellB) (hobj : cellB.vm.isStatics = false) (hcls : s.vm.findClass C = some cellB.cls)
    {g : JFrame} (hg : g.method = m) (hsize : g.locals.size = c.maxLocals) {argsL rest : List Value} (hlen : ∀ sig, parseMethodDescriptor y.desc = some sig → argsL.length = sig.parameters.length)
    (hstack : g.stack = argsL.reverse ++ .ref b :: rest) (hW : 2 * g.monitorRoom + (rest.map fun v => v.category).sum ≤ W9) (hdg : decode c.code g.pc = .ok (.invokevirtual index, 3))
    (hpre : ∀ vm₁, s.WarmedH vm₁ → Pre ⟨T.setVm vm₁, locs, cells, slots⟩ (Value.ref b :: argsL).toArray) :
    ∃ (v : Option Value) (vm₁ : Vm) (B : Pt), s.WarmedH vm₁ ∧ Stand p l e R s m args below meth c B.U B.locs B.cells B.slots ∧ Post ⟨T.setVm vm₁, locs, cells, slots⟩ (Value.ref b :: argsL).toArray v B ∧
      ∀ target, Steps p.tables e below (B.U.setTop { g with pc := g.pc + 3, stack := v.toList ++ rest }) target → Steps p.tables e below (T.setTop g) target := by
  obtain ⟨mk, methM, hnamed, hmethM, hstM, habM⟩ := Cond.instanceMethod_spec hinst
  obtain ⟨m8, methM', cM, hn8, hmethM', -, -, -, -, -, -, hsigM⟩ := Cond.codeWith_spec hcode
  cases Option.some.inj (hn8.symm.trans hnamed)
  cases hmethM.symm.trans hmethM'
  obtain ⟨c2, r2, m2, q1, q2, q3, q4, kP, hkP, hkPi⟩ := Cond.selects_spec hsel
  cases hcls.symm.trans q1
  cases (State.methodFound?_of_named hnamed hy).symm.trans q2
  cases hnamed.symm.trans q3
  have hselP : selectMethod e.platform s.vm cellB.cls mk = .method mk := by rw [Launch.admits_selectMethod X.admits]; exact q4
  obtain ⟨vm₁, X₁, hstep₁⟩ := X.invokevirtual hexec hown hlink hnamed hmethM hstM hkP hkPi hy (a := b) (cell := cellB) hcell
    (fun z h => by rw [h] at hobj; cases hobj) hselP hmethM habM hkP hkPi (g := g) hg (argsL := argsL) (rest := rest) (hlen _ hsigM) hstack hdg
  obtain ⟨v, B, X', hpost, hsteps⟩ := hK m meth c ⟨T.setVm vm₁, locs, cells, slots⟩ { g with stack := rest } (.invokevirtual index) mk (Value.ref b :: argsL).toArray X₁ hg hsize hdg hW (X₁.named hnamed) (hpre vm₁ X₁.warmed)
  exact ⟨v, vm₁, B, X₁.warmed, X', hpost, fun target h => hstep₁ _ fun acts => by rw [doInvoke_state]; exact hsteps.trans h⟩
abbrev vx_CVW (R : Room) (s : State) (args : Array Value) (own C : String) (index : Nat) (y : MethodName) (bytes : ByteArray) (maxL : Nat) (ret : Option FieldType) (hh : List (Nat × Nat × Nat × Nat)) (ws : List Cond) (rm : Room) (mc ms n : Nat) : Prop :=
  (rm.cells = mc ∧ rm.slots = ms ∧ rm.frames + 1 ≤ R.frames ∧ 8 + (maxL + 11) + rm.locals ≤ R.locals ∧ (∀ w ∈ ws, ∀ (a' : Array Value) (U : State), s.WarmedH U.vm → w.before a' U = true) ∧ Cond.codeWith y bytes maxL ret hh ∈ ws) ∧
  (Cond.codeWith y bytes maxL ret hh).before args s = true ∧ (Cond.initialized y.cls).before args s = true ∧ (y.cls ≠ "java/lang/invoke/MethodHandle" ∧ y.cls ≠ "java/lang/invoke/VarHandle") ∧
  (∀ sig, parseMethodDescriptor y.desc = some sig → n = sig.parameters.length) ∧ (Cond.methodLink own index y).before args s = true ∧ (Cond.instanceMethod y).before args s = true ∧ (Cond.selects C y y).before args s = true
theorem vx_cwVW {own C : String} {index maxL mc ms : Nat} {y : MethodName} {bytes : ByteArray} {ret : Option FieldType} {hh : List (Nat × Nat × Nat × Nat)} {Ts ws ws' : List Cond} {rm : Room} (n : Nat) (ht : ∀ w ∈ Ts, w.before args s = true) (hT : GoodIn Ts (wsV own index C y ws)) (hw : ws = Cond.codeWith y bytes maxL ret hh :: ws') (hrc : rm.cells = mc) (hrs : rm.slots = ms)
    (hd : y.cls = C ∧ y.cls ≠ "java/lang/invoke/MethodHandle" ∧ y.cls ≠ "java/lang/invoke/VarHandle" ∧ (parseMethodDescriptor y.desc).map (fun d => d.parameters.length) = some n) (hR : rm.frames + 1 ≤ R.frames ∧ 8 + (maxL + 11) + rm.locals ≤ R.locals) :
    vx_CVW R s args own C index y bytes maxL ret hh ws rm mc ms n := by
  obtain ⟨hC, hd⟩ := hd
  subst hC
  have ok : ∀ w ∈ wsV own index y.cls y ws, w.before args s = true := fun w h => ht w (hT w h).1
  have hG : GoodIn Ts ws := fun w h => hT w (by unfold wsV; exact List.mem_append_right _ h)
  have hc : Cond.codeWith y bytes maxL ret hh ∈ ws := by rw [hw]; exact List.mem_cons_self
  refine ⟨⟨hrc, hrs, hR.1, hR.2, pay_in ht hG, hc⟩, ht _ (hG _ hc).1, ok _ (by simp [wsV]), ⟨hd.1, hd.2.1⟩, fun sig h => ?_, ok _ (by simp [wsV]), ok _ (by simp [wsV]), ok _ (by simp [wsV])⟩
  have h2 := hd.2.2
  rw [h] at h2
  exact (Option.some.inj h2).symm
theorem vx_runVW {y : MethodName} {bytes cc : ByteArray} {maxL nL mc ms n index : Nat} {ret : Option FieldType} {hh : List (Nat × Nat × Nat × Nat)} {ws : List Cond} {rm : Room} {Pc : Array Value → State → Prop} {Qc : Array Value → State → Outcome → State → Prop} {free : Addr → Prop} {Ts : List Cond} {own C : String} {b : Addr} {As rest : List Value} {g : JFrame}
    (S : CallFix p m c cc nL s args Ts own) (hM : Met l y ws rm Pc Qc mc ms free) (cw : vx_CVW R s args own C index y bytes maxL ret hh ws rm mc ms n) (hp : PreV s H C b Pc As)
    (hg : g.method = m) (hn : As.length = n) (hsize : g.locals.size = nL) (hstack : g.stack = As.reverse ++ .ref b :: rest) (hW : 2 * g.monitorRoom + (rest.map fun v => v.category).sum ≤ 8) (hdg : decode cc g.pc = .ok (.invokevirtual index, 3)) (hf : cells + mc ≤ R.cells ∧ slots + ms ≤ R.slots) :
    va_Run p l e R s m args below meth c H locs cells slots mc ms g rest (Qc (Value.ref b :: As).toArray) free := by
  obtain ⟨⟨hrc, hrs, hfr, hlo, hws, hcw⟩, hcode, hini, hy, hlen, hl, hin, hse⟩ := cw
  have hK : Back l R p e below s args y 3 8 (PreOf R mc ms Pc) (PostOf Qc mc ms free) := va_backW (hh := hh) (bytes := bytes) (maxL := maxL) (ret := ret) hM hp.1 hrc hrs hfr hlo hws hcw (fun a' U hW => word_at hW (Or.inl (by first | rfl | simp [Cond.onTables, Cond.keeps, Cond.steady])) hini)
  obtain ⟨hx, hb, hml, ho, -⟩ := S
  obtain ⟨-, ⟨cellB, hcB, hoB, hclB⟩, hPc⟩ := hp
  intro T hT X
  obtain ⟨v, vm₁, ⟨U', l2, c2, s2⟩, hW₁, X', ⟨g', mk, t, L, e1, e2, hq, h1, hL, h2, h3⟩, st⟩ := vx_callVW X hx (C := C) (hh := hh) (bytes := bytes) (maxL := maxL) (ret := ret) ho hl hin hse hcode hy hK (by rw [hT]; exact hcB) hoB hclB hg (hsize.trans hml.symm) (argsL := As) (rest := rest) (fun sig h => hn.trans (hlen sig h)) hstack hW (by rw [hb]; exact hdg)
    (fun vm₁ hW₁ => ⟨hf.1, hf.2, hPc (T.setVm vm₁) hT hW₁⟩)
  dsimp only [Pt.U, Pt.locs, Pt.cells, Pt.slots] at X' e1 e2 h1 h2 h3 st
  subst h1; subst h2; subst h3
  exact ⟨v, (T.setVm vm₁).calling g' mk (Value.ref b :: As).toArray, t, U', L, hT, X', hL, e1, e2, hq, st⟩
section
variable {y : MethodName} {bytes cc : ByteArray} {maxL nL mc ms n index : Nat} {ret : Option FieldType} {ws : List Cond} {rm : Room} {Pc : Array Value → State → Prop} {Qc : Array Value → State → Outcome → State → Prop} {XC : String → State → State → Prop} {free : Addr → Prop} {Ts : List Cond} {own C : String} {b : Addr} {As rest : List Value} {g : JFrame}
theorem vx_runVX {hh : List (Nat × Nat × Nat × Nat)} (S : CallFix p m c cc nL s args Ts own) (hM : vx_Met l y ws rm Pc Qc XC mc ms free) (cw : vx_CVW R s args own C index y bytes maxL ret hh ws rm mc ms n) (hp : PreV s H C b Pc As)
    (hg : g.method = m) (hn : As.length = n) (hsize : g.locals.size = nL) (hstack : g.stack = As.reverse ++ .ref b :: rest) (hW : 2 * g.monitorRoom + (rest.map fun v => v.category).sum ≤ 8) (hdg : decode cc g.pc = .ok (.invokevirtual index, 3)) (hf : cells + mc ≤ R.cells ∧ slots + ms ≤ R.slots) :
    vx_Run p l e R s m args below meth c H locs cells slots mc ms g rest (Qc (Value.ref b :: As).toArray) XC free := by
  obtain ⟨⟨hrc, hrs, hfr, hlo, hws, hcw⟩, hcode, hini, hy, hlen, hl, hin, hse⟩ := cw
  have hK : vx_Back l R p e below s args y 3 8 (PreOf R mc ms Pc) (PostOf Qc mc ms free) (vx_Post XC mc ms free) := vx_backW (hh := hh) (bytes := bytes) (maxL := maxL) (ret := ret) hM hp.1 hrc hrs hfr hlo hws hcw (fun a' U hW => word_at hW (Or.inl (by first | rfl | simp [Cond.onTables, Cond.keeps, Cond.steady])) hini)
  obtain ⟨hx, hb, hml, ho, -⟩ := S
  obtain ⟨-, ⟨cellB, hcB, hoB, hclB⟩, hPc⟩ := hp
  intro T hT X
  rcases vx_callVX X hx (C := C) (hh := hh) (bytes := bytes) (maxL := maxL) (ret := ret) ho hl hin hse hcode hy hK (by rw [hT]; exact hcB) hoB hclB hg (hsize.trans hml.symm) (argsL := As) (rest := rest) (fun sig h => hn.trans (hlen sig h)) hstack hW (by rw [hb]; exact hdg)
    (fun vm₁ hW₁ => ⟨hf.1, hf.2, hPc (T.setVm vm₁) hT hW₁⟩) with ⟨v, vm₁, ⟨U', l2, c2, s2⟩, hW₁, X', ⟨g', mk, t, L, e1, e2, hq, h1, hL, h2, h3⟩, st⟩ | ⟨q, vm₁, ⟨U', l2, c2, s2⟩, hW₁, X', ⟨g', mk, t, L, E, ce, e1, e2, hq, hce, hcv, hcl, h1, hL, h2, h3⟩, st⟩
  · dsimp only [Pt.U, Pt.locs, Pt.cells, Pt.slots] at X' e1 e2 h1 h2 h3 st
    subst h1; subst h2; subst h3
    exact Or.inl ⟨v, (T.setVm vm₁).calling g' mk (Value.ref b :: As).toArray, t, U', L, hT, X', hL, e1, e2, hq, st⟩
  · dsimp only [Pt.U, Pt.locs, Pt.cells, Pt.slots] at X' e1 e2 h1 h2 h3 st hcl
    subst h1; subst h2; subst h3
    exact Or.inr ⟨q, (T.setVm vm₁).calling g' mk (Value.ref b :: As).toArray, t, U', L, E, ce, hT, X', hL, e1, e2, hq, hce, hcv, vx_cls hW₁ hcl, st⟩
theorem vx_runSX {hh : List (Nat × Nat × Nat × Nat)} (S : CallFix p m c cc nL s args Ts own) (hM : vx_Met l y ws rm Pc Qc XC mc ms free) (cw : vx_CSW R s args own index y bytes maxL ret hh ws rm mc ms n) (hp : PreS s H Pc As)
    (hg : g.method = m) (hn : As.length = n) (hsize : g.locals.size = nL) (hstack : g.stack = As.reverse ++ rest) (hW : 2 * g.monitorRoom + (rest.map fun v => v.category).sum ≤ 8) (hdg : decode cc g.pc = .ok (.invokestatic index, 3)) (hf : cells + mc ≤ R.cells ∧ slots + ms ≤ R.slots) :
    vx_Run p l e R s m args below meth c H locs cells slots mc ms g rest (Qc As.toArray) XC free := by
  obtain ⟨⟨hrc, hrs, hfr, hlo, hws, hcw⟩, hcode, hini, hy, hlen, hl, hstt⟩ := cw
  have hK : vx_Back l R p e below s args y 3 8 (PreOf R mc ms Pc) (PostOf Qc mc ms free) (vx_Post XC mc ms free) := vx_backW (hh := hh) (bytes := bytes) (maxL := maxL) (ret := ret) hM hp.1 hrc hrs hfr hlo hws hcw (fun a' U hW => word_at hW (Or.inl (by first | rfl | simp [Cond.onTables, Cond.keeps, Cond.steady])) hini)
  obtain ⟨hx, hb, hml, ho, -⟩ := S
  intro T hT X
  rcases vx_callSX X hx (hh := hh) (bytes := bytes) (maxL := maxL) (ret := ret) ho hl hstt hini hcode hy hK hg (hsize.trans hml.symm) (argsL := As) (rest := rest) (fun sig h => hn.trans (hlen sig h)) hstack hW (by rw [hb]; exact hdg)
    (fun vm₁ hW₁ => ⟨hf.1, hf.2, hp.2 (T.setVm vm₁) hT hW₁⟩) with ⟨v, vm₁, ⟨U', l2, c2, s2⟩, hW₁, X', ⟨g', mk, t, L, e1, e2, hq, h1, hL, h2, h3⟩, st⟩ | ⟨q, vm₁, ⟨U', l2, c2, s2⟩, hW₁, X', ⟨g', mk, t, L, E, ce, e1, e2, hq, hce, hcv, hcl, h1, hL, h2, h3⟩, st⟩
  · dsimp only [Pt.U, Pt.locs, Pt.cells, Pt.slots] at X' e1 e2 h1 h2 h3 st
    subst h1; subst h2; subst h3
    exact Or.inl ⟨v, (T.setVm vm₁).calling g' mk As.toArray, t, U', L, hT, X', hL, e1, e2, hq, st⟩
  · dsimp only [Pt.U, Pt.locs, Pt.cells, Pt.slots] at X' e1 e2 h1 h2 h3 st hcl
    subst h1; subst h2; subst h3
    exact Or.inr ⟨q, (T.setVm vm₁).calling g' mk As.toArray, t, U', L, E, ce, hT, X', hL, e1, e2, hq, hce, hcv, vx_cls hW₁ hcl, st⟩
end
end VXH
theorem vx_ofWH {l : Launch} {y : MethodName} {ws ws' : List Cond} {rm : Room} {Pc : Array Value → State → Prop} {Qc : Array Value → State → Outcome → State → Prop} {XC : String → State → State → Prop} {mc ms : Nat} {free : Addr → Prop} {cc : ByteArray} {maxL : Nat} {ret : Option FieldType} {hh : List (Nat × Nat × Nat × Nat)}
    (hy : plainName y.cls = true) (hw : ws = Cond.codeWith y cc maxL ret hh :: ws')
    (body : ∀ p e s m args below meth c s₁, BodyLoose p l y (headSpec ws rm) cc maxL ret e s m args below meth c s₁ → c.maxLocals = maxL → Pc args s →
      W p l e (headSpec ws rm).room s m args below meth c s.heap [] 0 0 (vx_MQ below Qc XC args s mc ms free) (entryFrame m args maxL)) : vx_Met l y ws rm Pc Qc XC mc ms free := by
  refine MetFree.of_bodyS (code := cc) (maxLocals := maxL) (ret := ret) hy ?_ ?_
  · intro args s m h hn
    obtain ⟨m9, meth, c, hn9, h1, h2, h3, h4, -, h5, h6, -⟩ := Cond.codeWith_spec (atoms_spec (ws := ws) h _ (by rw [hw]; exact List.mem_cons_self))
    cases hn.symm.trans hn9
    exact ⟨meth, c, h1, h2, h3, h4, h5, h6⟩
  · intro p e s m args below meth c s₁ B hml hP _
    have hh0 : s₁.heap = s.heap := by rw [B.state]; rfl
    obtain ⟨t, a1, o, b1, b2, b3⟩ := body p e s m args below meth c s₁ B hml hP s₁ hh0 (Stand.of_body B)
    exact ⟨t, o, a1, b1, b2, b3⟩
/-! ===== END ===== -/
end
section
/-! ===== BEGIN printed: names, fields, word lists, decode rows ===== -/
def RX0 : String := "SharedShelf$Node"
def TX0 : u_T := fun k => match k with
  | 0 => ("SharedShelf$Node", "index", "I", true)
  | 1 => ("SharedShelf$Node", "lengths", "[I", true)
  | 2 => ("SharedShelf$Node", "current", "[I", true)
  | 3 => ("SharedShelf$Node", "previous", "[I", true)
  | 4 => ("SharedShelf$Node", "moved", "[I", true)
  | 5 => ("SharedShelf$Node", "own", "[I", true)
  | 6 => ("SharedShelf$Node", "up", "Z", false)
  | 7 => ("SharedShelf$Node", "phase", "I", false)
  | 8 => ("SharedShelf$Node", "round", "I", false)
  | 9 => ("SharedShelf$Node", "heard", "I", false)
  | _ => ("SharedShelf$Node", "task", "LSharedShelf$Operation;", false)
def tyX0 : Nat → FieldType := fun k => match k with
  | 0 => .int
  | 1 => .array .int
  | 2 => .array .int
  | 3 => .array .int
  | 4 => .array .int
  | 5 => .array .int
  | 6 => .boolean
  | 7 => .int
  | 8 => .int
  | 9 => .int
  | _ => .object "SharedShelf$Operation"
abbrev wsX00 : List Cond := u_ws RX0 TX0 11
theorem nmX0 : ∀ a, a < 11 → ∀ b, b < 11 → a ≠ b → (TX0 a).2.1 ≠ (TX0 b).2.1 := by decide +kernel
theorem tyX0_ok : ∀ k, k < 11 → parseFieldDescriptor (TX0 k).2.2.1 = some (tyX0 k) := by decide +kernel
abbrev cX0_init : ByteArray := prog_2_method_1_code
def yX0_init : MethodName := ⟨RX0, "<init>", "(II)V"⟩
abbrev cX0_takeUp : ByteArray := prog_2_method_2_code
def yX0_takeUp : MethodName := ⟨RX0, "takeUp", "(LSharedShelf$Operation;)V"⟩
abbrev cX0_enter : ByteArray := prog_2_method_3_code
def yX0_enter : MethodName := ⟨RX0, "enter", "(I)V"⟩
abbrev cX0_rest : ByteArray := prog_2_method_4_code
def yX0_rest : MethodName := ⟨RX0, "rest", "()V"⟩
abbrev cX0_clearCurrent : ByteArray := prog_2_method_5_code
def yX0_clearCurrent : MethodName := ⟨RX0, "clearCurrent", "()V"⟩
abbrev cX0_lengthenLog : ByteArray := prog_2_method_6_code
def yX0_lengthenLog : MethodName := ⟨RX0, "lengthenLog", "()I"⟩
abbrev cX0_isMajority : ByteArray := prog_2_method_7_code
def yX0_isMajority : MethodName := ⟨RX0, "isMajority", "(I)Z"⟩
abbrev cX0_waitsFor : ByteArray := prog_2_method_8_code
def yX0_waitsFor : MethodName := ⟨RX0, "waitsFor", "(II)Z"⟩
abbrev cX0_collectsAreAlike : ByteArray := prog_2_method_9_code
def yX0_collectsAreAlike : MethodName := ⟨RX0, "collectsAreAlike", "()Z"⟩
abbrev cX0_leastThatMovedTwice : ByteArray := prog_2_method_10_code
def yX0_leastThatMovedTwice : MethodName := ⟨RX0, "leastThatMovedTwice", "()I"⟩
abbrev cX0_rememberCollect : ByteArray := prog_2_method_11_code
def yX0_rememberCollect : MethodName := ⟨RX0, "rememberCollect", "(Z)V"⟩
abbrev cX0_tell : ByteArray := prog_2_method_12_code
def yX0_tell : MethodName := ⟨RX0, "tell", "(I)I"⟩
def RX1 : String := "SharedShelf$Operation"
def TX1 : u_T := fun k => match k with
  | 0 => ("SharedShelf$Operation", "number", "I", true)
  | 1 => ("SharedShelf$Operation", "node", "I", true)
  | 2 => ("SharedShelf$Operation", "kind", "I", true)
  | 3 => ("SharedShelf$Operation", "a", "I", true)
  | 4 => ("SharedShelf$Operation", "b", "I", true)
  | 5 => ("SharedShelf$Operation", "began", "I", true)
  | 6 => ("SharedShelf$Operation", "seen", "[I", true)
  | 7 => ("SharedShelf$Operation", "hasView", "Z", false)
  | 8 => ("SharedShelf$Operation", "done", "I", false)
  | 9 => ("SharedShelf$Operation", "collects", "I", false)
  | 10 => ("SharedShelf$Operation", "lender", "I", false)
  | _ => ("SharedShelf$Operation", "place", "I", false)
def tyX1 : Nat → FieldType := fun k => match k with
  | 0 => .int
  | 1 => .int
  | 2 => .int
  | 3 => .int
  | 4 => .int
  | 5 => .int
  | 6 => .array .int
  | 7 => .boolean
  | 8 => .int
  | 9 => .int
  | 10 => .int
  | _ => .int
abbrev wsX10 : List Cond := u_ws RX1 TX1 12
theorem nmX1 : ∀ a, a < 12 → ∀ b, b < 12 → a ≠ b → (TX1 a).2.1 ≠ (TX1 b).2.1 := by decide +kernel
theorem tyX1_ok : ∀ k, k < 12 → parseFieldDescriptor (TX1 k).2.2.1 = some (tyX1 k) := by decide +kernel
abbrev cX1_init : ByteArray := prog_3_method_1_code
def yX1_init : MethodName := ⟨RX1, "<init>", "(IIIIIII)V"⟩
abbrev cX1_isUpdate : ByteArray := prog_3_method_2_code
def yX1_isUpdate : MethodName := ⟨RX1, "isUpdate", "()Z"⟩
abbrev cX1_isDone : ByteArray := prog_3_method_3_code
def yX1_isDone : MethodName := ⟨RX1, "isDone", "()Z"⟩
abbrev cX1_see : ByteArray := prog_3_method_4_code
def yX1_see : MethodName := ⟨RX1, "see", "([I)V"⟩
abbrev cX1_sees : ByteArray := prog_3_method_5_code
def yX1_sees : MethodName := ⟨RX1, "sees", "(LSharedShelf$Operation;I)Z"⟩
abbrev cX1_seesAtMost : ByteArray := prog_3_method_6_code
def yX1_seesAtMost : MethodName := ⟨RX1, "seesAtMost", "(LSharedShelf$Operation;)Z"⟩
abbrev cX1_tell : ByteArray := prog_3_method_7_code
def yX1_tell : MethodName := ⟨RX1, "tell", "(I)I"⟩
def RX2 : String := "SharedShelf$Row"
def TX2 : u_T := fun k => match k with
  | 0 => ("SharedShelf$Row", "width", "I", true)
  | 1 => ("SharedShelf$Row", "slots", "[I", true)
  | 2 => ("SharedShelf$Row", "kinds", "[I", true)
  | 3 => ("SharedShelf$Row", "senders", "[I", true)
  | 4 => ("SharedShelf$Row", "receivers", "[I", true)
  | 5 => ("SharedShelf$Row", "rounds", "[I", true)
  | 6 => ("SharedShelf$Row", "numbers", "[I", true)
  | 7 => ("SharedShelf$Row", "head", "I", false)
  | 8 => ("SharedShelf$Row", "length", "I", false)
  | _ => ("SharedShelf$Row", "sent", "I", false)
def tyX2 : Nat → FieldType := fun k => match k with
  | 0 => .int
  | 1 => .array .int
  | 2 => .array .int
  | 3 => .array .int
  | 4 => .array .int
  | 5 => .array .int
  | 6 => .array .int
  | 7 => .int
  | 8 => .int
  | _ => .int
abbrev wsX20 : List Cond := u_ws RX2 TX2 10
theorem nmX2 : ∀ a, a < 10 → ∀ b, b < 10 → a ≠ b → (TX2 a).2.1 ≠ (TX2 b).2.1 := by decide +kernel
theorem tyX2_ok : ∀ k, k < 10 → parseFieldDescriptor (TX2 k).2.2.1 = some (tyX2 k) := by decide +kernel
abbrev cX2_init : ByteArray := prog_4_method_1_code
def yX2_init : MethodName := ⟨RX2, "<init>", "(I)V"⟩
abbrev cX2_holds : ByteArray := prog_4_method_2_code
def yX2_holds : MethodName := ⟨RX2, "holds", "(I)Z"⟩
abbrev cX2_hasRoom : ByteArray := prog_4_method_3_code
def yX2_hasRoom : MethodName := ⟨RX2, "hasRoom", "(I)Z"⟩
abbrev cX2_slotOf : ByteArray := prog_4_method_4_code
def yX2_slotOf : MethodName := ⟨RX2, "slotOf", "(I)I"⟩
abbrev cX2_send : ByteArray := prog_4_method_5_code
def yX2_send : MethodName := ⟨RX2, "send", "(IIII[I)V"⟩
abbrev cX2_take : ByteArray := prog_4_method_6_code
def yX2_take : MethodName := ⟨RX2, "take", "(I)V"⟩
abbrev cX2_raise : ByteArray := prog_4_method_7_code
def yX2_raise : MethodName := ⟨RX2, "raise", "([II)V"⟩
abbrev cX2_numberOf : ByteArray := prog_4_method_8_code
def yX2_numberOf : MethodName := ⟨RX2, "numberOf", "(II)I"⟩
abbrev cX2_tell : ByteArray := prog_4_method_9_code
def yX2_tell : MethodName := ⟨RX2, "tell", "(II)I"⟩
def RX3 : String := "SharedShelf"
def TX3 : u_T := fun k => match k with
  | 0 => ("SharedShelf", "nodes", "[LSharedShelf$Node;", true)
  | 1 => ("SharedShelf", "row", "LSharedShelf$Row;", true)
  | 2 => ("SharedShelf", "operations", "[LSharedShelf$Operation;", true)
  | 3 => ("SharedShelf", "begun", "I", false)
  | 4 => ("SharedShelf", "ended", "I", false)
  | 5 => ("SharedShelf", "moment", "I", false)
  | 6 => ("SharedShelf", "came", "I", false)
  | 7 => ("SharedShelf", "borrowed", "I", false)
  | _ => ("SharedShelf", "mostCollects", "I", false)
def tyX3 : Nat → FieldType := fun k => match k with
  | 0 => .array (.object "SharedShelf$Node")
  | 1 => .object "SharedShelf$Row"
  | 2 => .array (.object "SharedShelf$Operation")
  | 3 => .int
  | 4 => .int
  | 5 => .int
  | 6 => .int
  | 7 => .int
  | _ => .int
abbrev wsX30 : List Cond := u_ws RX3 TX3 9
theorem nmX3 : ∀ a, a < 9 → ∀ b, b < 9 → a ≠ b → (TX3 a).2.1 ≠ (TX3 b).2.1 := by decide +kernel
theorem tyX3_ok : ∀ k, k < 9 → parseFieldDescriptor (TX3 k).2.2.1 = some (tyX3 k) := by decide +kernel
abbrev cX3_init : ByteArray := prog_1_method_1_code
def yX3_init : MethodName := ⟨RX3, "<init>", "(I)V"⟩
abbrev cX3_update : ByteArray := prog_1_method_2_code
def yX3_update : MethodName := ⟨RX3, "update", "(IIII)I"⟩
abbrev cX3_query : ByteArray := prog_1_method_3_code
def yX3_query : MethodName := ⟨RX3, "query", "(III)I"⟩
abbrev cX3_deliver : ByteArray := prog_1_method_4_code
def yX3_deliver : MethodName := ⟨RX3, "deliver", "(I)I"⟩
abbrev cX3_calm : ByteArray := prog_1_method_5_code
def yX3_calm : MethodName := ⟨RX3, "calm", "(I)I"⟩
abbrev cX3_crash : ByteArray := prog_1_method_6_code
def yX3_crash : MethodName := ⟨RX3, "crash", "(I)Z"⟩
abbrev cX3_told : ByteArray := prog_1_method_7_code
def yX3_told : MethodName := ⟨RX3, "told", "(II)I"⟩
abbrev cX3_answer : ByteArray := prog_1_method_8_code
def yX3_answer : MethodName := ⟨RX3, "answer", "(I)J"⟩
abbrev cX3_view : ByteArray := prog_1_method_9_code
def yX3_view : MethodName := ⟨RX3, "view", "(II)I"⟩
abbrev cX3_node : ByteArray := prog_1_method_10_code
def yX3_node : MethodName := ⟨RX3, "node", "(II)I"⟩
abbrev cX3_kept : ByteArray := prog_1_method_11_code
def yX3_kept : MethodName := ⟨RX3, "kept", "(II)I"⟩
abbrev cX3_message : ByteArray := prog_1_method_12_code
def yX3_message : MethodName := ⟨RX3, "message", "(II)I"⟩
abbrev cX3_vector : ByteArray := prog_1_method_13_code
def yX3_vector : MethodName := ⟨RX3, "vector", "(II)I"⟩
abbrev cX3_count : ByteArray := prog_1_method_14_code
def yX3_count : MethodName := ⟨RX3, "count", "(I)I"⟩
abbrev cX3_astray : ByteArray := prog_1_method_15_code
def yX3_astray : MethodName := ⟨RX3, "astray", "()I"⟩
abbrev cX3_isNode : ByteArray := prog_1_method_16_code
def yX3_isNode : MethodName := ⟨RX3, "isNode", "(I)Z"⟩
abbrev cX3_find : ByteArray := prog_1_method_17_code
def yX3_find : MethodName := ⟨RX3, "find", "(I)LSharedShelf$Operation;"⟩
abbrev cX3_nodesUp : ByteArray := prog_1_method_18_code
def yX3_nodesUp : MethodName := ⟨RX3, "nodesUp", "()I"⟩
abbrev cX3_begin : ByteArray := prog_1_method_19_code
def yX3_begin : MethodName := ⟨RX3, "begin", "(IIII)I"⟩
abbrev cX3_come : ByteArray := prog_1_method_20_code
def yX3_come : MethodName := ⟨RX3, "come", "(I)I"⟩
abbrev cX3_leadsTo : ByteArray := prog_1_method_21_code
def yX3_leadsTo : MethodName := ⟨RX3, "leadsTo", "(LSharedShelf$Node;I)I"⟩
abbrev cX3_endsOperation : ByteArray := prog_1_method_22_code
def yX3_endsOperation : MethodName := ⟨RX3, "endsOperation", "(LSharedShelf$Node;)Z"⟩
abbrev cX3_hear : ByteArray := prog_1_method_23_code
def yX3_hear : MethodName := ⟨RX3, "hear", "(LSharedShelf$Node;I)V"⟩
abbrev cX3_beginCollect : ByteArray := prog_1_method_24_code
def yX3_beginCollect : MethodName := ⟨RX3, "beginCollect", "(LSharedShelf$Node;)V"⟩
abbrev cX3_endCollect : ByteArray := prog_1_method_25_code
def yX3_endCollect : MethodName := ⟨RX3, "endCollect", "(LSharedShelf$Node;LSharedShelf$Operation;)V"⟩
abbrev cX3_lender : ByteArray := prog_1_method_26_code
def yX3_lender : MethodName := ⟨RX3, "lender", "(LSharedShelf$Node;)LSharedShelf$Operation;"⟩
abbrev cX3_useView : ByteArray := prog_1_method_27_code
def yX3_useView : MethodName := ⟨RX3, "useView", "(LSharedShelf$Node;LSharedShelf$Operation;[I)V"⟩
abbrev cX3_endOperation : ByteArray := prog_1_method_28_code
def yX3_endOperation : MethodName := ⟨RX3, "endOperation", "(LSharedShelf$Node;LSharedShelf$Operation;)V"⟩
abbrev cX3_sendToAll : ByteArray := prog_1_method_29_code
def yX3_sendToAll : MethodName := ⟨RX3, "sendToAll", "(LSharedShelf$Node;II[I)V"⟩
abbrev cX3_fold : ByteArray := prog_1_method_30_code
def yX3_fold : MethodName := ⟨RX3, "fold", "(LSharedShelf$Operation;)J"⟩
abbrev cX3_sum : ByteArray := prog_1_method_31_code
def yX3_sum : MethodName := ⟨RX3, "sum", "(LSharedShelf$Operation;)J"⟩
abbrev cX3_greatest : ByteArray := prog_1_method_32_code
def yX3_greatest : MethodName := ⟨RX3, "greatest", "(LSharedShelf$Operation;)J"⟩
abbrev cX3_contains : ByteArray := prog_1_method_33_code
def yX3_contains : MethodName := ⟨RX3, "contains", "(LSharedShelf$Operation;)Z"⟩
abbrev cX3_greatestOfKey : ByteArray := prog_1_method_34_code
def yX3_greatestOfKey : MethodName := ⟨RX3, "greatestOfKey", "(LSharedShelf$Operation;)J"⟩
abbrev cX3_different : ByteArray := prog_1_method_35_code
def yX3_different : MethodName := ⟨RX3, "different", "(LSharedShelf$Operation;I)I"⟩
abbrev cX3_isRepeated : ByteArray := prog_1_method_36_code
def yX3_isRepeated : MethodName := ⟨RX3, "isRepeated", "(LSharedShelf$Operation;LSharedShelf$Operation;)Z"⟩
abbrev cX3_strays : ByteArray := prog_1_method_37_code
def yX3_strays : MethodName := ⟨RX3, "strays", "(LSharedShelf$Operation;LSharedShelf$Operation;)I"⟩
abbrev cX3_seesWhatBeganLater : ByteArray := prog_1_method_38_code
def yX3_seesWhatBeganLater : MethodName := ⟨RX3, "seesWhatBeganLater", "(LSharedShelf$Operation;)Z"⟩
def RX4 : String := "SharedShelfModel"
def TX4 : u_T := fun k => match k with
  | 0 => ("SharedShelfModel", "n", "I", true)
  | 1 => ("SharedShelfModel", "thrown", "I", false)
  | 2 => ("SharedShelfModel", "kind", "[I", true)
  | 3 => ("SharedShelfModel", "sender", "[I", true)
  | 4 => ("SharedShelfModel", "receiver", "[I", true)
  | 5 => ("SharedShelfModel", "round", "[I", true)
  | 6 => ("SharedShelfModel", "vector", "[I", true)
  | 7 => ("SharedShelfModel", "used", "[Z", true)
  | 8 => ("SharedShelfModel", "row", "[I", true)
  | 9 => ("SharedShelfModel", "many", "I", false)
  | 10 => ("SharedShelfModel", "sent", "I", false)
  | 11 => ("SharedShelfModel", "came", "I", false)
  | 12 => ("SharedShelfModel", "moment", "I", false)
  | 13 => ("SharedShelfModel", "down", "[Z", true)
  | 14 => ("SharedShelfModel", "phase", "[I", true)
  | 15 => ("SharedShelfModel", "asks", "[I", true)
  | 16 => ("SharedShelfModel", "under", "[I", true)
  | 17 => ("SharedShelfModel", "heard", "[I", true)
  | 18 => ("SharedShelfModel", "kept", "[I", true)
  | 19 => ("SharedShelfModel", "length", "[I", true)
  | 20 => ("SharedShelfModel", "log", "[I", true)
  | 21 => ("SharedShelfModel", "greatest", "[I", true)
  | 22 => ("SharedShelfModel", "current", "[I", true)
  | 23 => ("SharedShelfModel", "before", "[I", true)
  | 24 => ("SharedShelfModel", "hasBefore", "[Z", true)
  | 25 => ("SharedShelfModel", "moved", "[I", true)
  | 26 => ("SharedShelfModel", "at", "[I", true)
  | 27 => ("SharedShelfModel", "sort", "[I", true)
  | 28 => ("SharedShelfModel", "one", "[I", true)
  | 29 => ("SharedShelfModel", "two", "[I", true)
  | 30 => ("SharedShelfModel", "began", "[I", true)
  | 31 => ("SharedShelfModel", "done", "[I", true)
  | 32 => ("SharedShelfModel", "collects", "[I", true)
  | 33 => ("SharedShelfModel", "lender", "[I", true)
  | 34 => ("SharedShelfModel", "place", "[I", true)
  | 35 => ("SharedShelfModel", "view", "[I", true)
  | 36 => ("SharedShelfModel", "hasView", "[Z", true)
  | 37 => ("SharedShelfModel", "operations", "I", false)
  | 38 => ("SharedShelfModel", "borrowed", "I", false)
  | 39 => ("SharedShelfModel", "seen", "[I", true)
  | _ => ("SharedShelfModel", "seenMany", "I", false)
def tyX4 : Nat → FieldType := fun k => match k with
  | 0 => .int
  | 1 => .int
  | 2 => .array .int
  | 3 => .array .int
  | 4 => .array .int
  | 5 => .array .int
  | 6 => .array .int
  | 7 => .array .boolean
  | 8 => .array .int
  | 9 => .int
  | 10 => .int
  | 11 => .int
  | 12 => .int
  | 13 => .array .boolean
  | 14 => .array .int
  | 15 => .array .int
  | 16 => .array .int
  | 17 => .array .int
  | 18 => .array .int
  | 19 => .array .int
  | 20 => .array .int
  | 21 => .array .int
  | 22 => .array .int
  | 23 => .array .int
  | 24 => .array .boolean
  | 25 => .array .int
  | 26 => .array .int
  | 27 => .array .int
  | 28 => .array .int
  | 29 => .array .int
  | 30 => .array .int
  | 31 => .array .int
  | 32 => .array .int
  | 33 => .array .int
  | 34 => .array .int
  | 35 => .array .int
  | 36 => .array .boolean
  | 37 => .int
  | 38 => .int
  | 39 => .array .int
  | _ => .int
abbrev wsX40 : List Cond := u_ws RX4 TX4 41
theorem nmX4 : ∀ a, a < 41 → ∀ b, b < 41 → a ≠ b → (TX4 a).2.1 ≠ (TX4 b).2.1 := by decide +kernel
theorem tyX4_ok : ∀ k, k < 41 → parseFieldDescriptor (TX4 k).2.2.1 = some (tyX4 k) := by decide +kernel
abbrev cX4_init : ByteArray := prog_6_method_1_code
def yX4_init : MethodName := ⟨RX4, "<init>", "(I)V"⟩
abbrev cX4_thrown : ByteArray := prog_6_method_2_code
def yX4_thrown : MethodName := ⟨RX4, "thrown", "()I"⟩
abbrev cX4_isNode : ByteArray := prog_6_method_3_code
def yX4_isNode : MethodName := ⟨RX4, "isNode", "(I)Z"⟩
abbrev cX4_hasRoom : ByteArray := prog_6_method_4_code
def yX4_hasRoom : MethodName := ⟨RX4, "hasRoom", "(I)Z"⟩
abbrev cX4_send : ByteArray := prog_6_method_5_code
def yX4_send : MethodName := ⟨RX4, "send", "(IIII)I"⟩
abbrev cX4_toAll : ByteArray := prog_6_method_6_code
def yX4_toAll : MethodName := ⟨RX4, "toAll", "(II[I)V"⟩
abbrev cX4_collect : ByteArray := prog_6_method_7_code
def yX4_collect : MethodName := ⟨RX4, "collect", "(I)V"⟩
abbrev cX4_begin : ByteArray := prog_6_method_8_code
def yX4_begin : MethodName := ⟨RX4, "begin", "(IIII)I"⟩
abbrev cX4_update : ByteArray := prog_6_method_9_code
def yX4_update : MethodName := ⟨RX4, "update", "(IIII)I"⟩
abbrev cX4_query : ByteArray := prog_6_method_10_code
def yX4_query : MethodName := ⟨RX4, "query", "(III)I"⟩
abbrev cX4_isSame : ByteArray := prog_6_method_11_code
def yX4_isSame : MethodName := ⟨RX4, "isSame", "(I)Z"⟩
abbrev cX4_movedTwice : ByteArray := prog_6_method_12_code
def yX4_movedTwice : MethodName := ⟨RX4, "movedTwice", "(I)I"⟩
abbrev cX4_isSeen : ByteArray := prog_6_method_13_code
def yX4_isSeen : MethodName := ⟨RX4, "isSeen", "(I)Z"⟩
abbrev cX4_isQuery : ByteArray := prog_6_method_14_code
def yX4_isQuery : MethodName := ⟨RX4, "isQuery", "(I)Z"⟩
abbrev cX4_ends : ByteArray := prog_6_method_15_code
def yX4_ends : MethodName := ⟨RX4, "ends", "(I)V"⟩
abbrev cX4_take : ByteArray := prog_6_method_16_code
def yX4_take : MethodName := ⟨RX4, "take", "(I)V"⟩
abbrev cX4_through : ByteArray := prog_6_method_17_code
def yX4_through : MethodName := ⟨RX4, "through", "(I)V"⟩
abbrev cX4_counts : ByteArray := prog_6_method_18_code
def yX4_counts : MethodName := ⟨RX4, "counts", "(I)Z"⟩
abbrev cX4_wanted : ByteArray := prog_6_method_19_code
def yX4_wanted : MethodName := ⟨RX4, "wanted", "(I)I"⟩
abbrev cX4_replies : ByteArray := prog_6_method_20_code
def yX4_replies : MethodName := ⟨RX4, "replies", "(I)V"⟩
abbrev cX4_hears : ByteArray := prog_6_method_21_code
def yX4_hears : MethodName := ⟨RX4, "hears", "(I)V"⟩
abbrev cX4_come : ByteArray := prog_6_method_22_code
def yX4_come : MethodName := ⟨RX4, "come", "(I)I"⟩
abbrev cX4_deliver : ByteArray := prog_6_method_23_code
def yX4_deliver : MethodName := ⟨RX4, "deliver", "(I)I"⟩
abbrev cX4_calm : ByteArray := prog_6_method_24_code
def yX4_calm : MethodName := ⟨RX4, "calm", "(I)I"⟩
abbrev cX4_crash : ByteArray := prog_6_method_25_code
def yX4_crash : MethodName := ⟨RX4, "crash", "(I)Z"⟩
abbrev cX4_isOperation : ByteArray := prog_6_method_26_code
def yX4_isOperation : MethodName := ⟨RX4, "isOperation", "(I)Z"⟩
abbrev cX4_told : ByteArray := prog_6_method_27_code
def yX4_told : MethodName := ⟨RX4, "told", "(II)I"⟩
abbrev cX4_gather : ByteArray := prog_6_method_28_code
def yX4_gather : MethodName := ⟨RX4, "gather", "(II)V"⟩
abbrev cX4_different : ByteArray := prog_6_method_29_code
def yX4_different : MethodName := ⟨RX4, "different", "()I"⟩
abbrev cX4_answer : ByteArray := prog_6_method_30_code
def yX4_answer : MethodName := ⟨RX4, "answer", "(I)J"⟩
abbrev cX4_view : ByteArray := prog_6_method_31_code
def yX4_view : MethodName := ⟨RX4, "view", "(II)I"⟩
abbrev cX4_node : ByteArray := prog_6_method_32_code
def yX4_node : MethodName := ⟨RX4, "node", "(II)I"⟩
abbrev cX4_kept : ByteArray := prog_6_method_33_code
def yX4_kept : MethodName := ⟨RX4, "kept", "(II)I"⟩
abbrev cX4_message : ByteArray := prog_6_method_34_code
def yX4_message : MethodName := ⟨RX4, "message", "(II)I"⟩
abbrev cX4_vector : ByteArray := prog_6_method_35_code
def yX4_vector : MethodName := ⟨RX4, "vector", "(II)I"⟩
abbrev cX4_count : ByteArray := prog_6_method_36_code
def yX4_count : MethodName := ⟨RX4, "count", "(I)I"⟩
abbrev cX4_isWithin : ByteArray := prog_6_method_37_code
def yX4_isWithin : MethodName := ⟨RX4, "isWithin", "(II)Z"⟩
abbrev cX4_isLate : ByteArray := prog_6_method_38_code
def yX4_isLate : MethodName := ⟨RX4, "isLate", "(I)Z"⟩
abbrev cX4_astray : ByteArray := prog_6_method_39_code
def yX4_astray : MethodName := ⟨RX4, "astray", "()I"⟩
def RJ9 : String := "java/lang/Math"
def TJ9 : u_T := fun k => match k with
  | _ => ("", "", "", false)
def tyJ9 : Nat → FieldType := fun k => match k with
  | _ => .int
abbrev wsJ90 : List Cond := u_ws RJ9 TJ9 0
theorem nmJ9 : ∀ a, a < 0 → ∀ b, b < 0 → a ≠ b → (TJ9 a).2.1 ≠ (TJ9 b).2.1 := by decide +kernel
theorem tyJ9_ok : ∀ k, k < 0 → parseFieldDescriptor (TJ9 k).2.2.1 = some (tyJ9 k) := by decide +kernel
abbrev cJ9_max_7cf53 : ByteArray := prog_10_method_65_code
def yJ9_max_7cf53 : MethodName := ⟨RJ9, "max", "(II)I"⟩
abbrev cJ9_max_f86c9 : ByteArray := prog_10_method_66_code
def yJ9_max_f86c9 : MethodName := ⟨RJ9, "max", "(JJ)J"⟩
def RJ0 : String := "java/lang/String"
def TJ0 : u_T := fun k => match k with
  | _ => ("", "", "", false)
def tyJ0 : Nat → FieldType := fun k => match k with
  | _ => .int
abbrev wsJ00 : List Cond := u_ws RJ0 TJ0 0
theorem nmJ0 : ∀ a, a < 0 → ∀ b, b < 0 → a ≠ b → (TJ0 a).2.1 ≠ (TJ0 b).2.1 := by decide +kernel
theorem tyJ0_ok : ∀ k, k < 0 → parseFieldDescriptor (TJ0 k).2.2.1 = some (tyJ0 k) := by decide +kernel
def RJ10 : String := "java/lang/System"
def TJ10 : u_T := fun k => match k with
  | _ => ("", "", "", false)
def tyJ10 : Nat → FieldType := fun k => match k with
  | _ => .int
abbrev wsJ100 : List Cond := u_ws RJ10 TJ10 0
theorem nmJ10 : ∀ a, a < 0 → ∀ b, b < 0 → a ≠ b → (TJ10 a).2.1 ≠ (TJ10 b).2.1 := by decide +kernel
theorem tyJ10_ok : ∀ k, k < 0 → parseFieldDescriptor (TJ10 k).2.2.1 = some (tyJ10 k) := by decide +kernel
def RL : String := "SharedShelfLaw"
abbrev cL_cell : ByteArray := method_2_code
def yL_cell : MethodName := ⟨RL, "cell", "([II)I"⟩
abbrev cL_update : ByteArray := method_3_code
def yL_update : MethodName := ⟨RL, "update", "(LSharedShelf;IIII[J)I"⟩
abbrev cL_query : ByteArray := method_4_code
def yL_query : MethodName := ⟨RL, "query", "(LSharedShelf;III[J)I"⟩
abbrev cL_deliver : ByteArray := method_5_code
def yL_deliver : MethodName := ⟨RL, "deliver", "(LSharedShelf;I[J)I"⟩
abbrev cL_calm : ByteArray := method_6_code
def yL_calm : MethodName := ⟨RL, "calm", "(LSharedShelf;I[J)I"⟩
abbrev cL_crash : ByteArray := method_7_code
def yL_crash : MethodName := ⟨RL, "crash", "(LSharedShelf;I[J)I"⟩
abbrev cL_law : ByteArray := code
def yL_law : MethodName := ⟨RL, "law", "([I)Z"⟩
abbrev vwCl : List vw_C := [(RX0, TX0, 11), (RX1, TX1, 12), (RX2, TX2, 10), (RX3, TX3, 9), (RX4, TX4, 41)]
end
section
/-- the good words of the tables: the words of every method here -/
def gw : List Cond := lw_tbl.filter goodWord
theorem gw_of {w : Cond} (i : Nat) (h : lw_tbl[i]? = some w) (hg : goodWord w = true) : w ∈ gw := List.mem_filter.mpr ⟨List.mem_of_getElem? h, hg⟩
theorem gw_good {w : Cond} (h : w ∈ gw) : w ∈ gw ∧ ((w.onTables && w.keeps) = true ∨ ∃ ty, w = .arrayClass ty) := ⟨h, good_of_word (List.mem_filter.mp h).2⟩
theorem gw_in {y : MethodName} {b : ByteArray} {n : Nat} {r : Option FieldType} (h : Cond.code y b n r ∈ gw) : GoodIn gw (.code y b n r :: gw) := fun w hw => gw_good ((List.mem_cons.mp hw).elim (fun e => e ▸ h) id)
theorem gw_V {own C : String} {idx : Nat} {y : MethodName} {b : ByteArray} {n : Nat} {r : Option FieldType} (h1 : Cond.methodLink own idx y ∈ gw) (h2 : Cond.instanceMethod y ∈ gw) (h3 : Cond.selects C y y ∈ gw) (h4 : Cond.initialized C ∈ gw) (h : Cond.code y b n r ∈ gw) : GoodIn gw (wsV own idx C y (.code y b n r :: gw)) := by
  intro w hw
  rcases List.mem_append.mp hw with q | q
  · simp only [List.mem_cons, List.not_mem_nil, or_false] at q
    rcases q with rfl | rfl | rfl | rfl
    · exact gw_good h1
    · exact gw_good h2
    · exact gw_good h3
    · exact gw_good h4
  · exact gw_in h w q
theorem gw_S {own : String} {idx : Nat} {y : MethodName} {b : ByteArray} {n : Nat} {r : Option FieldType} (h1 : Cond.methodLink own idx y ∈ gw) (h2 : Cond.static y ∈ gw) (h4 : Cond.initialized own ∈ gw) (h : Cond.code y b n r ∈ gw) : GoodIn gw (wsS own idx y (.code y b n r :: gw)) := by
  intro w hw
  rcases List.mem_append.mp hw with q | q
  · simp only [List.mem_cons, List.not_mem_nil, or_false] at q
    rcases q with rfl | rfl | rfl
    · exact gw_good h1
    · exact gw_good h2
    · exact gw_good h4
  · exact gw_in h w q
theorem gw_sub {ws : List Cond} (ps : List Nat) (h : ps.map (fun i => lw_tbl[i]?) = ws.map some) (hg : ws.all goodWord = true) : ∀ w ∈ ws, w ∈ gw := by
  intro w hw
  refine List.mem_filter.mpr ⟨?_, List.all_eq_true.mp hg w hw⟩
  have h1 : some w ∈ ps.map (fun i => lw_tbl[i]?) := by rw [h]; exact List.mem_map_of_mem hw
  obtain ⟨i, -, hi⟩ := List.mem_map.mp h1
  exact List.mem_of_getElem? hi
theorem kD_X0_init : Cond.code yX0_init cX0_init 3 none ∈ gw := gw_of 73 (by decide +kernel) (by decide +kernel)
theorem kM_X0_3 : Cond.methodLink RX0 3 objectInit ∈ gw := gw_of 74 (by decide +kernel) (by decide +kernel)
theorem kI_objectInit : Cond.instanceMethod objectInit ∈ gw := gw_of 66 (by decide +kernel) (by decide +kernel)
theorem kD_objectInit : Cond.code objectInit ⟨#[0xb1]⟩ 1 none ∈ gw := gw_of 67 (by decide +kernel) (by decide +kernel)
theorem kF_X0_9 : Cond.fieldLink RX0 9 "SharedShelf$Node" "up" "Z" ∈ gw := gw_of 85 (by decide +kernel) (by decide +kernel)
theorem kF_X0_15 : Cond.fieldLink RX0 15 "SharedShelf$Node" "phase" "I" ∈ gw := gw_of 87 (by decide +kernel) (by decide +kernel)
theorem kF_X0_19 : Cond.fieldLink RX0 19 "SharedShelf$Node" "index" "I" ∈ gw := gw_of 75 (by decide +kernel) (by decide +kernel)
theorem kZ_arrayClass_int : Cond.arrayClass .int ∈ gw := gw_of 118 (by decide +kernel) (by decide +kernel)
theorem kF_X0_22 : Cond.fieldLink RX0 22 "SharedShelf$Node" "lengths" "[I" ∈ gw := gw_of 77 (by decide +kernel) (by decide +kernel)
theorem kF_X0_26 : Cond.fieldLink RX0 26 "SharedShelf$Node" "current" "[I" ∈ gw := gw_of 79 (by decide +kernel) (by decide +kernel)
theorem kF_X0_29 : Cond.fieldLink RX0 29 "SharedShelf$Node" "previous" "[I" ∈ gw := gw_of 81 (by decide +kernel) (by decide +kernel)
theorem kF_X0_32 : Cond.fieldLink RX0 32 "SharedShelf$Node" "moved" "[I" ∈ gw := gw_of 82 (by decide +kernel) (by decide +kernel)
theorem kF_X0_35 : Cond.fieldLink RX0 35 "SharedShelf$Node" "own" "[I" ∈ gw := gw_of 83 (by decide +kernel) (by decide +kernel)
theorem kD_X0_takeUp : Cond.code yX0_takeUp cX0_takeUp 3 none ∈ gw := gw_of 482 (by decide +kernel) (by decide +kernel)
theorem kF_X0_38 : Cond.fieldLink RX0 38 "SharedShelf$Node" "task" "LSharedShelf$Operation;" ∈ gw := gw_of 93 (by decide +kernel) (by decide +kernel)
theorem kD_X0_enter : Cond.code yX0_enter cX0_enter 2 none ∈ gw := gw_of 498 (by decide +kernel) (by decide +kernel)
theorem kF_X0_42 : Cond.fieldLink RX0 42 "SharedShelf$Node" "round" "I" ∈ gw := gw_of 89 (by decide +kernel) (by decide +kernel)
theorem kF_X0_45 : Cond.fieldLink RX0 45 "SharedShelf$Node" "heard" "I" ∈ gw := gw_of 91 (by decide +kernel) (by decide +kernel)
theorem kD_X0_rest : Cond.code yX0_rest cX0_rest 1 none ∈ gw := gw_of 594 (by decide +kernel) (by decide +kernel)
theorem kD_X0_clearCurrent : Cond.code yX0_clearCurrent cX0_clearCurrent 2 none ∈ gw := gw_of 490 (by decide +kernel) (by decide +kernel)
theorem kD_X0_lengthenLog : Cond.code yX0_lengthenLog cX0_lengthenLog 1 (some .int) ∈ gw := gw_of 586 (by decide +kernel) (by decide +kernel)
theorem kD_X0_isMajority : Cond.code yX0_isMajority cX0_isMajority 2 (some .boolean) ∈ gw := gw_of 538 (by decide +kernel) (by decide +kernel)
theorem kD_X0_waitsFor : Cond.code yX0_waitsFor cX0_waitsFor 3 (some .boolean) ∈ gw := gw_of 534 (by decide +kernel) (by decide +kernel)
theorem kD_X0_collectsAreAlike : Cond.code yX0_collectsAreAlike cX0_collectsAreAlike 2 (some .boolean) ∈ gw := gw_of 546 (by decide +kernel) (by decide +kernel)
theorem kD_X0_leastThatMovedTwice : Cond.code yX0_leastThatMovedTwice cX0_leastThatMovedTwice 2 (some .int) ∈ gw := gw_of 554 (by decide +kernel) (by decide +kernel)
theorem kD_X0_rememberCollect : Cond.code yX0_rememberCollect cX0_rememberCollect 3 none ∈ gw := gw_of 598 (by decide +kernel) (by decide +kernel)
theorem kD_X0_tell : Cond.code yX0_tell cX0_tell 2 (some .int) ∈ gw := gw_of 264 (by decide +kernel) (by decide +kernel)
theorem kF_X0_48 : Cond.fieldLink RX0 48 "SharedShelf$Operation" "number" "I" ∈ gw := gw_of 430 (by decide +kernel) (by decide +kernel)
theorem kD_X1_init : Cond.code yX1_init cX1_init 8 none ∈ gw := gw_of 427 (by decide +kernel) (by decide +kernel)
theorem kM_X1_3 : Cond.methodLink RX1 3 objectInit ∈ gw := gw_of 428 (by decide +kernel) (by decide +kernel)
theorem kF_X1_9 : Cond.fieldLink RX1 9 "SharedShelf$Operation" "done" "I" ∈ gw := gw_of 446 (by decide +kernel) (by decide +kernel)
theorem kF_X1_15 : Cond.fieldLink RX1 15 "SharedShelf$Operation" "lender" "I" ∈ gw := gw_of 450 (by decide +kernel) (by decide +kernel)
theorem kF_X1_18 : Cond.fieldLink RX1 18 "SharedShelf$Operation" "number" "I" ∈ gw := gw_of 429 (by decide +kernel) (by decide +kernel)
theorem kF_X1_21 : Cond.fieldLink RX1 21 "SharedShelf$Operation" "node" "I" ∈ gw := gw_of 432 (by decide +kernel) (by decide +kernel)
theorem kF_X1_24 : Cond.fieldLink RX1 24 "SharedShelf$Operation" "kind" "I" ∈ gw := gw_of 434 (by decide +kernel) (by decide +kernel)
theorem kF_X1_27 : Cond.fieldLink RX1 27 "SharedShelf$Operation" "a" "I" ∈ gw := gw_of 436 (by decide +kernel) (by decide +kernel)
theorem kF_X1_30 : Cond.fieldLink RX1 30 "SharedShelf$Operation" "b" "I" ∈ gw := gw_of 438 (by decide +kernel) (by decide +kernel)
theorem kF_X1_33 : Cond.fieldLink RX1 33 "SharedShelf$Operation" "began" "I" ∈ gw := gw_of 440 (by decide +kernel) (by decide +kernel)
theorem kF_X1_36 : Cond.fieldLink RX1 36 "SharedShelf$Operation" "seen" "[I" ∈ gw := gw_of 442 (by decide +kernel) (by decide +kernel)
theorem kD_X1_isUpdate : Cond.code yX1_isUpdate cX1_isUpdate 1 (some .boolean) ∈ gw := gw_of 320 (by decide +kernel) (by decide +kernel)
theorem kD_X1_isDone : Cond.code yX1_isDone cX1_isDone 1 (some .boolean) ∈ gw := gw_of 207 (by decide +kernel) (by decide +kernel)
theorem kD_X1_see : Cond.code yX1_see cX1_see 3 none ∈ gw := gw_of 582 (by decide +kernel) (by decide +kernel)
theorem kF_X1_40 : Cond.fieldLink RX1 40 "SharedShelf$Operation" "hasView" "Z" ∈ gw := gw_of 444 (by decide +kernel) (by decide +kernel)
theorem kD_X1_sees : Cond.code yX1_sees cX1_sees 3 (some .boolean) ∈ gw := gw_of 224 (by decide +kernel) (by decide +kernel)
theorem kF_X1_44 : Cond.fieldLink RX1 44 "SharedShelf$Operation" "place" "I" ∈ gw := gw_of 452 (by decide +kernel) (by decide +kernel)
theorem kD_X1_seesAtMost : Cond.code yX1_seesAtMost cX1_seesAtMost 3 (some .boolean) ∈ gw := gw_of 316 (by decide +kernel) (by decide +kernel)
theorem kD_X1_tell : Cond.code yX1_tell cX1_tell 2 (some .int) ∈ gw := gw_of 203 (by decide +kernel) (by decide +kernel)
theorem kF_X1_51 : Cond.fieldLink RX1 51 "SharedShelf$Operation" "collects" "I" ∈ gw := gw_of 448 (by decide +kernel) (by decide +kernel)
theorem kM_X1_47 : Cond.methodLink RX1 47 yX1_isDone ∈ gw := gw_of 204 (by decide +kernel) (by decide +kernel)
theorem kI_X1_isDone : Cond.instanceMethod yX1_isDone ∈ gw := gw_of 205 (by decide +kernel) (by decide +kernel)
theorem kS_X1_isDone : Cond.selects RX1 yX1_isDone yX1_isDone ∈ gw := gw_of 206 (by decide +kernel) (by decide +kernel)
theorem kN_X1 : Cond.initialized RX1 ∈ gw := gw_of 57 (by decide +kernel) (by decide +kernel)
theorem kD_X2_init : Cond.code yX2_init cX2_init 3 none ∈ gw := gw_of 123 (by decide +kernel) (by decide +kernel)
theorem kM_X2_3 : Cond.methodLink RX2 3 objectInit ∈ gw := gw_of 124 (by decide +kernel) (by decide +kernel)
theorem kF_X2_9 : Cond.fieldLink RX2 9 "SharedShelf$Row" "slots" "[I" ∈ gw := gw_of 126 (by decide +kernel) (by decide +kernel)
theorem kF_X2_15 : Cond.fieldLink RX2 15 "SharedShelf$Row" "kinds" "[I" ∈ gw := gw_of 127 (by decide +kernel) (by decide +kernel)
theorem kF_X2_18 : Cond.fieldLink RX2 18 "SharedShelf$Row" "senders" "[I" ∈ gw := gw_of 129 (by decide +kernel) (by decide +kernel)
theorem kF_X2_21 : Cond.fieldLink RX2 21 "SharedShelf$Row" "receivers" "[I" ∈ gw := gw_of 131 (by decide +kernel) (by decide +kernel)
theorem kF_X2_24 : Cond.fieldLink RX2 24 "SharedShelf$Row" "rounds" "[I" ∈ gw := gw_of 133 (by decide +kernel) (by decide +kernel)
theorem kF_X2_27 : Cond.fieldLink RX2 27 "SharedShelf$Row" "width" "I" ∈ gw := gw_of 125 (by decide +kernel) (by decide +kernel)
theorem kF_X2_31 : Cond.fieldLink RX2 31 "SharedShelf$Row" "numbers" "[I" ∈ gw := gw_of 135 (by decide +kernel) (by decide +kernel)
theorem kD_X2_holds : Cond.code yX2_holds cX2_holds 2 (some .boolean) ∈ gw := gw_of 276 (by decide +kernel) (by decide +kernel)
theorem kF_X2_34 : Cond.fieldLink RX2 34 "SharedShelf$Row" "length" "I" ∈ gw := gw_of 137 (by decide +kernel) (by decide +kernel)
theorem kD_X2_hasRoom : Cond.code yX2_hasRoom cX2_hasRoom 2 (some .boolean) ∈ gw := gw_of 423 (by decide +kernel) (by decide +kernel)
theorem kD_X2_slotOf : Cond.code yX2_slotOf cX2_slotOf 2 (some .int) ∈ gw := gw_of 284 (by decide +kernel) (by decide +kernel)
theorem kF_X2_37 : Cond.fieldLink RX2 37 "SharedShelf$Row" "head" "I" ∈ gw := gw_of 136 (by decide +kernel) (by decide +kernel)
theorem kD_X2_send : Cond.code yX2_send cX2_send 7 none ∈ gw := gw_of 502 (by decide +kernel) (by decide +kernel)
theorem kM_X2_40 : Cond.methodLink RX2 40 arraycopyName ∈ gw := gw_of 503 (by decide +kernel) (by decide +kernel)
theorem kZ_native_arraycopyName : Cond.native arraycopyName ∈ gw := gw_of 505 (by decide +kernel) (by decide +kernel)
theorem kT_arraycopyName : Cond.static arraycopyName ∈ gw := gw_of 504 (by decide +kernel) (by decide +kernel)
theorem kN_java_lang_System : Cond.initialized "java/lang/System" ∈ gw := gw_of 58 (by decide +kernel) (by decide +kernel)
theorem kF_X2_46 : Cond.fieldLink RX2 46 "SharedShelf$Row" "sent" "I" ∈ gw := gw_of 139 (by decide +kernel) (by decide +kernel)
theorem kD_X2_take : Cond.code yX2_take cX2_take 4 none ∈ gw := gw_of 558 (by decide +kernel) (by decide +kernel)
theorem kM_X2_49 : Cond.methodLink RX2 49 yX2_slotOf ∈ gw := gw_of 281 (by decide +kernel) (by decide +kernel)
theorem kI_X2_slotOf : Cond.instanceMethod yX2_slotOf ∈ gw := gw_of 282 (by decide +kernel) (by decide +kernel)
theorem kS_X2_slotOf : Cond.selects RX2 yX2_slotOf yX2_slotOf ∈ gw := gw_of 283 (by decide +kernel) (by decide +kernel)
theorem kN_X2 : Cond.initialized RX2 ∈ gw := gw_of 50 (by decide +kernel) (by decide +kernel)
theorem kD_X2_raise : Cond.code yX2_raise cX2_raise 4 none ∈ gw := gw_of 562 (by decide +kernel) (by decide +kernel)
theorem kM_X2_53 : Cond.methodLink RX2 53 Lib.Math.max.name ∈ gw := gw_of 563 (by decide +kernel) (by decide +kernel)
theorem kT_Lib_Math_max_name : Cond.static Lib.Math.max.name ∈ gw := gw_of 564 (by decide +kernel) (by decide +kernel)
theorem kN_java_lang_Math : Cond.initialized "java/lang/Math" ∈ gw := gw_of 59 (by decide +kernel) (by decide +kernel)
theorem kD_Lib_Math_max_name : Cond.code Lib.Math.max.name Lib.Math.max.code 2 (some .int) ∈ gw := gw_of 565 (by decide +kernel) (by decide +kernel)
theorem kD_X2_numberOf : Cond.code yX2_numberOf cX2_numberOf 4 (some .int) ∈ gw := gw_of 292 (by decide +kernel) (by decide +kernel)
theorem kD_X2_tell : Cond.code yX2_tell cX2_tell 4 (some .int) ∈ gw := gw_of 280 (by decide +kernel) (by decide +kernel)
theorem kM_X3_1 : Cond.methodLink RX3 1 objectInit ∈ gw := gw_of 65 (by decide +kernel) (by decide +kernel)
theorem kC_X3_9 : Cond.classLink RX3 9 RX0 ∈ gw := gw_of 68 (by decide +kernel) (by decide +kernel)
theorem kF_X3_11 : Cond.fieldLink RX3 11 "SharedShelf" "nodes" "[LSharedShelf$Node;" ∈ gw := gw_of 164 (by decide +kernel) (by decide +kernel)
theorem kB_X0 : Cond.instantiable RX0 11 ∈ gw := gw_of 70 (by decide +kernel) (by decide +kernel)
theorem kN_X0 : Cond.initialized RX0 ∈ gw := gw_of 49 (by decide +kernel) (by decide +kernel)
theorem kC_X3_18 : Cond.classLink RX3 18 RX2 ∈ gw := gw_of 119 (by decide +kernel) (by decide +kernel)
theorem kB_X2 : Cond.instantiable RX2 10 ∈ gw := gw_of 120 (by decide +kernel) (by decide +kernel)
theorem kF_X3_23 : Cond.fieldLink RX3 23 "SharedShelf" "row" "LSharedShelf$Row;" ∈ gw := gw_of 165 (by decide +kernel) (by decide +kernel)
theorem kC_X3_27 : Cond.classLink RX3 27 RX1 ∈ gw := gw_of 162 (by decide +kernel) (by decide +kernel)
theorem kF_X3_29 : Cond.fieldLink RX3 29 "SharedShelf" "operations" "[LSharedShelf$Operation;" ∈ gw := gw_of 166 (by decide +kernel) (by decide +kernel)
theorem kM_X3_15 : Cond.methodLink RX3 15 yX0_init ∈ gw := gw_of 71 (by decide +kernel) (by decide +kernel)
theorem kI_X0_init : Cond.instanceMethod yX0_init ∈ gw := gw_of 72 (by decide +kernel) (by decide +kernel)
theorem kM_X3_20 : Cond.methodLink RX3 20 yX2_init ∈ gw := gw_of 121 (by decide +kernel) (by decide +kernel)
theorem kI_X2_init : Cond.instanceMethod yX2_init ∈ gw := gw_of 122 (by decide +kernel) (by decide +kernel)
theorem kD_X3_init : Cond.code yX3_init cX3_init 4 none ∈ gw := gw_of 64 (by decide +kernel) (by decide +kernel)
theorem kD_X3_isNode : Cond.code yX3_isNode cX3_isNode 2 (some .boolean) ∈ gw := gw_of 256 (by decide +kernel) (by decide +kernel)
theorem kF_X3_173 : Cond.fieldLink RX3 173 "SharedShelf$Node" "index" "I" ∈ gw := gw_of 76 (by decide +kernel) (by decide +kernel)
theorem kF_X3_284 : Cond.fieldLink RX3 284 "SharedShelf$Node" "round" "I" ∈ gw := gw_of 90 (by decide +kernel) (by decide +kernel)
theorem kM_X3_281 : Cond.methodLink RX3 281 yX0_enter ∈ gw := gw_of 495 (by decide +kernel) (by decide +kernel)
theorem kI_X0_enter : Cond.instanceMethod yX0_enter ∈ gw := gw_of 496 (by decide +kernel) (by decide +kernel)
theorem kS_X0_enter : Cond.selects RX0 yX0_enter yX0_enter ∈ gw := gw_of 497 (by decide +kernel) (by decide +kernel)
theorem kM_X3_182 : Cond.methodLink RX3 182 yX2_send ∈ gw := gw_of 499 (by decide +kernel) (by decide +kernel)
theorem kI_X2_send : Cond.instanceMethod yX2_send ∈ gw := gw_of 500 (by decide +kernel) (by decide +kernel)
theorem kS_X2_send : Cond.selects RX2 yX2_send yX2_send ∈ gw := gw_of 501 (by decide +kernel) (by decide +kernel)
theorem kD_X3_sendToAll : Cond.code yX3_sendToAll cX3_sendToAll 6 none ∈ gw := gw_of 494 (by decide +kernel) (by decide +kernel)
theorem kM_X3_238 : Cond.methodLink RX3 238 yX0_clearCurrent ∈ gw := gw_of 487 (by decide +kernel) (by decide +kernel)
theorem kI_X0_clearCurrent : Cond.instanceMethod yX0_clearCurrent ∈ gw := gw_of 488 (by decide +kernel) (by decide +kernel)
theorem kS_X0_clearCurrent : Cond.selects RX0 yX0_clearCurrent yX0_clearCurrent ∈ gw := gw_of 489 (by decide +kernel) (by decide +kernel)
theorem kM_X3_227 : Cond.methodLink RX3 227 yX3_sendToAll ∈ gw := gw_of 491 (by decide +kernel) (by decide +kernel)
theorem kI_X3_sendToAll : Cond.instanceMethod yX3_sendToAll ∈ gw := gw_of 493 (by decide +kernel) (by decide +kernel)
theorem kS_X3_sendToAll : Cond.selects RX3 yX3_sendToAll yX3_sendToAll ∈ gw := gw_of 15 (by decide +kernel) (by decide +kernel)
theorem kN_X3 : Cond.initialized RX3 ∈ gw := gw_of 48 (by decide +kernel) (by decide +kernel)
theorem kD_X3_beginCollect : Cond.code yX3_beginCollect cX3_beginCollect 2 none ∈ gw := gw_of 486 (by decide +kernel) (by decide +kernel)
theorem kF_X3_66 : Cond.fieldLink RX3 66 "SharedShelf$Node" "up" "Z" ∈ gw := gw_of 86 (by decide +kernel) (by decide +kernel)
theorem kF_X3_139 : Cond.fieldLink RX3 139 "SharedShelf$Node" "task" "LSharedShelf$Operation;" ∈ gw := gw_of 94 (by decide +kernel) (by decide +kernel)
theorem kF_X3_119 : Cond.fieldLink RX3 119 "SharedShelf" "begun" "I" ∈ gw := gw_of 167 (by decide +kernel) (by decide +kernel)
theorem kF_X3_70 : Cond.fieldLink RX3 70 "SharedShelf" "moment" "I" ∈ gw := gw_of 169 (by decide +kernel) (by decide +kernel)
theorem kB_X1 : Cond.instantiable RX1 12 ∈ gw := gw_of 424 (by decide +kernel) (by decide +kernel)
theorem kM_X3_143 : Cond.methodLink RX3 143 yX2_hasRoom ∈ gw := gw_of 420 (by decide +kernel) (by decide +kernel)
theorem kI_X2_hasRoom : Cond.instanceMethod yX2_hasRoom ∈ gw := gw_of 421 (by decide +kernel) (by decide +kernel)
theorem kS_X2_hasRoom : Cond.selects RX2 yX2_hasRoom yX2_hasRoom ∈ gw := gw_of 422 (by decide +kernel) (by decide +kernel)
theorem kM_X3_146 : Cond.methodLink RX3 146 yX1_init ∈ gw := gw_of 425 (by decide +kernel) (by decide +kernel)
theorem kI_X1_init : Cond.instanceMethod yX1_init ∈ gw := gw_of 426 (by decide +kernel) (by decide +kernel)
theorem kM_X3_149 : Cond.methodLink RX3 149 yX0_takeUp ∈ gw := gw_of 479 (by decide +kernel) (by decide +kernel)
theorem kI_X0_takeUp : Cond.instanceMethod yX0_takeUp ∈ gw := gw_of 480 (by decide +kernel) (by decide +kernel)
theorem kS_X0_takeUp : Cond.selects RX0 yX0_takeUp yX0_takeUp ∈ gw := gw_of 481 (by decide +kernel) (by decide +kernel)
theorem kM_X3_153 : Cond.methodLink RX3 153 yX3_beginCollect ∈ gw := gw_of 483 (by decide +kernel) (by decide +kernel)
theorem kI_X3_beginCollect : Cond.instanceMethod yX3_beginCollect ∈ gw := gw_of 485 (by decide +kernel) (by decide +kernel)
theorem kS_X3_beginCollect : Cond.selects RX3 yX3_beginCollect yX3_beginCollect ∈ gw := gw_of 14 (by decide +kernel) (by decide +kernel)
theorem kD_X3_begin : Cond.code yX3_begin cX3_begin 7 (some .int) ∈ gw := gw_of 419 (by decide +kernel) (by decide +kernel)
theorem kC_X3_37 : Cond.classLink RX3 37 "java/lang/IndexOutOfBoundsException" ∈ gw := gw_of 333 (by decide +kernel) (by decide +kernel)
theorem kN_java_lang_IndexOutOfBoundsException : Cond.initialized "java/lang/IndexOutOfBoundsException" ∈ gw := gw_of 55 (by decide +kernel) (by decide +kernel)
theorem kC_X3_44 : Cond.classLink RX3 44 "java/lang/IllegalArgumentException" ∈ gw := gw_of 400 (by decide +kernel) (by decide +kernel)
theorem kN_java_lang_IllegalArgumentException : Cond.initialized "java/lang/IllegalArgumentException" ∈ gw := gw_of 56 (by decide +kernel) (by decide +kernel)
theorem kM_X3_33 : Cond.methodLink RX3 33 yX3_isNode ∈ gw := gw_of 253 (by decide +kernel) (by decide +kernel)
theorem kI_X3_isNode : Cond.instanceMethod yX3_isNode ∈ gw := gw_of 255 (by decide +kernel) (by decide +kernel)
theorem kS_X3_isNode : Cond.selects RX3 yX3_isNode yX3_isNode ∈ gw := gw_of 8 (by decide +kernel) (by decide +kernel)
theorem kM_X3_49 : Cond.methodLink RX3 49 yX3_begin ∈ gw := gw_of 416 (by decide +kernel) (by decide +kernel)
theorem kI_X3_begin : Cond.instanceMethod yX3_begin ∈ gw := gw_of 418 (by decide +kernel) (by decide +kernel)
theorem kS_X3_begin : Cond.selects RX3 yX3_begin yX3_begin ∈ gw := gw_of 13 (by decide +kernel) (by decide +kernel)
theorem kD_X3_update : Cond.code yX3_update cX3_update 5 (some .int) ∈ gw := gw_of 332 (by decide +kernel) (by decide +kernel)
theorem kD_X3_query : Cond.code yX3_query cX3_query 4 (some .int) ∈ gw := gw_of 512 (by decide +kernel) (by decide +kernel)
theorem kD_X3_lender : Cond.code yX3_lender cX3_lender 5 (some (.object "SharedShelf$Operation")) ∈ gw := gw_of 550 (by decide +kernel) (by decide +kernel)
theorem kF_X3_250 : Cond.fieldLink RX3 250 "SharedShelf$Operation" "node" "I" ∈ gw := gw_of 433 (by decide +kernel) (by decide +kernel)
theorem kF_X3_262 : Cond.fieldLink RX3 262 "SharedShelf$Operation" "place" "I" ∈ gw := gw_of 453 (by decide +kernel) (by decide +kernel)
theorem kF_X3_224 : Cond.fieldLink RX3 224 "SharedShelf$Node" "current" "[I" ∈ gw := gw_of 80 (by decide +kernel) (by decide +kernel)
theorem kM_X3_259 : Cond.methodLink RX3 259 yX0_leastThatMovedTwice ∈ gw := gw_of 551 (by decide +kernel) (by decide +kernel)
theorem kI_X0_leastThatMovedTwice : Cond.instanceMethod yX0_leastThatMovedTwice ∈ gw := gw_of 552 (by decide +kernel) (by decide +kernel)
theorem kS_X0_leastThatMovedTwice : Cond.selects RX0 yX0_leastThatMovedTwice yX0_leastThatMovedTwice ∈ gw := gw_of 553 (by decide +kernel) (by decide +kernel)
theorem kF_X3_208 : Cond.fieldLink RX3 208 "SharedShelf$Node" "phase" "I" ∈ gw := gw_of 88 (by decide +kernel) (by decide +kernel)
theorem kF_X3_214 : Cond.fieldLink RX3 214 "SharedShelf$Operation" "collects" "I" ∈ gw := gw_of 449 (by decide +kernel) (by decide +kernel)
theorem kM_X3_211 : Cond.methodLink RX3 211 yX1_isUpdate ∈ gw := gw_of 317 (by decide +kernel) (by decide +kernel)
theorem kI_X1_isUpdate : Cond.instanceMethod yX1_isUpdate ∈ gw := gw_of 318 (by decide +kernel) (by decide +kernel)
theorem kS_X1_isUpdate : Cond.selects RX1 yX1_isUpdate yX1_isUpdate ∈ gw := gw_of 319 (by decide +kernel) (by decide +kernel)
theorem kM_X3_217 : Cond.methodLink RX3 217 yX0_collectsAreAlike ∈ gw := gw_of 543 (by decide +kernel) (by decide +kernel)
theorem kI_X0_collectsAreAlike : Cond.instanceMethod yX0_collectsAreAlike ∈ gw := gw_of 544 (by decide +kernel) (by decide +kernel)
theorem kS_X0_collectsAreAlike : Cond.selects RX0 yX0_collectsAreAlike yX0_collectsAreAlike ∈ gw := gw_of 545 (by decide +kernel) (by decide +kernel)
theorem kM_X3_220 : Cond.methodLink RX3 220 yX3_lender ∈ gw := gw_of 547 (by decide +kernel) (by decide +kernel)
theorem kI_X3_lender : Cond.instanceMethod yX3_lender ∈ gw := gw_of 549 (by decide +kernel) (by decide +kernel)
theorem kS_X3_lender : Cond.selects RX3 yX3_lender yX3_lender ∈ gw := gw_of 19 (by decide +kernel) (by decide +kernel)
theorem kD_X3_endsOperation : Cond.code yX3_endsOperation cX3_endsOperation 3 (some .boolean) ∈ gw := gw_of 542 (by decide +kernel) (by decide +kernel)
theorem kF_X3_160 : Cond.fieldLink RX3 160 "SharedShelf$Row" "kinds" "[I" ∈ gw := gw_of 128 (by decide +kernel) (by decide +kernel)
theorem kF_X3_179 : Cond.fieldLink RX3 179 "SharedShelf$Row" "rounds" "[I" ∈ gw := gw_of 134 (by decide +kernel) (by decide +kernel)
theorem kF_X3_198 : Cond.fieldLink RX3 198 "SharedShelf$Node" "heard" "I" ∈ gw := gw_of 92 (by decide +kernel) (by decide +kernel)
theorem kM_X3_190 : Cond.methodLink RX3 190 yX0_waitsFor ∈ gw := gw_of 531 (by decide +kernel) (by decide +kernel)
theorem kI_X0_waitsFor : Cond.instanceMethod yX0_waitsFor ∈ gw := gw_of 532 (by decide +kernel) (by decide +kernel)
theorem kS_X0_waitsFor : Cond.selects RX0 yX0_waitsFor yX0_waitsFor ∈ gw := gw_of 533 (by decide +kernel) (by decide +kernel)
theorem kM_X3_201 : Cond.methodLink RX3 201 yX0_isMajority ∈ gw := gw_of 535 (by decide +kernel) (by decide +kernel)
theorem kI_X0_isMajority : Cond.instanceMethod yX0_isMajority ∈ gw := gw_of 536 (by decide +kernel) (by decide +kernel)
theorem kS_X0_isMajority : Cond.selects RX0 yX0_isMajority yX0_isMajority ∈ gw := gw_of 537 (by decide +kernel) (by decide +kernel)
theorem kM_X3_204 : Cond.methodLink RX3 204 yX3_endsOperation ∈ gw := gw_of 539 (by decide +kernel) (by decide +kernel)
theorem kI_X3_endsOperation : Cond.instanceMethod yX3_endsOperation ∈ gw := gw_of 541 (by decide +kernel) (by decide +kernel)
theorem kS_X3_endsOperation : Cond.selects RX3 yX3_endsOperation yX3_endsOperation ∈ gw := gw_of 18 (by decide +kernel) (by decide +kernel)
theorem kD_X3_leadsTo : Cond.code yX3_leadsTo cX3_leadsTo 4 (some .int) ∈ gw := gw_of 530 (by decide +kernel) (by decide +kernel)
theorem kD_X3_endOperation : Cond.code yX3_endOperation cX3_endOperation 3 none ∈ gw := gw_of 590 (by decide +kernel) (by decide +kernel)
theorem kF_X3_275 : Cond.fieldLink RX3 275 "SharedShelf$Operation" "done" "I" ∈ gw := gw_of 447 (by decide +kernel) (by decide +kernel)
theorem kF_X3_122 : Cond.fieldLink RX3 122 "SharedShelf" "ended" "I" ∈ gw := gw_of 168 (by decide +kernel) (by decide +kernel)
theorem kM_X3_278 : Cond.methodLink RX3 278 yX0_rest ∈ gw := gw_of 591 (by decide +kernel) (by decide +kernel)
theorem kI_X0_rest : Cond.instanceMethod yX0_rest ∈ gw := gw_of 592 (by decide +kernel) (by decide +kernel)
theorem kS_X0_rest : Cond.selects RX0 yX0_rest yX0_rest ∈ gw := gw_of 593 (by decide +kernel) (by decide +kernel)
theorem kF_X3_272 : Cond.fieldLink RX3 272 "SharedShelf$Node" "own" "[I" ∈ gw := gw_of 84 (by decide +kernel) (by decide +kernel)
theorem kM_X3_265 : Cond.methodLink RX3 265 yX1_see ∈ gw := gw_of 579 (by decide +kernel) (by decide +kernel)
theorem kI_X1_see : Cond.instanceMethod yX1_see ∈ gw := gw_of 580 (by decide +kernel) (by decide +kernel)
theorem kS_X1_see : Cond.selects RX1 yX1_see yX1_see ∈ gw := gw_of 581 (by decide +kernel) (by decide +kernel)
theorem kM_X3_269 : Cond.methodLink RX3 269 yX0_lengthenLog ∈ gw := gw_of 583 (by decide +kernel) (by decide +kernel)
theorem kI_X0_lengthenLog : Cond.instanceMethod yX0_lengthenLog ∈ gw := gw_of 584 (by decide +kernel) (by decide +kernel)
theorem kS_X0_lengthenLog : Cond.selects RX0 yX0_lengthenLog yX0_lengthenLog ∈ gw := gw_of 585 (by decide +kernel) (by decide +kernel)
theorem kM_X3_235 : Cond.methodLink RX3 235 yX3_endOperation ∈ gw := gw_of 587 (by decide +kernel) (by decide +kernel)
theorem kI_X3_endOperation : Cond.instanceMethod yX3_endOperation ∈ gw := gw_of 589 (by decide +kernel) (by decide +kernel)
theorem kS_X3_endOperation : Cond.selects RX3 yX3_endOperation yX3_endOperation ∈ gw := gw_of 23 (by decide +kernel) (by decide +kernel)
theorem kD_X3_useView : Cond.code yX3_useView cX3_useView 4 none ∈ gw := gw_of 578 (by decide +kernel) (by decide +kernel)
theorem kF_X3_128 : Cond.fieldLink RX3 128 "SharedShelf" "mostCollects" "I" ∈ gw := gw_of 172 (by decide +kernel) (by decide +kernel)
theorem kM_X3_241 : Cond.methodLink RX3 241 Lib.Math.max.name ∈ gw := gw_of 574 (by decide +kernel) (by decide +kernel)
theorem kF_X3_253 : Cond.fieldLink RX3 253 "SharedShelf$Operation" "lender" "I" ∈ gw := gw_of 451 (by decide +kernel) (by decide +kernel)
theorem kF_X3_125 : Cond.fieldLink RX3 125 "SharedShelf" "borrowed" "I" ∈ gw := gw_of 171 (by decide +kernel) (by decide +kernel)
theorem kF_X3_92 : Cond.fieldLink RX3 92 "SharedShelf$Operation" "seen" "[I" ∈ gw := gw_of 443 (by decide +kernel) (by decide +kernel)
theorem kM_X3_246 : Cond.methodLink RX3 246 yX3_useView ∈ gw := gw_of 575 (by decide +kernel) (by decide +kernel)
theorem kI_X3_useView : Cond.instanceMethod yX3_useView ∈ gw := gw_of 577 (by decide +kernel) (by decide +kernel)
theorem kS_X3_useView : Cond.selects RX3 yX3_useView yX3_useView ∈ gw := gw_of 22 (by decide +kernel) (by decide +kernel)
theorem kM_X3_255 : Cond.methodLink RX3 255 yX0_rememberCollect ∈ gw := gw_of 595 (by decide +kernel) (by decide +kernel)
theorem kI_X0_rememberCollect : Cond.instanceMethod yX0_rememberCollect ∈ gw := gw_of 596 (by decide +kernel) (by decide +kernel)
theorem kS_X0_rememberCollect : Cond.selects RX0 yX0_rememberCollect yX0_rememberCollect ∈ gw := gw_of 597 (by decide +kernel) (by decide +kernel)
theorem kD_X3_endCollect : Cond.code yX3_endCollect cX3_endCollect 5 none ∈ gw := gw_of 573 (by decide +kernel) (by decide +kernel)
theorem kM_X3_186 : Cond.methodLink RX3 186 yX2_raise ∈ gw := gw_of 559 (by decide +kernel) (by decide +kernel)
theorem kI_X2_raise : Cond.instanceMethod yX2_raise ∈ gw := gw_of 560 (by decide +kernel) (by decide +kernel)
theorem kS_X2_raise : Cond.selects RX2 yX2_raise yX2_raise ∈ gw := gw_of 561 (by decide +kernel) (by decide +kernel)
theorem kM_X3_231 : Cond.methodLink RX3 231 yX3_endCollect ∈ gw := gw_of 570 (by decide +kernel) (by decide +kernel)
theorem kI_X3_endCollect : Cond.instanceMethod yX3_endCollect ∈ gw := gw_of 572 (by decide +kernel) (by decide +kernel)
theorem kS_X3_endCollect : Cond.selects RX3 yX3_endCollect yX3_endCollect ∈ gw := gw_of 21 (by decide +kernel) (by decide +kernel)
theorem kD_X3_hear : Cond.code yX3_hear cX3_hear 4 none ∈ gw := gw_of 569 (by decide +kernel) (by decide +kernel)
theorem kF_X3_163 : Cond.fieldLink RX3 163 "SharedShelf$Row" "receivers" "[I" ∈ gw := gw_of 132 (by decide +kernel) (by decide +kernel)
theorem kF_X3_116 : Cond.fieldLink RX3 116 "SharedShelf" "came" "I" ∈ gw := gw_of 170 (by decide +kernel) (by decide +kernel)
theorem kF_X3_176 : Cond.fieldLink RX3 176 "SharedShelf$Row" "senders" "[I" ∈ gw := gw_of 130 (by decide +kernel) (by decide +kernel)
theorem kF_X3_97 : Cond.fieldLink RX3 97 "SharedShelf$Node" "lengths" "[I" ∈ gw := gw_of 78 (by decide +kernel) (by decide +kernel)
theorem kM_X3_157 : Cond.methodLink RX3 157 yX2_slotOf ∈ gw := gw_of 526 (by decide +kernel) (by decide +kernel)
theorem kM_X3_166 : Cond.methodLink RX3 166 yX3_leadsTo ∈ gw := gw_of 527 (by decide +kernel) (by decide +kernel)
theorem kI_X3_leadsTo : Cond.instanceMethod yX3_leadsTo ∈ gw := gw_of 529 (by decide +kernel) (by decide +kernel)
theorem kS_X3_leadsTo : Cond.selects RX3 yX3_leadsTo yX3_leadsTo ∈ gw := gw_of 17 (by decide +kernel) (by decide +kernel)
theorem kM_X3_170 : Cond.methodLink RX3 170 yX2_take ∈ gw := gw_of 555 (by decide +kernel) (by decide +kernel)
theorem kI_X2_take : Cond.instanceMethod yX2_take ∈ gw := gw_of 556 (by decide +kernel) (by decide +kernel)
theorem kS_X2_take : Cond.selects RX2 yX2_take yX2_take ∈ gw := gw_of 557 (by decide +kernel) (by decide +kernel)
theorem kM_X3_194 : Cond.methodLink RX3 194 yX3_hear ∈ gw := gw_of 566 (by decide +kernel) (by decide +kernel)
theorem kI_X3_hear : Cond.instanceMethod yX3_hear ∈ gw := gw_of 568 (by decide +kernel) (by decide +kernel)
theorem kS_X3_hear : Cond.selects RX3 yX3_hear yX3_hear ∈ gw := gw_of 20 (by decide +kernel) (by decide +kernel)
theorem kD_X3_come : Cond.code yX3_come cX3_come 5 (some .int) ∈ gw := gw_of 525 (by decide +kernel) (by decide +kernel)
theorem kM_X3_55 : Cond.methodLink RX3 55 yX2_holds ∈ gw := gw_of 273 (by decide +kernel) (by decide +kernel)
theorem kI_X2_holds : Cond.instanceMethod yX2_holds ∈ gw := gw_of 274 (by decide +kernel) (by decide +kernel)
theorem kS_X2_holds : Cond.selects RX2 yX2_holds yX2_holds ∈ gw := gw_of 275 (by decide +kernel) (by decide +kernel)
theorem kM_X3_60 : Cond.methodLink RX3 60 yX3_come ∈ gw := gw_of 522 (by decide +kernel) (by decide +kernel)
theorem kI_X3_come : Cond.instanceMethod yX3_come ∈ gw := gw_of 524 (by decide +kernel) (by decide +kernel)
theorem kS_X3_come : Cond.selects RX3 yX3_come yX3_come ∈ gw := gw_of 16 (by decide +kernel) (by decide +kernel)
theorem kD_X3_deliver : Cond.code yX3_deliver cX3_deliver 2 (some .int) ∈ gw := gw_of 520 (by decide +kernel) (by decide +kernel)
theorem kD_X3_calm : Cond.code yX3_calm cX3_calm 3 (some .int) ∈ gw := gw_of 605 (by decide +kernel) (by decide +kernel)
theorem kD_X3_crash : Cond.code yX3_crash cX3_crash 3 (some .boolean) ∈ gw := gw_of 613 (by decide +kernel) (by decide +kernel)
theorem kD_X3_find : Cond.code yX3_find cX3_find 2 (some (.object "SharedShelf$Operation")) ∈ gw := gw_of 199 (by decide +kernel) (by decide +kernel)
theorem kM_X3_74 : Cond.methodLink RX3 74 yX3_find ∈ gw := gw_of 196 (by decide +kernel) (by decide +kernel)
theorem kI_X3_find : Cond.instanceMethod yX3_find ∈ gw := gw_of 198 (by decide +kernel) (by decide +kernel)
theorem kS_X3_find : Cond.selects RX3 yX3_find yX3_find ∈ gw := gw_of 0 (by decide +kernel) (by decide +kernel)
theorem kM_X3_78 : Cond.methodLink RX3 78 yX1_tell ∈ gw := gw_of 200 (by decide +kernel) (by decide +kernel)
theorem kI_X1_tell : Cond.instanceMethod yX1_tell ∈ gw := gw_of 201 (by decide +kernel) (by decide +kernel)
theorem kS_X1_tell : Cond.selects RX1 yX1_tell yX1_tell ∈ gw := gw_of 202 (by decide +kernel) (by decide +kernel)
theorem kD_X3_told : Cond.code yX3_told cX3_told 4 (some .int) ∈ gw := gw_of 195 (by decide +kernel) (by decide +kernel)
theorem kD_X3_sum : Cond.code yX3_sum cX3_sum 6 (some .long) ∈ gw := gw_of 220 (by decide +kernel) (by decide +kernel)
theorem kF_X3_310 : Cond.fieldLink RX3 310 "SharedShelf$Operation" "a" "I" ∈ gw := gw_of 437 (by decide +kernel) (by decide +kernel)
theorem kM_X3_306 : Cond.methodLink RX3 306 yX1_sees ∈ gw := gw_of 221 (by decide +kernel) (by decide +kernel)
theorem kI_X1_sees : Cond.instanceMethod yX1_sees ∈ gw := gw_of 222 (by decide +kernel) (by decide +kernel)
theorem kS_X1_sees : Cond.selects RX1 yX1_sees yX1_sees ∈ gw := gw_of 223 (by decide +kernel) (by decide +kernel)
theorem kD_X3_greatest : Cond.code yX3_greatest cX3_greatest 6 (some .long) ∈ gw := gw_of 228 (by decide +kernel) (by decide +kernel)
theorem kZ_constantLong_RX3_315_9223372036854775808_ : Cond.constantLong RX3 315 (-9223372036854775808) ∈ gw := gw_of 229 (by decide +kernel) (by decide +kernel)
theorem kM_X3_317 : Cond.methodLink RX3 317 Lib.MathLoose.max_long.x ∈ gw := gw_of 230 (by decide +kernel) (by decide +kernel)
theorem kT_Lib_MathLoose_max_long_x : Cond.static Lib.MathLoose.max_long.x ∈ gw := gw_of 231 (by decide +kernel) (by decide +kernel)
theorem kD_Lib_MathLoose_max_long_x : Cond.code Lib.MathLoose.max_long.x Lib.MathLoose.max_long.code 4 (some .long) ∈ gw := gw_of 232 (by decide +kernel) (by decide +kernel)
theorem kD_X3_contains : Cond.code yX3_contains cX3_contains 4 (some .boolean) ∈ gw := gw_of 236 (by decide +kernel) (by decide +kernel)
theorem kD_X3_isRepeated : Cond.code yX3_isRepeated cX3_isRepeated 5 (some .boolean) ∈ gw := gw_of 244 (by decide +kernel) (by decide +kernel)
theorem kF_X3_327 : Cond.fieldLink RX3 327 "SharedShelf$Operation" "number" "I" ∈ gw := gw_of 431 (by decide +kernel) (by decide +kernel)
theorem kF_X3_287 : Cond.fieldLink RX3 287 "SharedShelf$Operation" "kind" "I" ∈ gw := gw_of 435 (by decide +kernel) (by decide +kernel)
theorem kD_X3_different : Cond.code yX3_different cX3_different 6 (some .int) ∈ gw := gw_of 240 (by decide +kernel) (by decide +kernel)
theorem kM_X3_323 : Cond.methodLink RX3 323 yX3_isRepeated ∈ gw := gw_of 241 (by decide +kernel) (by decide +kernel)
theorem kI_X3_isRepeated : Cond.instanceMethod yX3_isRepeated ∈ gw := gw_of 243 (by decide +kernel) (by decide +kernel)
theorem kS_X3_isRepeated : Cond.selects RX3 yX3_isRepeated yX3_isRepeated ∈ gw := gw_of 6 (by decide +kernel) (by decide +kernel)
theorem kD_X3_greatestOfKey : Cond.code yX3_greatestOfKey cX3_greatestOfKey 6 (some .long) ∈ gw := gw_of 248 (by decide +kernel) (by decide +kernel)
theorem kF_X3_320 : Cond.fieldLink RX3 320 "SharedShelf$Operation" "b" "I" ∈ gw := gw_of 439 (by decide +kernel) (by decide +kernel)
theorem kM_X3_290 : Cond.methodLink RX3 290 yX3_sum ∈ gw := gw_of 217 (by decide +kernel) (by decide +kernel)
theorem kI_X3_sum : Cond.instanceMethod yX3_sum ∈ gw := gw_of 219 (by decide +kernel) (by decide +kernel)
theorem kS_X3_sum : Cond.selects RX3 yX3_sum yX3_sum ∈ gw := gw_of 2 (by decide +kernel) (by decide +kernel)
theorem kM_X3_293 : Cond.methodLink RX3 293 yX3_greatest ∈ gw := gw_of 225 (by decide +kernel) (by decide +kernel)
theorem kI_X3_greatest : Cond.instanceMethod yX3_greatest ∈ gw := gw_of 227 (by decide +kernel) (by decide +kernel)
theorem kS_X3_greatest : Cond.selects RX3 yX3_greatest yX3_greatest ∈ gw := gw_of 3 (by decide +kernel) (by decide +kernel)
theorem kM_X3_296 : Cond.methodLink RX3 296 yX3_contains ∈ gw := gw_of 233 (by decide +kernel) (by decide +kernel)
theorem kI_X3_contains : Cond.instanceMethod yX3_contains ∈ gw := gw_of 235 (by decide +kernel) (by decide +kernel)
theorem kS_X3_contains : Cond.selects RX3 yX3_contains yX3_contains ∈ gw := gw_of 4 (by decide +kernel) (by decide +kernel)
theorem kM_X3_299 : Cond.methodLink RX3 299 yX3_different ∈ gw := gw_of 237 (by decide +kernel) (by decide +kernel)
theorem kI_X3_different : Cond.instanceMethod yX3_different ∈ gw := gw_of 239 (by decide +kernel) (by decide +kernel)
theorem kS_X3_different : Cond.selects RX3 yX3_different yX3_different ∈ gw := gw_of 5 (by decide +kernel) (by decide +kernel)
theorem kM_X3_303 : Cond.methodLink RX3 303 yX3_greatestOfKey ∈ gw := gw_of 245 (by decide +kernel) (by decide +kernel)
theorem kI_X3_greatestOfKey : Cond.instanceMethod yX3_greatestOfKey ∈ gw := gw_of 247 (by decide +kernel) (by decide +kernel)
theorem kS_X3_greatestOfKey : Cond.selects RX3 yX3_greatestOfKey yX3_greatestOfKey ∈ gw := gw_of 7 (by decide +kernel) (by decide +kernel)
theorem kD_X3_fold : Cond.code yX3_fold cX3_fold 2 (some .long) ∈ gw := gw_of 216 (by decide +kernel) (by decide +kernel)
theorem kM_X3_81 : Cond.methodLink RX3 81 yX1_isDone ∈ gw := gw_of 212 (by decide +kernel) (by decide +kernel)
theorem kM_X3_85 : Cond.methodLink RX3 85 yX3_fold ∈ gw := gw_of 213 (by decide +kernel) (by decide +kernel)
theorem kI_X3_fold : Cond.instanceMethod yX3_fold ∈ gw := gw_of 215 (by decide +kernel) (by decide +kernel)
theorem kS_X3_fold : Cond.selects RX3 yX3_fold yX3_fold ∈ gw := gw_of 1 (by decide +kernel) (by decide +kernel)
theorem kD_X3_answer : Cond.code yX3_answer cX3_answer 3 (some .long) ∈ gw := gw_of 211 (by decide +kernel) (by decide +kernel)
theorem kD_X3_view : Cond.code yX3_view cX3_view 4 (some .int) ∈ gw := gw_of 252 (by decide +kernel) (by decide +kernel)
theorem kF_X3_89 : Cond.fieldLink RX3 89 "SharedShelf$Operation" "hasView" "Z" ∈ gw := gw_of 445 (by decide +kernel) (by decide +kernel)
theorem kD_X3_node : Cond.code yX3_node cX3_node 3 (some .int) ∈ gw := gw_of 260 (by decide +kernel) (by decide +kernel)
theorem kM_X3_96 : Cond.methodLink RX3 96 yX0_tell ∈ gw := gw_of 261 (by decide +kernel) (by decide +kernel)
theorem kI_X0_tell : Cond.instanceMethod yX0_tell ∈ gw := gw_of 262 (by decide +kernel) (by decide +kernel)
theorem kS_X0_tell : Cond.selects RX0 yX0_tell yX0_tell ∈ gw := gw_of 263 (by decide +kernel) (by decide +kernel)
theorem kD_X3_kept : Cond.code yX3_kept cX3_kept 3 (some .int) ∈ gw := gw_of 268 (by decide +kernel) (by decide +kernel)
theorem kD_X3_message : Cond.code yX3_message cX3_message 3 (some .int) ∈ gw := gw_of 272 (by decide +kernel) (by decide +kernel)
theorem kM_X3_100 : Cond.methodLink RX3 100 yX2_tell ∈ gw := gw_of 277 (by decide +kernel) (by decide +kernel)
theorem kI_X2_tell : Cond.instanceMethod yX2_tell ∈ gw := gw_of 278 (by decide +kernel) (by decide +kernel)
theorem kS_X2_tell : Cond.selects RX2 yX2_tell yX2_tell ∈ gw := gw_of 279 (by decide +kernel) (by decide +kernel)
theorem kM_X3_103 : Cond.methodLink RX3 103 yX2_numberOf ∈ gw := gw_of 289 (by decide +kernel) (by decide +kernel)
theorem kI_X2_numberOf : Cond.instanceMethod yX2_numberOf ∈ gw := gw_of 290 (by decide +kernel) (by decide +kernel)
theorem kS_X2_numberOf : Cond.selects RX2 yX2_numberOf yX2_numberOf ∈ gw := gw_of 291 (by decide +kernel) (by decide +kernel)
theorem kD_X3_vector : Cond.code yX3_vector cX3_vector 3 (some .int) ∈ gw := gw_of 288 (by decide +kernel) (by decide +kernel)
theorem kD_X3_nodesUp : Cond.code yX3_nodesUp cX3_nodesUp 6 (some .int) ∈ gw := gw_of 300 (by decide +kernel) (by decide +kernel)
theorem kD_X3_count : Cond.code yX3_count cX3_count 2 (some .int) ∈ gw := gw_of 296 (by decide +kernel) (by decide +kernel)
theorem kF_X3_110 : Cond.fieldLink RX3 110 "SharedShelf$Row" "length" "I" ∈ gw := gw_of 138 (by decide +kernel) (by decide +kernel)
theorem kF_X3_113 : Cond.fieldLink RX3 113 "SharedShelf$Row" "sent" "I" ∈ gw := gw_of 140 (by decide +kernel) (by decide +kernel)
theorem kM_X3_106 : Cond.methodLink RX3 106 yX3_nodesUp ∈ gw := gw_of 297 (by decide +kernel) (by decide +kernel)
theorem kI_X3_nodesUp : Cond.instanceMethod yX3_nodesUp ∈ gw := gw_of 299 (by decide +kernel) (by decide +kernel)
theorem kS_X3_nodesUp : Cond.selects RX3 yX3_nodesUp yX3_nodesUp ∈ gw := gw_of 9 (by decide +kernel) (by decide +kernel)
theorem kD_X3_seesWhatBeganLater : Cond.code yX3_seesWhatBeganLater cX3_seesWhatBeganLater 4 (some .boolean) ∈ gw := gw_of 308 (by decide +kernel) (by decide +kernel)
theorem kF_X3_333 : Cond.fieldLink RX3 333 "SharedShelf$Operation" "began" "I" ∈ gw := gw_of 441 (by decide +kernel) (by decide +kernel)
theorem kM_X3_330 : Cond.methodLink RX3 330 yX1_seesAtMost ∈ gw := gw_of 313 (by decide +kernel) (by decide +kernel)
theorem kI_X1_seesAtMost : Cond.instanceMethod yX1_seesAtMost ∈ gw := gw_of 314 (by decide +kernel) (by decide +kernel)
theorem kS_X1_seesAtMost : Cond.selects RX1 yX1_seesAtMost yX1_seesAtMost ∈ gw := gw_of 315 (by decide +kernel) (by decide +kernel)
theorem kD_X3_strays : Cond.code yX3_strays cX3_strays 7 (some .int) ∈ gw := gw_of 312 (by decide +kernel) (by decide +kernel)
theorem kM_X3_131 : Cond.methodLink RX3 131 yX3_seesWhatBeganLater ∈ gw := gw_of 305 (by decide +kernel) (by decide +kernel)
theorem kI_X3_seesWhatBeganLater : Cond.instanceMethod yX3_seesWhatBeganLater ∈ gw := gw_of 307 (by decide +kernel) (by decide +kernel)
theorem kS_X3_seesWhatBeganLater : Cond.selects RX3 yX3_seesWhatBeganLater yX3_seesWhatBeganLater ∈ gw := gw_of 10 (by decide +kernel) (by decide +kernel)
theorem kM_X3_135 : Cond.methodLink RX3 135 yX3_strays ∈ gw := gw_of 309 (by decide +kernel) (by decide +kernel)
theorem kI_X3_strays : Cond.instanceMethod yX3_strays ∈ gw := gw_of 311 (by decide +kernel) (by decide +kernel)
theorem kS_X3_strays : Cond.selects RX3 yX3_strays yX3_strays ∈ gw := gw_of 11 (by decide +kernel) (by decide +kernel)
theorem kD_X3_astray : Cond.code yX3_astray cX3_astray 6 (some .int) ∈ gw := gw_of 304 (by decide +kernel) (by decide +kernel)
theorem kM_X4_1 : Cond.methodLink RX4 1 objectInit ∈ gw := gw_of 619 (by decide +kernel) (by decide +kernel)
theorem kF_X4_7 : Cond.fieldLink RX4 7 "SharedShelfModel" "kind" "[I" ∈ gw := gw_of 623 (by decide +kernel) (by decide +kernel)
theorem kF_X4_13 : Cond.fieldLink RX4 13 "SharedShelfModel" "sender" "[I" ∈ gw := gw_of 624 (by decide +kernel) (by decide +kernel)
theorem kF_X4_16 : Cond.fieldLink RX4 16 "SharedShelfModel" "receiver" "[I" ∈ gw := gw_of 625 (by decide +kernel) (by decide +kernel)
theorem kF_X4_19 : Cond.fieldLink RX4 19 "SharedShelfModel" "round" "[I" ∈ gw := gw_of 626 (by decide +kernel) (by decide +kernel)
theorem kF_X4_23 : Cond.fieldLink RX4 23 "SharedShelfModel" "vector" "[I" ∈ gw := gw_of 627 (by decide +kernel) (by decide +kernel)
theorem kZ_arrayClass_boolean : Cond.arrayClass .boolean ∈ gw := gw_of 745 (by decide +kernel) (by decide +kernel)
theorem kF_X4_26 : Cond.fieldLink RX4 26 "SharedShelfModel" "used" "[Z" ∈ gw := gw_of 628 (by decide +kernel) (by decide +kernel)
theorem kF_X4_30 : Cond.fieldLink RX4 30 "SharedShelfModel" "row" "[I" ∈ gw := gw_of 629 (by decide +kernel) (by decide +kernel)
theorem kF_X4_33 : Cond.fieldLink RX4 33 "SharedShelfModel" "down" "[Z" ∈ gw := gw_of 634 (by decide +kernel) (by decide +kernel)
theorem kF_X4_36 : Cond.fieldLink RX4 36 "SharedShelfModel" "phase" "[I" ∈ gw := gw_of 635 (by decide +kernel) (by decide +kernel)
theorem kF_X4_39 : Cond.fieldLink RX4 39 "SharedShelfModel" "asks" "[I" ∈ gw := gw_of 636 (by decide +kernel) (by decide +kernel)
theorem kF_X4_42 : Cond.fieldLink RX4 42 "SharedShelfModel" "under" "[I" ∈ gw := gw_of 637 (by decide +kernel) (by decide +kernel)
theorem kF_X4_45 : Cond.fieldLink RX4 45 "SharedShelfModel" "heard" "[I" ∈ gw := gw_of 638 (by decide +kernel) (by decide +kernel)
theorem kF_X4_48 : Cond.fieldLink RX4 48 "SharedShelfModel" "kept" "[I" ∈ gw := gw_of 639 (by decide +kernel) (by decide +kernel)
theorem kF_X4_51 : Cond.fieldLink RX4 51 "SharedShelfModel" "length" "[I" ∈ gw := gw_of 640 (by decide +kernel) (by decide +kernel)
theorem kF_X4_54 : Cond.fieldLink RX4 54 "SharedShelfModel" "log" "[I" ∈ gw := gw_of 641 (by decide +kernel) (by decide +kernel)
theorem kF_X4_57 : Cond.fieldLink RX4 57 "SharedShelfModel" "greatest" "[I" ∈ gw := gw_of 642 (by decide +kernel) (by decide +kernel)
theorem kF_X4_60 : Cond.fieldLink RX4 60 "SharedShelfModel" "current" "[I" ∈ gw := gw_of 643 (by decide +kernel) (by decide +kernel)
theorem kF_X4_63 : Cond.fieldLink RX4 63 "SharedShelfModel" "before" "[I" ∈ gw := gw_of 644 (by decide +kernel) (by decide +kernel)
theorem kF_X4_66 : Cond.fieldLink RX4 66 "SharedShelfModel" "hasBefore" "[Z" ∈ gw := gw_of 645 (by decide +kernel) (by decide +kernel)
theorem kF_X4_69 : Cond.fieldLink RX4 69 "SharedShelfModel" "moved" "[I" ∈ gw := gw_of 646 (by decide +kernel) (by decide +kernel)
theorem kF_X4_72 : Cond.fieldLink RX4 72 "SharedShelfModel" "at" "[I" ∈ gw := gw_of 647 (by decide +kernel) (by decide +kernel)
theorem kF_X4_75 : Cond.fieldLink RX4 75 "SharedShelfModel" "sort" "[I" ∈ gw := gw_of 648 (by decide +kernel) (by decide +kernel)
theorem kF_X4_78 : Cond.fieldLink RX4 78 "SharedShelfModel" "one" "[I" ∈ gw := gw_of 649 (by decide +kernel) (by decide +kernel)
theorem kF_X4_81 : Cond.fieldLink RX4 81 "SharedShelfModel" "two" "[I" ∈ gw := gw_of 650 (by decide +kernel) (by decide +kernel)
theorem kF_X4_84 : Cond.fieldLink RX4 84 "SharedShelfModel" "began" "[I" ∈ gw := gw_of 651 (by decide +kernel) (by decide +kernel)
theorem kF_X4_87 : Cond.fieldLink RX4 87 "SharedShelfModel" "done" "[I" ∈ gw := gw_of 652 (by decide +kernel) (by decide +kernel)
theorem kF_X4_90 : Cond.fieldLink RX4 90 "SharedShelfModel" "collects" "[I" ∈ gw := gw_of 653 (by decide +kernel) (by decide +kernel)
theorem kF_X4_93 : Cond.fieldLink RX4 93 "SharedShelfModel" "lender" "[I" ∈ gw := gw_of 654 (by decide +kernel) (by decide +kernel)
theorem kF_X4_96 : Cond.fieldLink RX4 96 "SharedShelfModel" "place" "[I" ∈ gw := gw_of 655 (by decide +kernel) (by decide +kernel)
theorem kF_X4_99 : Cond.fieldLink RX4 99 "SharedShelfModel" "view" "[I" ∈ gw := gw_of 656 (by decide +kernel) (by decide +kernel)
theorem kF_X4_102 : Cond.fieldLink RX4 102 "SharedShelfModel" "hasView" "[Z" ∈ gw := gw_of 657 (by decide +kernel) (by decide +kernel)
theorem kF_X4_105 : Cond.fieldLink RX4 105 "SharedShelfModel" "seen" "[I" ∈ gw := gw_of 660 (by decide +kernel) (by decide +kernel)
theorem kF_X4_108 : Cond.fieldLink RX4 108 "SharedShelfModel" "n" "I" ∈ gw := gw_of 621 (by decide +kernel) (by decide +kernel)
theorem kD_X4_init : Cond.code yX4_init cX4_init 2 none ∈ gw := gw_of 618 (by decide +kernel) (by decide +kernel)
theorem kD_X4_thrown : Cond.code yX4_thrown cX4_thrown 1 (some .int) ∈ gw := gw_of 749 (by decide +kernel) (by decide +kernel)
theorem kF_X4_112 : Cond.fieldLink RX4 112 "SharedShelfModel" "thrown" "I" ∈ gw := gw_of 622 (by decide +kernel) (by decide +kernel)
theorem kD_X4_isNode : Cond.code yX4_isNode cX4_isNode 2 (some .boolean) ∈ gw := gw_of 757 (by decide +kernel) (by decide +kernel)
theorem kD_X4_hasRoom : Cond.code yX4_hasRoom cX4_hasRoom 2 (some .boolean) ∈ gw := gw_of 765 (by decide +kernel) (by decide +kernel)
theorem kF_X4_115 : Cond.fieldLink RX4 115 "SharedShelfModel" "many" "I" ∈ gw := gw_of 630 (by decide +kernel) (by decide +kernel)
theorem kD_X4_send : Cond.code yX4_send cX4_send 6 (some .int) ∈ gw := gw_of 777 (by decide +kernel) (by decide +kernel)
theorem kF_X4_118 : Cond.fieldLink RX4 118 "SharedShelfModel" "sent" "I" ∈ gw := gw_of 631 (by decide +kernel) (by decide +kernel)
theorem kD_X4_toAll : Cond.code yX4_toAll cX4_toAll 7 none ∈ gw := gw_of 773 (by decide +kernel) (by decide +kernel)
theorem kM_X4_121 : Cond.methodLink RX4 121 yX4_send ∈ gw := gw_of 774 (by decide +kernel) (by decide +kernel)
theorem kI_X4_send : Cond.instanceMethod yX4_send ∈ gw := gw_of 776 (by decide +kernel) (by decide +kernel)
theorem kS_X4_send : Cond.selects RX4 yX4_send yX4_send ∈ gw := gw_of 29 (by decide +kernel) (by decide +kernel)
theorem kN_X4 : Cond.initialized RX4 ∈ gw := gw_of 51 (by decide +kernel) (by decide +kernel)
theorem kM_X4_125 : Cond.methodLink RX4 125 yX4_toAll ∈ gw := gw_of 770 (by decide +kernel) (by decide +kernel)
theorem kI_X4_toAll : Cond.instanceMethod yX4_toAll ∈ gw := gw_of 772 (by decide +kernel) (by decide +kernel)
theorem kS_X4_toAll : Cond.selects RX4 yX4_toAll yX4_toAll ∈ gw := gw_of 28 (by decide +kernel) (by decide +kernel)
theorem kD_X4_collect : Cond.code yX4_collect cX4_collect 3 none ∈ gw := gw_of 769 (by decide +kernel) (by decide +kernel)
theorem kF_X4_129 : Cond.fieldLink RX4 129 "SharedShelfModel" "operations" "I" ∈ gw := gw_of 658 (by decide +kernel) (by decide +kernel)
theorem kF_X4_136 : Cond.fieldLink RX4 136 "SharedShelfModel" "moment" "I" ∈ gw := gw_of 633 (by decide +kernel) (by decide +kernel)
theorem kM_X4_132 : Cond.methodLink RX4 132 yX4_hasRoom ∈ gw := gw_of 762 (by decide +kernel) (by decide +kernel)
theorem kI_X4_hasRoom : Cond.instanceMethod yX4_hasRoom ∈ gw := gw_of 764 (by decide +kernel) (by decide +kernel)
theorem kS_X4_hasRoom : Cond.selects RX4 yX4_hasRoom yX4_hasRoom ∈ gw := gw_of 26 (by decide +kernel) (by decide +kernel)
theorem kM_X4_139 : Cond.methodLink RX4 139 yX4_collect ∈ gw := gw_of 766 (by decide +kernel) (by decide +kernel)
theorem kI_X4_collect : Cond.instanceMethod yX4_collect ∈ gw := gw_of 768 (by decide +kernel) (by decide +kernel)
theorem kS_X4_collect : Cond.selects RX4 yX4_collect yX4_collect ∈ gw := gw_of 27 (by decide +kernel) (by decide +kernel)
theorem kD_X4_begin : Cond.code yX4_begin cX4_begin 7 (some .int) ∈ gw := gw_of 761 (by decide +kernel) (by decide +kernel)
theorem kM_X4_143 : Cond.methodLink RX4 143 yX4_isNode ∈ gw := gw_of 754 (by decide +kernel) (by decide +kernel)
theorem kI_X4_isNode : Cond.instanceMethod yX4_isNode ∈ gw := gw_of 756 (by decide +kernel) (by decide +kernel)
theorem kS_X4_isNode : Cond.selects RX4 yX4_isNode yX4_isNode ∈ gw := gw_of 24 (by decide +kernel) (by decide +kernel)
theorem kM_X4_146 : Cond.methodLink RX4 146 yX4_begin ∈ gw := gw_of 758 (by decide +kernel) (by decide +kernel)
theorem kI_X4_begin : Cond.instanceMethod yX4_begin ∈ gw := gw_of 760 (by decide +kernel) (by decide +kernel)
theorem kS_X4_begin : Cond.selects RX4 yX4_begin yX4_begin ∈ gw := gw_of 25 (by decide +kernel) (by decide +kernel)
theorem kD_X4_update : Cond.code yX4_update cX4_update 5 (some .int) ∈ gw := gw_of 753 (by decide +kernel) (by decide +kernel)
theorem kD_X4_query : Cond.code yX4_query cX4_query 4 (some .int) ∈ gw := gw_of 781 (by decide +kernel) (by decide +kernel)
theorem kD_X4_isSame : Cond.code yX4_isSame cX4_isSame 3 (some .boolean) ∈ gw := gw_of 805 (by decide +kernel) (by decide +kernel)
theorem kD_X4_movedTwice : Cond.code yX4_movedTwice cX4_movedTwice 4 (some .int) ∈ gw := gw_of 809 (by decide +kernel) (by decide +kernel)
theorem kD_X4_isSeen : Cond.code yX4_isSeen cX4_isSeen 2 (some .boolean) ∈ gw := gw_of 801 (by decide +kernel) (by decide +kernel)
theorem kM_X4_149 : Cond.methodLink RX4 149 yX4_isSame ∈ gw := gw_of 802 (by decide +kernel) (by decide +kernel)
theorem kI_X4_isSame : Cond.instanceMethod yX4_isSame ∈ gw := gw_of 804 (by decide +kernel) (by decide +kernel)
theorem kS_X4_isSame : Cond.selects RX4 yX4_isSame yX4_isSame ∈ gw := gw_of 34 (by decide +kernel) (by decide +kernel)
theorem kM_X4_152 : Cond.methodLink RX4 152 yX4_movedTwice ∈ gw := gw_of 806 (by decide +kernel) (by decide +kernel)
theorem kI_X4_movedTwice : Cond.instanceMethod yX4_movedTwice ∈ gw := gw_of 808 (by decide +kernel) (by decide +kernel)
theorem kS_X4_movedTwice : Cond.selects RX4 yX4_movedTwice yX4_movedTwice ∈ gw := gw_of 35 (by decide +kernel) (by decide +kernel)
theorem kD_X4_isQuery : Cond.code yX4_isQuery cX4_isQuery 2 (some .boolean) ∈ gw := gw_of 813 (by decide +kernel) (by decide +kernel)
theorem kD_X4_ends : Cond.code yX4_ends cX4_ends 2 none ∈ gw := gw_of 834 (by decide +kernel) (by decide +kernel)
theorem kF_X4_156 : Cond.fieldLink RX4 156 "SharedShelfModel" "borrowed" "I" ∈ gw := gw_of 659 (by decide +kernel) (by decide +kernel)
theorem kM_X4_159 : Cond.methodLink RX4 159 yX4_isQuery ∈ gw := gw_of 810 (by decide +kernel) (by decide +kernel)
theorem kI_X4_isQuery : Cond.instanceMethod yX4_isQuery ∈ gw := gw_of 812 (by decide +kernel) (by decide +kernel)
theorem kS_X4_isQuery : Cond.selects RX4 yX4_isQuery yX4_isQuery ∈ gw := gw_of 36 (by decide +kernel) (by decide +kernel)
theorem kM_X4_162 : Cond.methodLink RX4 162 yX4_ends ∈ gw := gw_of 831 (by decide +kernel) (by decide +kernel)
theorem kI_X4_ends : Cond.instanceMethod yX4_ends ∈ gw := gw_of 833 (by decide +kernel) (by decide +kernel)
theorem kS_X4_ends : Cond.selects RX4 yX4_ends yX4_ends ∈ gw := gw_of 41 (by decide +kernel) (by decide +kernel)
theorem kD_X4_take : Cond.code yX4_take cX4_take 6 none ∈ gw := gw_of 830 (by decide +kernel) (by decide +kernel)
theorem kM_X4_165 : Cond.methodLink RX4 165 yX4_isSeen ∈ gw := gw_of 798 (by decide +kernel) (by decide +kernel)
theorem kI_X4_isSeen : Cond.instanceMethod yX4_isSeen ∈ gw := gw_of 800 (by decide +kernel) (by decide +kernel)
theorem kS_X4_isSeen : Cond.selects RX4 yX4_isSeen yX4_isSeen ∈ gw := gw_of 33 (by decide +kernel) (by decide +kernel)
theorem kM_X4_168 : Cond.methodLink RX4 168 yX4_take ∈ gw := gw_of 827 (by decide +kernel) (by decide +kernel)
theorem kI_X4_take : Cond.instanceMethod yX4_take ∈ gw := gw_of 829 (by decide +kernel) (by decide +kernel)
theorem kS_X4_take : Cond.selects RX4 yX4_take yX4_take ∈ gw := gw_of 40 (by decide +kernel) (by decide +kernel)
theorem kD_X4_through : Cond.code yX4_through cX4_through 4 none ∈ gw := gw_of 826 (by decide +kernel) (by decide +kernel)
theorem kD_X4_counts : Cond.code yX4_counts cX4_counts 3 (some .boolean) ∈ gw := gw_of 797 (by decide +kernel) (by decide +kernel)
theorem kM_X4_171 : Cond.methodLink RX4 171 yX4_counts ∈ gw := gw_of 794 (by decide +kernel) (by decide +kernel)
theorem kI_X4_counts : Cond.instanceMethod yX4_counts ∈ gw := gw_of 796 (by decide +kernel) (by decide +kernel)
theorem kS_X4_counts : Cond.selects RX4 yX4_counts yX4_counts ∈ gw := gw_of 32 (by decide +kernel) (by decide +kernel)
theorem kD_X4_wanted : Cond.code yX4_wanted cX4_wanted 3 (some .int) ∈ gw := gw_of 793 (by decide +kernel) (by decide +kernel)
theorem kD_X4_replies : Cond.code yX4_replies cX4_replies 8 none ∈ gw := gw_of 817 (by decide +kernel) (by decide +kernel)
theorem kM_X4_174 : Cond.methodLink RX4 174 Lib.Math.max.name ∈ gw := gw_of 818 (by decide +kernel) (by decide +kernel)
theorem kM_X4_180 : Cond.methodLink RX4 180 yX4_through ∈ gw := gw_of 823 (by decide +kernel) (by decide +kernel)
theorem kI_X4_through : Cond.instanceMethod yX4_through ∈ gw := gw_of 825 (by decide +kernel) (by decide +kernel)
theorem kS_X4_through : Cond.selects RX4 yX4_through yX4_through ∈ gw := gw_of 39 (by decide +kernel) (by decide +kernel)
theorem kD_X4_hears : Cond.code yX4_hears cX4_hears 5 none ∈ gw := gw_of 822 (by decide +kernel) (by decide +kernel)
theorem kF_X4_186 : Cond.fieldLink RX4 186 "SharedShelfModel" "came" "I" ∈ gw := gw_of 632 (by decide +kernel) (by decide +kernel)
theorem kM_X4_183 : Cond.methodLink RX4 183 yX4_wanted ∈ gw := gw_of 790 (by decide +kernel) (by decide +kernel)
theorem kI_X4_wanted : Cond.instanceMethod yX4_wanted ∈ gw := gw_of 792 (by decide +kernel) (by decide +kernel)
theorem kS_X4_wanted : Cond.selects RX4 yX4_wanted yX4_wanted ∈ gw := gw_of 31 (by decide +kernel) (by decide +kernel)
theorem kM_X4_189 : Cond.methodLink RX4 189 yX4_replies ∈ gw := gw_of 814 (by decide +kernel) (by decide +kernel)
theorem kI_X4_replies : Cond.instanceMethod yX4_replies ∈ gw := gw_of 816 (by decide +kernel) (by decide +kernel)
theorem kS_X4_replies : Cond.selects RX4 yX4_replies yX4_replies ∈ gw := gw_of 37 (by decide +kernel) (by decide +kernel)
theorem kM_X4_192 : Cond.methodLink RX4 192 yX4_hears ∈ gw := gw_of 819 (by decide +kernel) (by decide +kernel)
theorem kI_X4_hears : Cond.instanceMethod yX4_hears ∈ gw := gw_of 821 (by decide +kernel) (by decide +kernel)
theorem kS_X4_hears : Cond.selects RX4 yX4_hears yX4_hears ∈ gw := gw_of 38 (by decide +kernel) (by decide +kernel)
theorem kD_X4_come : Cond.code yX4_come cX4_come 4 (some .int) ∈ gw := gw_of 789 (by decide +kernel) (by decide +kernel)
theorem kM_X4_195 : Cond.methodLink RX4 195 yX4_come ∈ gw := gw_of 786 (by decide +kernel) (by decide +kernel)
theorem kI_X4_come : Cond.instanceMethod yX4_come ∈ gw := gw_of 788 (by decide +kernel) (by decide +kernel)
theorem kS_X4_come : Cond.selects RX4 yX4_come yX4_come ∈ gw := gw_of 30 (by decide +kernel) (by decide +kernel)
theorem kD_X4_deliver : Cond.code yX4_deliver cX4_deliver 2 (some .int) ∈ gw := gw_of 785 (by decide +kernel) (by decide +kernel)
theorem kD_X4_calm : Cond.code yX4_calm cX4_calm 3 (some .int) ∈ gw := gw_of 838 (by decide +kernel) (by decide +kernel)
theorem kD_X4_crash : Cond.code yX4_crash cX4_crash 2 (some .boolean) ∈ gw := gw_of 842 (by decide +kernel) (by decide +kernel)
theorem kD_X4_isOperation : Cond.code yX4_isOperation cX4_isOperation 2 (some .boolean) ∈ gw := gw_of 850 (by decide +kernel) (by decide +kernel)
theorem kD_X4_told : Cond.code yX4_told cX4_told 3 (some .int) ∈ gw := gw_of 846 (by decide +kernel) (by decide +kernel)
theorem kM_X4_198 : Cond.methodLink RX4 198 yX4_isOperation ∈ gw := gw_of 847 (by decide +kernel) (by decide +kernel)
theorem kI_X4_isOperation : Cond.instanceMethod yX4_isOperation ∈ gw := gw_of 849 (by decide +kernel) (by decide +kernel)
theorem kS_X4_isOperation : Cond.selects RX4 yX4_isOperation yX4_isOperation ∈ gw := gw_of 42 (by decide +kernel) (by decide +kernel)
theorem kD_X4_gather : Cond.code yX4_gather cX4_gather 6 none ∈ gw := gw_of 858 (by decide +kernel) (by decide +kernel)
theorem kF_X4_201 : Cond.fieldLink RX4 201 "SharedShelfModel" "seenMany" "I" ∈ gw := gw_of 661 (by decide +kernel) (by decide +kernel)
theorem kD_X4_different : Cond.code yX4_different cX4_different 5 (some .int) ∈ gw := gw_of 862 (by decide +kernel) (by decide +kernel)
theorem kZ_constantLong_RX4_214_9223372036854775808_ : Cond.constantLong RX4 214 (-9223372036854775808) ∈ gw := gw_of 863 (by decide +kernel) (by decide +kernel)
theorem kM_X4_204 : Cond.methodLink RX4 204 yX4_gather ∈ gw := gw_of 855 (by decide +kernel) (by decide +kernel)
theorem kI_X4_gather : Cond.instanceMethod yX4_gather ∈ gw := gw_of 857 (by decide +kernel) (by decide +kernel)
theorem kS_X4_gather : Cond.selects RX4 yX4_gather yX4_gather ∈ gw := gw_of 43 (by decide +kernel) (by decide +kernel)
theorem kM_X4_208 : Cond.methodLink RX4 208 yX4_different ∈ gw := gw_of 859 (by decide +kernel) (by decide +kernel)
theorem kI_X4_different : Cond.instanceMethod yX4_different ∈ gw := gw_of 861 (by decide +kernel) (by decide +kernel)
theorem kS_X4_different : Cond.selects RX4 yX4_different yX4_different ∈ gw := gw_of 44 (by decide +kernel) (by decide +kernel)
theorem kD_X4_answer : Cond.code yX4_answer cX4_answer 13 (some .long) ∈ gw := gw_of 854 (by decide +kernel) (by decide +kernel)
theorem kD_X4_view : Cond.code yX4_view cX4_view 3 (some .int) ∈ gw := gw_of 867 (by decide +kernel) (by decide +kernel)
theorem kD_X4_node : Cond.code yX4_node cX4_node 3 (some .int) ∈ gw := gw_of 871 (by decide +kernel) (by decide +kernel)
theorem kD_X4_kept : Cond.code yX4_kept cX4_kept 3 (some .int) ∈ gw := gw_of 875 (by decide +kernel) (by decide +kernel)
theorem kD_X4_message : Cond.code yX4_message cX4_message 4 (some .int) ∈ gw := gw_of 879 (by decide +kernel) (by decide +kernel)
theorem kD_X4_vector : Cond.code yX4_vector cX4_vector 4 (some .int) ∈ gw := gw_of 883 (by decide +kernel) (by decide +kernel)
theorem kD_X4_count : Cond.code yX4_count cX4_count 6 (some .int) ∈ gw := gw_of 887 (by decide +kernel) (by decide +kernel)
theorem kD_X4_isWithin : Cond.code yX4_isWithin cX4_isWithin 4 (some .boolean) ∈ gw := gw_of 899 (by decide +kernel) (by decide +kernel)
theorem kD_X4_isLate : Cond.code yX4_isLate cX4_isLate 4 (some .boolean) ∈ gw := gw_of 895 (by decide +kernel) (by decide +kernel)
theorem kD_X4_astray : Cond.code yX4_astray cX4_astray 7 (some .int) ∈ gw := gw_of 891 (by decide +kernel) (by decide +kernel)
theorem kM_X4_216 : Cond.methodLink RX4 216 yX4_isLate ∈ gw := gw_of 892 (by decide +kernel) (by decide +kernel)
theorem kI_X4_isLate : Cond.instanceMethod yX4_isLate ∈ gw := gw_of 894 (by decide +kernel) (by decide +kernel)
theorem kS_X4_isLate : Cond.selects RX4 yX4_isLate yX4_isLate ∈ gw := gw_of 45 (by decide +kernel) (by decide +kernel)
theorem kM_X4_219 : Cond.methodLink RX4 219 yX4_isWithin ∈ gw := gw_of 896 (by decide +kernel) (by decide +kernel)
theorem kI_X4_isWithin : Cond.instanceMethod yX4_isWithin ∈ gw := gw_of 898 (by decide +kernel) (by decide +kernel)
theorem kS_X4_isWithin : Cond.selects RX4 yX4_isWithin yX4_isWithin ∈ gw := gw_of 46 (by decide +kernel) (by decide +kernel)
theorem kD_J9_max_7cf53 : Cond.code yJ9_max_7cf53 cJ9_max_7cf53 2 (some .int) ∈ gw := gw_of 565 (by decide +kernel) (by decide +kernel)
theorem kD_J9_max_f86c9 : Cond.code yJ9_max_f86c9 cJ9_max_f86c9 4 (some .long) ∈ gw := gw_of 232 (by decide +kernel) (by decide +kernel)
theorem kD_L_cell : Cond.code yL_cell cL_cell 2 (some .int) ∈ gw := gw_of 323 (by decide +kernel) (by decide +kernel)
theorem kC_L_13 : Cond.classLink RL 13 "java/lang/IndexOutOfBoundsException" ∈ gw := gw_of 327 (by decide +kernel) (by decide +kernel)
theorem kC_L_15 : Cond.classLink RL 15 "java/lang/IllegalArgumentException" ∈ gw := gw_of 328 (by decide +kernel) (by decide +kernel)
theorem kM_L_7 : Cond.methodLink RL 7 yX3_update ∈ gw := gw_of 329 (by decide +kernel) (by decide +kernel)
theorem kI_X3_update : Cond.instanceMethod yX3_update ∈ gw := gw_of 330 (by decide +kernel) (by decide +kernel)
theorem kS_X3_update : Cond.selects RX3 yX3_update yX3_update ∈ gw := gw_of 331 (by decide +kernel) (by decide +kernel)
theorem kM_L_17 : Cond.methodLink RL 17 yX3_query ∈ gw := gw_of 509 (by decide +kernel) (by decide +kernel)
theorem kI_X3_query : Cond.instanceMethod yX3_query ∈ gw := gw_of 510 (by decide +kernel) (by decide +kernel)
theorem kS_X3_query : Cond.selects RX3 yX3_query yX3_query ∈ gw := gw_of 511 (by decide +kernel) (by decide +kernel)
theorem kM_L_21 : Cond.methodLink RL 21 yX3_deliver ∈ gw := gw_of 517 (by decide +kernel) (by decide +kernel)
theorem kI_X3_deliver : Cond.instanceMethod yX3_deliver ∈ gw := gw_of 518 (by decide +kernel) (by decide +kernel)
theorem kS_X3_deliver : Cond.selects RX3 yX3_deliver yX3_deliver ∈ gw := gw_of 519 (by decide +kernel) (by decide +kernel)
theorem kM_L_25 : Cond.methodLink RL 25 yX3_calm ∈ gw := gw_of 602 (by decide +kernel) (by decide +kernel)
theorem kI_X3_calm : Cond.instanceMethod yX3_calm ∈ gw := gw_of 603 (by decide +kernel) (by decide +kernel)
theorem kS_X3_calm : Cond.selects RX3 yX3_calm yX3_calm ∈ gw := gw_of 604 (by decide +kernel) (by decide +kernel)
theorem kM_L_28 : Cond.methodLink RL 28 yX3_crash ∈ gw := gw_of 610 (by decide +kernel) (by decide +kernel)
theorem kI_X3_crash : Cond.instanceMethod yX3_crash ∈ gw := gw_of 611 (by decide +kernel) (by decide +kernel)
theorem kS_X3_crash : Cond.selects RX3 yX3_crash yX3_crash ∈ gw := gw_of 612 (by decide +kernel) (by decide +kernel)
theorem kC_L_8 : Cond.classLink RL 8 RX3 ∈ gw := gw_of 60 (by decide +kernel) (by decide +kernel)
theorem kB_X3 : Cond.instantiable RX3 9 ∈ gw := gw_of 61 (by decide +kernel) (by decide +kernel)
theorem kC_L_41 : Cond.classLink RL 41 RX4 ∈ gw := gw_of 614 (by decide +kernel) (by decide +kernel)
theorem kB_X4 : Cond.instantiable RX4 41 ∈ gw := gw_of 615 (by decide +kernel) (by decide +kernel)
theorem kZ_arrayClass_long : Cond.arrayClass .long ∈ gw := gw_of 900 (by decide +kernel) (by decide +kernel)
theorem kM_L_32 : Cond.methodLink RL 32 yL_cell ∈ gw := gw_of 321 (by decide +kernel) (by decide +kernel)
theorem kT_L_cell : Cond.static yL_cell ∈ gw := gw_of 322 (by decide +kernel) (by decide +kernel)
theorem kN_L : Cond.initialized RL ∈ gw := gw_of 47 (by decide +kernel) (by decide +kernel)
theorem kM_L_38 : Cond.methodLink RL 38 yX3_init ∈ gw := gw_of 62 (by decide +kernel) (by decide +kernel)
theorem kI_X3_init : Cond.instanceMethod yX3_init ∈ gw := gw_of 63 (by decide +kernel) (by decide +kernel)
theorem kM_L_43 : Cond.methodLink RL 43 yX4_init ∈ gw := gw_of 616 (by decide +kernel) (by decide +kernel)
theorem kI_X4_init : Cond.instanceMethod yX4_init ∈ gw := gw_of 617 (by decide +kernel) (by decide +kernel)
theorem kM_L_44 : Cond.methodLink RL 44 yL_update ∈ gw := gw_of 324 (by decide +kernel) (by decide +kernel)
theorem kT_L_update : Cond.static yL_update ∈ gw := gw_of 325 (by decide +kernel) (by decide +kernel)
theorem kZ_codeWith_yL_update_cL_update_7_some_int_0_14_17_13_0_14_21_15_ : Cond.codeWith yL_update cL_update 7 (some .int) [(0, 14, 17, 13), (0, 14, 21, 15)] ∈ gw := gw_of 326 (by decide +kernel) (by decide +kernel)
theorem kM_L_47 : Cond.methodLink RL 47 yX4_update ∈ gw := gw_of 750 (by decide +kernel) (by decide +kernel)
theorem kI_X4_update : Cond.instanceMethod yX4_update ∈ gw := gw_of 751 (by decide +kernel) (by decide +kernel)
theorem kS_X4_update : Cond.selects RX4 yX4_update yX4_update ∈ gw := gw_of 752 (by decide +kernel) (by decide +kernel)
theorem kM_L_48 : Cond.methodLink RL 48 yL_query ∈ gw := gw_of 506 (by decide +kernel) (by decide +kernel)
theorem kT_L_query : Cond.static yL_query ∈ gw := gw_of 507 (by decide +kernel) (by decide +kernel)
theorem kZ_codeWith_yL_query_cL_query_6_some_int_0_12_15_13_0_12_19_15_ : Cond.codeWith yL_query cL_query 6 (some .int) [(0, 12, 15, 13), (0, 12, 19, 15)] ∈ gw := gw_of 508 (by decide +kernel) (by decide +kernel)
theorem kM_L_51 : Cond.methodLink RL 51 yX4_query ∈ gw := gw_of 778 (by decide +kernel) (by decide +kernel)
theorem kI_X4_query : Cond.instanceMethod yX4_query ∈ gw := gw_of 779 (by decide +kernel) (by decide +kernel)
theorem kS_X4_query : Cond.selects RX4 yX4_query yX4_query ∈ gw := gw_of 780 (by decide +kernel) (by decide +kernel)
theorem kM_L_52 : Cond.methodLink RL 52 yL_deliver ∈ gw := gw_of 514 (by decide +kernel) (by decide +kernel)
theorem kT_L_deliver : Cond.static yL_deliver ∈ gw := gw_of 515 (by decide +kernel) (by decide +kernel)
theorem kZ_codeWith_yL_deliver_cL_deliver_4_some_int_0_9_12_13_ : Cond.codeWith yL_deliver cL_deliver 4 (some .int) [(0, 9, 12, 13)] ∈ gw := gw_of 516 (by decide +kernel) (by decide +kernel)
theorem kM_L_55 : Cond.methodLink RL 55 yX4_deliver ∈ gw := gw_of 782 (by decide +kernel) (by decide +kernel)
theorem kI_X4_deliver : Cond.instanceMethod yX4_deliver ∈ gw := gw_of 783 (by decide +kernel) (by decide +kernel)
theorem kS_X4_deliver : Cond.selects RX4 yX4_deliver yX4_deliver ∈ gw := gw_of 784 (by decide +kernel) (by decide +kernel)
theorem kM_L_56 : Cond.methodLink RL 56 yL_calm ∈ gw := gw_of 599 (by decide +kernel) (by decide +kernel)
theorem kT_L_calm : Cond.static yL_calm ∈ gw := gw_of 600 (by decide +kernel) (by decide +kernel)
theorem kZ_codeWith_yL_calm_cL_calm_4_some_int_0_9_12_15_ : Cond.codeWith yL_calm cL_calm 4 (some .int) [(0, 9, 12, 15)] ∈ gw := gw_of 601 (by decide +kernel) (by decide +kernel)
theorem kM_L_58 : Cond.methodLink RL 58 yX4_calm ∈ gw := gw_of 835 (by decide +kernel) (by decide +kernel)
theorem kI_X4_calm : Cond.instanceMethod yX4_calm ∈ gw := gw_of 836 (by decide +kernel) (by decide +kernel)
theorem kS_X4_calm : Cond.selects RX4 yX4_calm yX4_calm ∈ gw := gw_of 837 (by decide +kernel) (by decide +kernel)
theorem kM_L_59 : Cond.methodLink RL 59 yL_crash ∈ gw := gw_of 607 (by decide +kernel) (by decide +kernel)
theorem kT_L_crash : Cond.static yL_crash ∈ gw := gw_of 608 (by decide +kernel) (by decide +kernel)
theorem kZ_codeWith_yL_crash_cL_crash_4_some_int_0_16_19_13_ : Cond.codeWith yL_crash cL_crash 4 (some .int) [(0, 16, 19, 13)] ∈ gw := gw_of 609 (by decide +kernel) (by decide +kernel)
theorem kM_L_61 : Cond.methodLink RL 61 yX4_crash ∈ gw := gw_of 839 (by decide +kernel) (by decide +kernel)
theorem kI_X4_crash : Cond.instanceMethod yX4_crash ∈ gw := gw_of 840 (by decide +kernel) (by decide +kernel)
theorem kS_X4_crash : Cond.selects RX4 yX4_crash yX4_crash ∈ gw := gw_of 841 (by decide +kernel) (by decide +kernel)
theorem kM_L_62 : Cond.methodLink RL 62 yX4_thrown ∈ gw := gw_of 746 (by decide +kernel) (by decide +kernel)
theorem kI_X4_thrown : Cond.instanceMethod yX4_thrown ∈ gw := gw_of 747 (by decide +kernel) (by decide +kernel)
theorem kS_X4_thrown : Cond.selects RX4 yX4_thrown yX4_thrown ∈ gw := gw_of 748 (by decide +kernel) (by decide +kernel)
theorem kM_L_66 : Cond.methodLink RL 66 yX3_told ∈ gw := gw_of 192 (by decide +kernel) (by decide +kernel)
theorem kI_X3_told : Cond.instanceMethod yX3_told ∈ gw := gw_of 193 (by decide +kernel) (by decide +kernel)
theorem kS_X3_told : Cond.selects RX3 yX3_told yX3_told ∈ gw := gw_of 194 (by decide +kernel) (by decide +kernel)
theorem kM_L_70 : Cond.methodLink RL 70 yX4_told ∈ gw := gw_of 843 (by decide +kernel) (by decide +kernel)
theorem kI_X4_told : Cond.instanceMethod yX4_told ∈ gw := gw_of 844 (by decide +kernel) (by decide +kernel)
theorem kS_X4_told : Cond.selects RX4 yX4_told yX4_told ∈ gw := gw_of 845 (by decide +kernel) (by decide +kernel)
theorem kM_L_71 : Cond.methodLink RL 71 yX3_answer ∈ gw := gw_of 208 (by decide +kernel) (by decide +kernel)
theorem kI_X3_answer : Cond.instanceMethod yX3_answer ∈ gw := gw_of 209 (by decide +kernel) (by decide +kernel)
theorem kS_X3_answer : Cond.selects RX3 yX3_answer yX3_answer ∈ gw := gw_of 210 (by decide +kernel) (by decide +kernel)
theorem kM_L_75 : Cond.methodLink RL 75 yX4_answer ∈ gw := gw_of 851 (by decide +kernel) (by decide +kernel)
theorem kI_X4_answer : Cond.instanceMethod yX4_answer ∈ gw := gw_of 852 (by decide +kernel) (by decide +kernel)
theorem kS_X4_answer : Cond.selects RX4 yX4_answer yX4_answer ∈ gw := gw_of 853 (by decide +kernel) (by decide +kernel)
theorem kM_L_76 : Cond.methodLink RL 76 yX3_view ∈ gw := gw_of 249 (by decide +kernel) (by decide +kernel)
theorem kI_X3_view : Cond.instanceMethod yX3_view ∈ gw := gw_of 250 (by decide +kernel) (by decide +kernel)
theorem kS_X3_view : Cond.selects RX3 yX3_view yX3_view ∈ gw := gw_of 251 (by decide +kernel) (by decide +kernel)
theorem kM_L_79 : Cond.methodLink RL 79 yX4_view ∈ gw := gw_of 864 (by decide +kernel) (by decide +kernel)
theorem kI_X4_view : Cond.instanceMethod yX4_view ∈ gw := gw_of 865 (by decide +kernel) (by decide +kernel)
theorem kS_X4_view : Cond.selects RX4 yX4_view yX4_view ∈ gw := gw_of 866 (by decide +kernel) (by decide +kernel)
theorem kM_L_80 : Cond.methodLink RL 80 yX3_node ∈ gw := gw_of 257 (by decide +kernel) (by decide +kernel)
theorem kI_X3_node : Cond.instanceMethod yX3_node ∈ gw := gw_of 258 (by decide +kernel) (by decide +kernel)
theorem kS_X3_node : Cond.selects RX3 yX3_node yX3_node ∈ gw := gw_of 259 (by decide +kernel) (by decide +kernel)
theorem kM_L_83 : Cond.methodLink RL 83 yX4_node ∈ gw := gw_of 868 (by decide +kernel) (by decide +kernel)
theorem kI_X4_node : Cond.instanceMethod yX4_node ∈ gw := gw_of 869 (by decide +kernel) (by decide +kernel)
theorem kS_X4_node : Cond.selects RX4 yX4_node yX4_node ∈ gw := gw_of 870 (by decide +kernel) (by decide +kernel)
theorem kM_L_84 : Cond.methodLink RL 84 yX3_kept ∈ gw := gw_of 265 (by decide +kernel) (by decide +kernel)
theorem kI_X3_kept : Cond.instanceMethod yX3_kept ∈ gw := gw_of 266 (by decide +kernel) (by decide +kernel)
theorem kS_X3_kept : Cond.selects RX3 yX3_kept yX3_kept ∈ gw := gw_of 267 (by decide +kernel) (by decide +kernel)
theorem kM_L_87 : Cond.methodLink RL 87 yX4_kept ∈ gw := gw_of 872 (by decide +kernel) (by decide +kernel)
theorem kI_X4_kept : Cond.instanceMethod yX4_kept ∈ gw := gw_of 873 (by decide +kernel) (by decide +kernel)
theorem kS_X4_kept : Cond.selects RX4 yX4_kept yX4_kept ∈ gw := gw_of 874 (by decide +kernel) (by decide +kernel)
theorem kM_L_88 : Cond.methodLink RL 88 yX3_message ∈ gw := gw_of 269 (by decide +kernel) (by decide +kernel)
theorem kI_X3_message : Cond.instanceMethod yX3_message ∈ gw := gw_of 270 (by decide +kernel) (by decide +kernel)
theorem kS_X3_message : Cond.selects RX3 yX3_message yX3_message ∈ gw := gw_of 271 (by decide +kernel) (by decide +kernel)
theorem kM_L_91 : Cond.methodLink RL 91 yX4_message ∈ gw := gw_of 876 (by decide +kernel) (by decide +kernel)
theorem kI_X4_message : Cond.instanceMethod yX4_message ∈ gw := gw_of 877 (by decide +kernel) (by decide +kernel)
theorem kS_X4_message : Cond.selects RX4 yX4_message yX4_message ∈ gw := gw_of 878 (by decide +kernel) (by decide +kernel)
theorem kM_L_92 : Cond.methodLink RL 92 yX3_vector ∈ gw := gw_of 285 (by decide +kernel) (by decide +kernel)
theorem kI_X3_vector : Cond.instanceMethod yX3_vector ∈ gw := gw_of 286 (by decide +kernel) (by decide +kernel)
theorem kS_X3_vector : Cond.selects RX3 yX3_vector yX3_vector ∈ gw := gw_of 287 (by decide +kernel) (by decide +kernel)
theorem kM_L_95 : Cond.methodLink RL 95 yX4_vector ∈ gw := gw_of 880 (by decide +kernel) (by decide +kernel)
theorem kI_X4_vector : Cond.instanceMethod yX4_vector ∈ gw := gw_of 881 (by decide +kernel) (by decide +kernel)
theorem kS_X4_vector : Cond.selects RX4 yX4_vector yX4_vector ∈ gw := gw_of 882 (by decide +kernel) (by decide +kernel)
theorem kM_L_96 : Cond.methodLink RL 96 yX3_count ∈ gw := gw_of 293 (by decide +kernel) (by decide +kernel)
theorem kI_X3_count : Cond.instanceMethod yX3_count ∈ gw := gw_of 294 (by decide +kernel) (by decide +kernel)
theorem kS_X3_count : Cond.selects RX3 yX3_count yX3_count ∈ gw := gw_of 295 (by decide +kernel) (by decide +kernel)
theorem kM_L_99 : Cond.methodLink RL 99 yX4_count ∈ gw := gw_of 884 (by decide +kernel) (by decide +kernel)
theorem kI_X4_count : Cond.instanceMethod yX4_count ∈ gw := gw_of 885 (by decide +kernel) (by decide +kernel)
theorem kS_X4_count : Cond.selects RX4 yX4_count yX4_count ∈ gw := gw_of 886 (by decide +kernel) (by decide +kernel)
theorem kM_L_100 : Cond.methodLink RL 100 yX3_astray ∈ gw := gw_of 301 (by decide +kernel) (by decide +kernel)
theorem kI_X3_astray : Cond.instanceMethod yX3_astray ∈ gw := gw_of 302 (by decide +kernel) (by decide +kernel)
theorem kS_X3_astray : Cond.selects RX3 yX3_astray yX3_astray ∈ gw := gw_of 303 (by decide +kernel) (by decide +kernel)
theorem kM_L_103 : Cond.methodLink RL 103 yX4_astray ∈ gw := gw_of 888 (by decide +kernel) (by decide +kernel)
theorem kI_X4_astray : Cond.instanceMethod yX4_astray ∈ gw := gw_of 889 (by decide +kernel) (by decide +kernel)
theorem kS_X4_astray : Cond.selects RX4 yX4_astray yX4_astray ∈ gw := gw_of 890 (by decide +kernel) (by decide +kernel)
theorem inX0 : ∀ w ∈ u_ws RX0 TX0 11, w ∈ gw := gw_sub [95, 97, 99, 101, 103, 105, 107, 109, 111, 113, 115] (by decide +kernel) (by decide +kernel)
theorem inX1 : ∀ w ∈ u_ws RX1 TX1 12, w ∈ gw := gw_sub [454, 456, 458, 460, 462, 464, 466, 468, 470, 472, 474, 476] (by decide +kernel) (by decide +kernel)
theorem inX2 : ∀ w ∈ u_ws RX2 TX2 10, w ∈ gw := gw_sub [141, 143, 145, 147, 149, 151, 153, 155, 157, 159] (by decide +kernel) (by decide +kernel)
theorem inX3 : ∀ w ∈ u_ws RX3 TX3 9, w ∈ gw := gw_sub [173, 175, 177, 179, 181, 183, 185, 187, 189] (by decide +kernel) (by decide +kernel)
theorem inX4 : ∀ w ∈ u_ws RX4 TX4 41, w ∈ gw := gw_sub [662, 664, 666, 668, 670, 672, 674, 676, 678, 680, 682, 684, 686, 688, 690, 692, 694, 696, 698, 700, 702, 704, 706, 708, 710, 712, 714, 716, 718, 720, 722, 724, 726, 728, 730, 732, 734, 736, 738, 740, 742] (by decide +kernel) (by decide +kernel)
end
section
theorem dX0_init_0 : decode cX0_init 0 = .ok (.aload_n 0, 1) := by decide +kernel
theorem dX0_init_1 : decode cX0_init 1 = .ok (.invokespecial 3, 3) := by decide +kernel
theorem dX0_init_4 : decode cX0_init 4 = .ok (.aload_n 0, 1) := by decide +kernel
theorem dX0_init_5 : decode cX0_init 5 = .ok (.iconst 1, 1) := by decide +kernel
theorem dX0_init_6 : decode cX0_init 6 = .ok (.putfield 9, 3) := by decide +kernel
theorem dX0_init_9 : decode cX0_init 9 = .ok (.aload_n 0, 1) := by decide +kernel
theorem dX0_init_10 : decode cX0_init 10 = .ok (.iconst 0, 1) := by decide +kernel
theorem dX0_init_11 : decode cX0_init 11 = .ok (.putfield 15, 3) := by decide +kernel
theorem dX0_init_14 : decode cX0_init 14 = .ok (.aload_n 0, 1) := by decide +kernel
theorem dX0_init_15 : decode cX0_init 15 = .ok (.iload_n 1, 1) := by decide +kernel
theorem dX0_init_16 : decode cX0_init 16 = .ok (.putfield 19, 3) := by decide +kernel
theorem dX0_init_19 : decode cX0_init 19 = .ok (.aload_n 0, 1) := by decide +kernel
theorem dX0_init_20 : decode cX0_init 20 = .ok (.iload_n 2, 1) := by decide +kernel
theorem dX0_init_21 : decode cX0_init 21 = .ok (.newarray .int, 2) := by decide +kernel
theorem dX0_init_23 : decode cX0_init 23 = .ok (.putfield 22, 3) := by decide +kernel
theorem dX0_init_26 : decode cX0_init 26 = .ok (.aload_n 0, 1) := by decide +kernel
theorem dX0_init_27 : decode cX0_init 27 = .ok (.iload_n 2, 1) := by decide +kernel
theorem dX0_init_28 : decode cX0_init 28 = .ok (.newarray .int, 2) := by decide +kernel
theorem dX0_init_30 : decode cX0_init 30 = .ok (.putfield 26, 3) := by decide +kernel
theorem dX0_init_33 : decode cX0_init 33 = .ok (.aload_n 0, 1) := by decide +kernel
theorem dX0_init_34 : decode cX0_init 34 = .ok (.iload_n 2, 1) := by decide +kernel
theorem dX0_init_35 : decode cX0_init 35 = .ok (.newarray .int, 2) := by decide +kernel
theorem dX0_init_37 : decode cX0_init 37 = .ok (.putfield 29, 3) := by decide +kernel
theorem dX0_init_40 : decode cX0_init 40 = .ok (.aload_n 0, 1) := by decide +kernel
theorem dX0_init_41 : decode cX0_init 41 = .ok (.iload_n 2, 1) := by decide +kernel
theorem dX0_init_42 : decode cX0_init 42 = .ok (.newarray .int, 2) := by decide +kernel
theorem dX0_init_44 : decode cX0_init 44 = .ok (.putfield 32, 3) := by decide +kernel
theorem dX0_init_47 : decode cX0_init 47 = .ok (.aload_n 0, 1) := by decide +kernel
theorem dX0_init_48 : decode cX0_init 48 = .ok (.iload_n 2, 1) := by decide +kernel
theorem dX0_init_49 : decode cX0_init 49 = .ok (.newarray .int, 2) := by decide +kernel
theorem dX0_init_51 : decode cX0_init 51 = .ok (.putfield 35, 3) := by decide +kernel
theorem dX0_init_54 : decode cX0_init 54 = .ok (.return_, 1) := by decide +kernel
theorem dX0_takeUp_0 : decode cX0_takeUp 0 = .ok (.aload_n 0, 1) := by decide +kernel
theorem dX0_takeUp_1 : decode cX0_takeUp 1 = .ok (.aload_n 1, 1) := by decide +kernel
theorem dX0_takeUp_2 : decode cX0_takeUp 2 = .ok (.putfield 38, 3) := by decide +kernel
theorem dX0_takeUp_5 : decode cX0_takeUp 5 = .ok (.iconst 0, 1) := by decide +kernel
theorem dX0_takeUp_6 : decode cX0_takeUp 6 = .ok (.istore_n 2, 1) := by decide +kernel
theorem dX0_takeUp_7 : decode cX0_takeUp 7 = .ok (.iload_n 2, 1) := by decide +kernel
theorem dX0_takeUp_8 : decode cX0_takeUp 8 = .ok (.aload_n 0, 1) := by decide +kernel
theorem dX0_takeUp_9 : decode cX0_takeUp 9 = .ok (.getfield 32, 3) := by decide +kernel
theorem dX0_takeUp_12 : decode cX0_takeUp 12 = .ok (.arraylength, 1) := by decide +kernel
theorem dX0_takeUp_13 : decode cX0_takeUp 13 = .ok (.if_icmp .ge 16, 3) := by decide +kernel
theorem dX0_takeUp_16 : decode cX0_takeUp 16 = .ok (.aload_n 0, 1) := by decide +kernel
theorem dX0_takeUp_17 : decode cX0_takeUp 17 = .ok (.getfield 32, 3) := by decide +kernel
theorem dX0_takeUp_20 : decode cX0_takeUp 20 = .ok (.iload_n 2, 1) := by decide +kernel
theorem dX0_takeUp_21 : decode cX0_takeUp 21 = .ok (.iconst 0, 1) := by decide +kernel
theorem dX0_takeUp_22 : decode cX0_takeUp 22 = .ok (.iastore, 1) := by decide +kernel
theorem dX0_takeUp_23 : decode cX0_takeUp 23 = .ok (.iinc 2 1, 3) := by decide +kernel
theorem dX0_takeUp_26 : decode cX0_takeUp 26 = .ok (.goto (-19), 3) := by decide +kernel
theorem dX0_takeUp_29 : decode cX0_takeUp 29 = .ok (.return_, 1) := by decide +kernel
theorem dX0_enter_0 : decode cX0_enter 0 = .ok (.aload_n 0, 1) := by decide +kernel
theorem dX0_enter_1 : decode cX0_enter 1 = .ok (.iload_n 1, 1) := by decide +kernel
theorem dX0_enter_2 : decode cX0_enter 2 = .ok (.putfield 15, 3) := by decide +kernel
theorem dX0_enter_5 : decode cX0_enter 5 = .ok (.aload_n 0, 1) := by decide +kernel
theorem dX0_enter_6 : decode cX0_enter 6 = .ok (.dup, 1) := by decide +kernel
theorem dX0_enter_7 : decode cX0_enter 7 = .ok (.getfield 42, 3) := by decide +kernel
theorem dX0_enter_10 : decode cX0_enter 10 = .ok (.iconst 1, 1) := by decide +kernel
theorem dX0_enter_11 : decode cX0_enter 11 = .ok (.iadd, 1) := by decide +kernel
theorem dX0_enter_12 : decode cX0_enter 12 = .ok (.putfield 42, 3) := by decide +kernel
theorem dX0_enter_15 : decode cX0_enter 15 = .ok (.aload_n 0, 1) := by decide +kernel
theorem dX0_enter_16 : decode cX0_enter 16 = .ok (.iconst 0, 1) := by decide +kernel
theorem dX0_enter_17 : decode cX0_enter 17 = .ok (.putfield 45, 3) := by decide +kernel
theorem dX0_enter_20 : decode cX0_enter 20 = .ok (.return_, 1) := by decide +kernel
theorem dX0_rest_0 : decode cX0_rest 0 = .ok (.aload_n 0, 1) := by decide +kernel
theorem dX0_rest_1 : decode cX0_rest 1 = .ok (.iconst 0, 1) := by decide +kernel
theorem dX0_rest_2 : decode cX0_rest 2 = .ok (.putfield 15, 3) := by decide +kernel
theorem dX0_rest_5 : decode cX0_rest 5 = .ok (.aload_n 0, 1) := by decide +kernel
theorem dX0_rest_6 : decode cX0_rest 6 = .ok (.iconst 0, 1) := by decide +kernel
theorem dX0_rest_7 : decode cX0_rest 7 = .ok (.putfield 45, 3) := by decide +kernel
theorem dX0_rest_10 : decode cX0_rest 10 = .ok (.aload_n 0, 1) := by decide +kernel
theorem dX0_rest_11 : decode cX0_rest 11 = .ok (.aconst_null, 1) := by decide +kernel
theorem dX0_rest_12 : decode cX0_rest 12 = .ok (.putfield 38, 3) := by decide +kernel
theorem dX0_rest_15 : decode cX0_rest 15 = .ok (.return_, 1) := by decide +kernel
theorem dX0_clearCurrent_0 : decode cX0_clearCurrent 0 = .ok (.iconst 0, 1) := by decide +kernel
theorem dX0_clearCurrent_1 : decode cX0_clearCurrent 1 = .ok (.istore_n 1, 1) := by decide +kernel
theorem dX0_clearCurrent_2 : decode cX0_clearCurrent 2 = .ok (.iload_n 1, 1) := by decide +kernel
theorem dX0_clearCurrent_3 : decode cX0_clearCurrent 3 = .ok (.aload_n 0, 1) := by decide +kernel
theorem dX0_clearCurrent_4 : decode cX0_clearCurrent 4 = .ok (.getfield 26, 3) := by decide +kernel
theorem dX0_clearCurrent_7 : decode cX0_clearCurrent 7 = .ok (.arraylength, 1) := by decide +kernel
theorem dX0_clearCurrent_8 : decode cX0_clearCurrent 8 = .ok (.if_icmp .ge 16, 3) := by decide +kernel
theorem dX0_clearCurrent_11 : decode cX0_clearCurrent 11 = .ok (.aload_n 0, 1) := by decide +kernel
theorem dX0_clearCurrent_12 : decode cX0_clearCurrent 12 = .ok (.getfield 26, 3) := by decide +kernel
theorem dX0_clearCurrent_15 : decode cX0_clearCurrent 15 = .ok (.iload_n 1, 1) := by decide +kernel
theorem dX0_clearCurrent_16 : decode cX0_clearCurrent 16 = .ok (.iconst 0, 1) := by decide +kernel
theorem dX0_clearCurrent_17 : decode cX0_clearCurrent 17 = .ok (.iastore, 1) := by decide +kernel
theorem dX0_clearCurrent_18 : decode cX0_clearCurrent 18 = .ok (.iinc 1 1, 3) := by decide +kernel
theorem dX0_clearCurrent_21 : decode cX0_clearCurrent 21 = .ok (.goto (-19), 3) := by decide +kernel
theorem dX0_clearCurrent_24 : decode cX0_clearCurrent 24 = .ok (.return_, 1) := by decide +kernel
theorem dX0_lengthenLog_0 : decode cX0_lengthenLog 0 = .ok (.aload_n 0, 1) := by decide +kernel
theorem dX0_lengthenLog_1 : decode cX0_lengthenLog 1 = .ok (.getfield 35, 3) := by decide +kernel
theorem dX0_lengthenLog_4 : decode cX0_lengthenLog 4 = .ok (.aload_n 0, 1) := by decide +kernel
theorem dX0_lengthenLog_5 : decode cX0_lengthenLog 5 = .ok (.getfield 19, 3) := by decide +kernel
theorem dX0_lengthenLog_8 : decode cX0_lengthenLog 8 = .ok (.dup2, 1) := by decide +kernel
theorem dX0_lengthenLog_9 : decode cX0_lengthenLog 9 = .ok (.iaload, 1) := by decide +kernel
theorem dX0_lengthenLog_10 : decode cX0_lengthenLog 10 = .ok (.iconst 1, 1) := by decide +kernel
theorem dX0_lengthenLog_11 : decode cX0_lengthenLog 11 = .ok (.iadd, 1) := by decide +kernel
theorem dX0_lengthenLog_12 : decode cX0_lengthenLog 12 = .ok (.iastore, 1) := by decide +kernel
theorem dX0_lengthenLog_13 : decode cX0_lengthenLog 13 = .ok (.aload_n 0, 1) := by decide +kernel
theorem dX0_lengthenLog_14 : decode cX0_lengthenLog 14 = .ok (.getfield 35, 3) := by decide +kernel
theorem dX0_lengthenLog_17 : decode cX0_lengthenLog 17 = .ok (.aload_n 0, 1) := by decide +kernel
theorem dX0_lengthenLog_18 : decode cX0_lengthenLog 18 = .ok (.getfield 19, 3) := by decide +kernel
theorem dX0_lengthenLog_21 : decode cX0_lengthenLog 21 = .ok (.iaload, 1) := by decide +kernel
theorem dX0_lengthenLog_22 : decode cX0_lengthenLog 22 = .ok (.ireturn, 1) := by decide +kernel
theorem dX0_isMajority_0 : decode cX0_isMajority 0 = .ok (.iconst 2, 1) := by decide +kernel
theorem dX0_isMajority_1 : decode cX0_isMajority 1 = .ok (.iload_n 1, 1) := by decide +kernel
theorem dX0_isMajority_2 : decode cX0_isMajority 2 = .ok (.imul, 1) := by decide +kernel
theorem dX0_isMajority_3 : decode cX0_isMajority 3 = .ok (.aload_n 0, 1) := by decide +kernel
theorem dX0_isMajority_4 : decode cX0_isMajority 4 = .ok (.getfield 22, 3) := by decide +kernel
theorem dX0_isMajority_7 : decode cX0_isMajority 7 = .ok (.arraylength, 1) := by decide +kernel
theorem dX0_isMajority_8 : decode cX0_isMajority 8 = .ok (.if_icmp .le 7, 3) := by decide +kernel
theorem dX0_isMajority_11 : decode cX0_isMajority 11 = .ok (.iconst 1, 1) := by decide +kernel
theorem dX0_isMajority_12 : decode cX0_isMajority 12 = .ok (.goto 4, 3) := by decide +kernel
theorem dX0_isMajority_15 : decode cX0_isMajority 15 = .ok (.iconst 0, 1) := by decide +kernel
theorem dX0_isMajority_16 : decode cX0_isMajority 16 = .ok (.ireturn, 1) := by decide +kernel
theorem dX0_waitsFor_0 : decode cX0_waitsFor 0 = .ok (.iload_n 2, 1) := by decide +kernel
theorem dX0_waitsFor_1 : decode cX0_waitsFor 1 = .ok (.aload_n 0, 1) := by decide +kernel
theorem dX0_waitsFor_2 : decode cX0_waitsFor 2 = .ok (.getfield 42, 3) := by decide +kernel
theorem dX0_waitsFor_5 : decode cX0_waitsFor 5 = .ok (.if_icmp .eq 5, 3) := by decide +kernel
theorem dX0_waitsFor_8 : decode cX0_waitsFor 8 = .ok (.iconst 0, 1) := by decide +kernel
theorem dX0_waitsFor_9 : decode cX0_waitsFor 9 = .ok (.ireturn, 1) := by decide +kernel
theorem dX0_waitsFor_10 : decode cX0_waitsFor 10 = .ok (.iload_n 1, 1) := by decide +kernel
theorem dX0_waitsFor_11 : decode cX0_waitsFor 11 = .ok (.iconst 1, 1) := by decide +kernel
theorem dX0_waitsFor_12 : decode cX0_waitsFor 12 = .ok (.if_icmp .ne 19, 3) := by decide +kernel
theorem dX0_waitsFor_15 : decode cX0_waitsFor 15 = .ok (.aload_n 0, 1) := by decide +kernel
theorem dX0_waitsFor_16 : decode cX0_waitsFor 16 = .ok (.getfield 15, 3) := by decide +kernel
theorem dX0_waitsFor_19 : decode cX0_waitsFor 19 = .ok (.iconst 1, 1) := by decide +kernel
theorem dX0_waitsFor_20 : decode cX0_waitsFor 20 = .ok (.if_icmp .ne 7, 3) := by decide +kernel
theorem dX0_waitsFor_23 : decode cX0_waitsFor 23 = .ok (.iconst 1, 1) := by decide +kernel
theorem dX0_waitsFor_24 : decode cX0_waitsFor 24 = .ok (.goto 33, 3) := by decide +kernel
theorem dX0_waitsFor_27 : decode cX0_waitsFor 27 = .ok (.iconst 0, 1) := by decide +kernel
theorem dX0_waitsFor_28 : decode cX0_waitsFor 28 = .ok (.goto 29, 3) := by decide +kernel
theorem dX0_waitsFor_31 : decode cX0_waitsFor 31 = .ok (.iload_n 1, 1) := by decide +kernel
theorem dX0_waitsFor_32 : decode cX0_waitsFor 32 = .ok (.iconst 3, 1) := by decide +kernel
theorem dX0_waitsFor_33 : decode cX0_waitsFor 33 = .ok (.if_icmp .ne 23, 3) := by decide +kernel
theorem dX0_waitsFor_36 : decode cX0_waitsFor 36 = .ok (.aload_n 0, 1) := by decide +kernel
theorem dX0_waitsFor_37 : decode cX0_waitsFor 37 = .ok (.getfield 15, 3) := by decide +kernel
theorem dX0_waitsFor_40 : decode cX0_waitsFor 40 = .ok (.iconst 2, 1) := by decide +kernel
theorem dX0_waitsFor_41 : decode cX0_waitsFor 41 = .ok (.if_icmp .eq 11, 3) := by decide +kernel
theorem dX0_waitsFor_44 : decode cX0_waitsFor 44 = .ok (.aload_n 0, 1) := by decide +kernel
theorem dX0_waitsFor_45 : decode cX0_waitsFor 45 = .ok (.getfield 15, 3) := by decide +kernel
theorem dX0_waitsFor_48 : decode cX0_waitsFor 48 = .ok (.iconst 3, 1) := by decide +kernel
theorem dX0_waitsFor_49 : decode cX0_waitsFor 49 = .ok (.if_icmp .ne 7, 3) := by decide +kernel
theorem dX0_waitsFor_52 : decode cX0_waitsFor 52 = .ok (.iconst 1, 1) := by decide +kernel
theorem dX0_waitsFor_53 : decode cX0_waitsFor 53 = .ok (.goto 4, 3) := by decide +kernel
theorem dX0_waitsFor_56 : decode cX0_waitsFor 56 = .ok (.iconst 0, 1) := by decide +kernel
theorem dX0_waitsFor_57 : decode cX0_waitsFor 57 = .ok (.ireturn, 1) := by decide +kernel
theorem dX0_collectsAreAlike_0 : decode cX0_collectsAreAlike 0 = .ok (.iconst 0, 1) := by decide +kernel
theorem dX0_collectsAreAlike_1 : decode cX0_collectsAreAlike 1 = .ok (.istore_n 1, 1) := by decide +kernel
theorem dX0_collectsAreAlike_2 : decode cX0_collectsAreAlike 2 = .ok (.iload_n 1, 1) := by decide +kernel
theorem dX0_collectsAreAlike_3 : decode cX0_collectsAreAlike 3 = .ok (.aload_n 0, 1) := by decide +kernel
theorem dX0_collectsAreAlike_4 : decode cX0_collectsAreAlike 4 = .ok (.getfield 26, 3) := by decide +kernel
theorem dX0_collectsAreAlike_7 : decode cX0_collectsAreAlike 7 = .ok (.arraylength, 1) := by decide +kernel
theorem dX0_collectsAreAlike_8 : decode cX0_collectsAreAlike 8 = .ok (.if_icmp .ge 26, 3) := by decide +kernel
theorem dX0_collectsAreAlike_11 : decode cX0_collectsAreAlike 11 = .ok (.aload_n 0, 1) := by decide +kernel
theorem dX0_collectsAreAlike_12 : decode cX0_collectsAreAlike 12 = .ok (.getfield 26, 3) := by decide +kernel
theorem dX0_collectsAreAlike_15 : decode cX0_collectsAreAlike 15 = .ok (.iload_n 1, 1) := by decide +kernel
theorem dX0_collectsAreAlike_16 : decode cX0_collectsAreAlike 16 = .ok (.iaload, 1) := by decide +kernel
theorem dX0_collectsAreAlike_17 : decode cX0_collectsAreAlike 17 = .ok (.aload_n 0, 1) := by decide +kernel
theorem dX0_collectsAreAlike_18 : decode cX0_collectsAreAlike 18 = .ok (.getfield 29, 3) := by decide +kernel
theorem dX0_collectsAreAlike_21 : decode cX0_collectsAreAlike 21 = .ok (.iload_n 1, 1) := by decide +kernel
theorem dX0_collectsAreAlike_22 : decode cX0_collectsAreAlike 22 = .ok (.iaload, 1) := by decide +kernel
theorem dX0_collectsAreAlike_23 : decode cX0_collectsAreAlike 23 = .ok (.if_icmp .eq 5, 3) := by decide +kernel
theorem dX0_collectsAreAlike_26 : decode cX0_collectsAreAlike 26 = .ok (.iconst 0, 1) := by decide +kernel
theorem dX0_collectsAreAlike_27 : decode cX0_collectsAreAlike 27 = .ok (.ireturn, 1) := by decide +kernel
theorem dX0_collectsAreAlike_28 : decode cX0_collectsAreAlike 28 = .ok (.iinc 1 1, 3) := by decide +kernel
theorem dX0_collectsAreAlike_31 : decode cX0_collectsAreAlike 31 = .ok (.goto (-29), 3) := by decide +kernel
theorem dX0_collectsAreAlike_34 : decode cX0_collectsAreAlike 34 = .ok (.iconst 1, 1) := by decide +kernel
theorem dX0_collectsAreAlike_35 : decode cX0_collectsAreAlike 35 = .ok (.ireturn, 1) := by decide +kernel
theorem dX0_leastThatMovedTwice_0 : decode cX0_leastThatMovedTwice 0 = .ok (.iconst 0, 1) := by decide +kernel
theorem dX0_leastThatMovedTwice_1 : decode cX0_leastThatMovedTwice 1 = .ok (.istore_n 1, 1) := by decide +kernel
theorem dX0_leastThatMovedTwice_2 : decode cX0_leastThatMovedTwice 2 = .ok (.iload_n 1, 1) := by decide +kernel
theorem dX0_leastThatMovedTwice_3 : decode cX0_leastThatMovedTwice 3 = .ok (.aload_n 0, 1) := by decide +kernel
theorem dX0_leastThatMovedTwice_4 : decode cX0_leastThatMovedTwice 4 = .ok (.getfield 26, 3) := by decide +kernel
theorem dX0_leastThatMovedTwice_7 : decode cX0_leastThatMovedTwice 7 = .ok (.arraylength, 1) := by decide +kernel
theorem dX0_leastThatMovedTwice_8 : decode cX0_leastThatMovedTwice 8 = .ok (.if_icmp .ge 35, 3) := by decide +kernel
theorem dX0_leastThatMovedTwice_11 : decode cX0_leastThatMovedTwice 11 = .ok (.aload_n 0, 1) := by decide +kernel
theorem dX0_leastThatMovedTwice_12 : decode cX0_leastThatMovedTwice 12 = .ok (.getfield 32, 3) := by decide +kernel
theorem dX0_leastThatMovedTwice_15 : decode cX0_leastThatMovedTwice 15 = .ok (.iload_n 1, 1) := by decide +kernel
theorem dX0_leastThatMovedTwice_16 : decode cX0_leastThatMovedTwice 16 = .ok (.iaload, 1) := by decide +kernel
theorem dX0_leastThatMovedTwice_17 : decode cX0_leastThatMovedTwice 17 = .ok (.ifCond .le 20, 3) := by decide +kernel
theorem dX0_leastThatMovedTwice_20 : decode cX0_leastThatMovedTwice 20 = .ok (.aload_n 0, 1) := by decide +kernel
theorem dX0_leastThatMovedTwice_21 : decode cX0_leastThatMovedTwice 21 = .ok (.getfield 26, 3) := by decide +kernel
theorem dX0_leastThatMovedTwice_24 : decode cX0_leastThatMovedTwice 24 = .ok (.iload_n 1, 1) := by decide +kernel
theorem dX0_leastThatMovedTwice_25 : decode cX0_leastThatMovedTwice 25 = .ok (.iaload, 1) := by decide +kernel
theorem dX0_leastThatMovedTwice_26 : decode cX0_leastThatMovedTwice 26 = .ok (.aload_n 0, 1) := by decide +kernel
theorem dX0_leastThatMovedTwice_27 : decode cX0_leastThatMovedTwice 27 = .ok (.getfield 29, 3) := by decide +kernel
theorem dX0_leastThatMovedTwice_30 : decode cX0_leastThatMovedTwice 30 = .ok (.iload_n 1, 1) := by decide +kernel
theorem dX0_leastThatMovedTwice_31 : decode cX0_leastThatMovedTwice 31 = .ok (.iaload, 1) := by decide +kernel
theorem dX0_leastThatMovedTwice_32 : decode cX0_leastThatMovedTwice 32 = .ok (.if_icmp .eq 5, 3) := by decide +kernel
theorem dX0_leastThatMovedTwice_35 : decode cX0_leastThatMovedTwice 35 = .ok (.iload_n 1, 1) := by decide +kernel
theorem dX0_leastThatMovedTwice_36 : decode cX0_leastThatMovedTwice 36 = .ok (.ireturn, 1) := by decide +kernel
theorem dX0_leastThatMovedTwice_37 : decode cX0_leastThatMovedTwice 37 = .ok (.iinc 1 1, 3) := by decide +kernel
theorem dX0_leastThatMovedTwice_40 : decode cX0_leastThatMovedTwice 40 = .ok (.goto (-38), 3) := by decide +kernel
theorem dX0_leastThatMovedTwice_43 : decode cX0_leastThatMovedTwice 43 = .ok (.iconst (-1), 1) := by decide +kernel
theorem dX0_leastThatMovedTwice_44 : decode cX0_leastThatMovedTwice 44 = .ok (.ireturn, 1) := by decide +kernel
theorem dX0_rememberCollect_0 : decode cX0_rememberCollect 0 = .ok (.iconst 0, 1) := by decide +kernel
theorem dX0_rememberCollect_1 : decode cX0_rememberCollect 1 = .ok (.istore_n 2, 1) := by decide +kernel
theorem dX0_rememberCollect_2 : decode cX0_rememberCollect 2 = .ok (.iload_n 2, 1) := by decide +kernel
theorem dX0_rememberCollect_3 : decode cX0_rememberCollect 3 = .ok (.aload_n 0, 1) := by decide +kernel
theorem dX0_rememberCollect_4 : decode cX0_rememberCollect 4 = .ok (.getfield 26, 3) := by decide +kernel
theorem dX0_rememberCollect_7 : decode cX0_rememberCollect 7 = .ok (.arraylength, 1) := by decide +kernel
theorem dX0_rememberCollect_8 : decode cX0_rememberCollect 8 = .ok (.if_icmp .ge 50, 3) := by decide +kernel
theorem dX0_rememberCollect_11 : decode cX0_rememberCollect 11 = .ok (.iload_n 1, 1) := by decide +kernel
theorem dX0_rememberCollect_12 : decode cX0_rememberCollect 12 = .ok (.ifCond .ne 28, 3) := by decide +kernel
theorem dX0_rememberCollect_15 : decode cX0_rememberCollect 15 = .ok (.aload_n 0, 1) := by decide +kernel
theorem dX0_rememberCollect_16 : decode cX0_rememberCollect 16 = .ok (.getfield 26, 3) := by decide +kernel
theorem dX0_rememberCollect_19 : decode cX0_rememberCollect 19 = .ok (.iload_n 2, 1) := by decide +kernel
theorem dX0_rememberCollect_20 : decode cX0_rememberCollect 20 = .ok (.iaload, 1) := by decide +kernel
theorem dX0_rememberCollect_21 : decode cX0_rememberCollect 21 = .ok (.aload_n 0, 1) := by decide +kernel
theorem dX0_rememberCollect_22 : decode cX0_rememberCollect 22 = .ok (.getfield 29, 3) := by decide +kernel
theorem dX0_rememberCollect_25 : decode cX0_rememberCollect 25 = .ok (.iload_n 2, 1) := by decide +kernel
theorem dX0_rememberCollect_26 : decode cX0_rememberCollect 26 = .ok (.iaload, 1) := by decide +kernel
theorem dX0_rememberCollect_27 : decode cX0_rememberCollect 27 = .ok (.if_icmp .eq 13, 3) := by decide +kernel
theorem dX0_rememberCollect_30 : decode cX0_rememberCollect 30 = .ok (.aload_n 0, 1) := by decide +kernel
theorem dX0_rememberCollect_31 : decode cX0_rememberCollect 31 = .ok (.getfield 32, 3) := by decide +kernel
theorem dX0_rememberCollect_34 : decode cX0_rememberCollect 34 = .ok (.iload_n 2, 1) := by decide +kernel
theorem dX0_rememberCollect_35 : decode cX0_rememberCollect 35 = .ok (.dup2, 1) := by decide +kernel
theorem dX0_rememberCollect_36 : decode cX0_rememberCollect 36 = .ok (.iaload, 1) := by decide +kernel
theorem dX0_rememberCollect_37 : decode cX0_rememberCollect 37 = .ok (.iconst 1, 1) := by decide +kernel
theorem dX0_rememberCollect_38 : decode cX0_rememberCollect 38 = .ok (.iadd, 1) := by decide +kernel
theorem dX0_rememberCollect_39 : decode cX0_rememberCollect 39 = .ok (.iastore, 1) := by decide +kernel
theorem dX0_rememberCollect_40 : decode cX0_rememberCollect 40 = .ok (.aload_n 0, 1) := by decide +kernel
theorem dX0_rememberCollect_41 : decode cX0_rememberCollect 41 = .ok (.getfield 29, 3) := by decide +kernel
theorem dX0_rememberCollect_44 : decode cX0_rememberCollect 44 = .ok (.iload_n 2, 1) := by decide +kernel
theorem dX0_rememberCollect_45 : decode cX0_rememberCollect 45 = .ok (.aload_n 0, 1) := by decide +kernel
theorem dX0_rememberCollect_46 : decode cX0_rememberCollect 46 = .ok (.getfield 26, 3) := by decide +kernel
theorem dX0_rememberCollect_49 : decode cX0_rememberCollect 49 = .ok (.iload_n 2, 1) := by decide +kernel
theorem dX0_rememberCollect_50 : decode cX0_rememberCollect 50 = .ok (.iaload, 1) := by decide +kernel
theorem dX0_rememberCollect_51 : decode cX0_rememberCollect 51 = .ok (.iastore, 1) := by decide +kernel
theorem dX0_rememberCollect_52 : decode cX0_rememberCollect 52 = .ok (.iinc 2 1, 3) := by decide +kernel
theorem dX0_rememberCollect_55 : decode cX0_rememberCollect 55 = .ok (.goto (-53), 3) := by decide +kernel
theorem dX0_rememberCollect_58 : decode cX0_rememberCollect 58 = .ok (.return_, 1) := by decide +kernel
theorem dX0_tell_0 : decode cX0_tell 0 = .ok (.iload_n 1, 1) := by decide +kernel
theorem dX0_tell_1 : decode cX0_tell 1 = .ok (.tableswitch 96 0 5 #[39, 52, 57, 62, 81, 86], 39) := by decide +kernel
theorem dX0_tell_40 : decode cX0_tell 40 = .ok (.aload_n 0, 1) := by decide +kernel
theorem dX0_tell_41 : decode cX0_tell 41 = .ok (.getfield 9, 3) := by decide +kernel
theorem dX0_tell_44 : decode cX0_tell 44 = .ok (.ifCond .eq 7, 3) := by decide +kernel
theorem dX0_tell_47 : decode cX0_tell 47 = .ok (.iconst 1, 1) := by decide +kernel
theorem dX0_tell_48 : decode cX0_tell 48 = .ok (.goto 4, 3) := by decide +kernel
theorem dX0_tell_51 : decode cX0_tell 51 = .ok (.iconst 0, 1) := by decide +kernel
theorem dX0_tell_52 : decode cX0_tell 52 = .ok (.ireturn, 1) := by decide +kernel
theorem dX0_tell_53 : decode cX0_tell 53 = .ok (.aload_n 0, 1) := by decide +kernel
theorem dX0_tell_54 : decode cX0_tell 54 = .ok (.getfield 15, 3) := by decide +kernel
theorem dX0_tell_57 : decode cX0_tell 57 = .ok (.ireturn, 1) := by decide +kernel
theorem dX0_tell_58 : decode cX0_tell 58 = .ok (.aload_n 0, 1) := by decide +kernel
theorem dX0_tell_59 : decode cX0_tell 59 = .ok (.getfield 42, 3) := by decide +kernel
theorem dX0_tell_62 : decode cX0_tell 62 = .ok (.ireturn, 1) := by decide +kernel
theorem dX0_tell_63 : decode cX0_tell 63 = .ok (.aload_n 0, 1) := by decide +kernel
theorem dX0_tell_64 : decode cX0_tell 64 = .ok (.getfield 38, 3) := by decide +kernel
theorem dX0_tell_67 : decode cX0_tell 67 = .ok (.ifnonnull 7, 3) := by decide +kernel
theorem dX0_tell_70 : decode cX0_tell 70 = .ok (.iconst 0, 1) := by decide +kernel
theorem dX0_tell_71 : decode cX0_tell 71 = .ok (.goto 10, 3) := by decide +kernel
theorem dX0_tell_74 : decode cX0_tell 74 = .ok (.aload_n 0, 1) := by decide +kernel
theorem dX0_tell_75 : decode cX0_tell 75 = .ok (.getfield 38, 3) := by decide +kernel
theorem dX0_tell_78 : decode cX0_tell 78 = .ok (.getfield 48, 3) := by decide +kernel
theorem dX0_tell_81 : decode cX0_tell 81 = .ok (.ireturn, 1) := by decide +kernel
theorem dX0_tell_82 : decode cX0_tell 82 = .ok (.aload_n 0, 1) := by decide +kernel
theorem dX0_tell_83 : decode cX0_tell 83 = .ok (.getfield 45, 3) := by decide +kernel
theorem dX0_tell_86 : decode cX0_tell 86 = .ok (.ireturn, 1) := by decide +kernel
theorem dX0_tell_87 : decode cX0_tell 87 = .ok (.aload_n 0, 1) := by decide +kernel
theorem dX0_tell_88 : decode cX0_tell 88 = .ok (.getfield 35, 3) := by decide +kernel
theorem dX0_tell_91 : decode cX0_tell 91 = .ok (.aload_n 0, 1) := by decide +kernel
theorem dX0_tell_92 : decode cX0_tell 92 = .ok (.getfield 19, 3) := by decide +kernel
theorem dX0_tell_95 : decode cX0_tell 95 = .ok (.iaload, 1) := by decide +kernel
theorem dX0_tell_96 : decode cX0_tell 96 = .ok (.ireturn, 1) := by decide +kernel
theorem dX0_tell_97 : decode cX0_tell 97 = .ok (.iconst (-1), 1) := by decide +kernel
theorem dX0_tell_98 : decode cX0_tell 98 = .ok (.ireturn, 1) := by decide +kernel
theorem dX1_init_0 : decode cX1_init 0 = .ok (.aload_n 0, 1) := by decide +kernel
theorem dX1_init_1 : decode cX1_init 1 = .ok (.invokespecial 3, 3) := by decide +kernel
theorem dX1_init_4 : decode cX1_init 4 = .ok (.aload_n 0, 1) := by decide +kernel
theorem dX1_init_5 : decode cX1_init 5 = .ok (.iconst (-1), 1) := by decide +kernel
theorem dX1_init_6 : decode cX1_init 6 = .ok (.putfield 9, 3) := by decide +kernel
theorem dX1_init_9 : decode cX1_init 9 = .ok (.aload_n 0, 1) := by decide +kernel
theorem dX1_init_10 : decode cX1_init 10 = .ok (.iconst (-1), 1) := by decide +kernel
theorem dX1_init_11 : decode cX1_init 11 = .ok (.putfield 15, 3) := by decide +kernel
theorem dX1_init_14 : decode cX1_init 14 = .ok (.aload_n 0, 1) := by decide +kernel
theorem dX1_init_15 : decode cX1_init 15 = .ok (.iload_n 1, 1) := by decide +kernel
theorem dX1_init_16 : decode cX1_init 16 = .ok (.putfield 18, 3) := by decide +kernel
theorem dX1_init_19 : decode cX1_init 19 = .ok (.aload_n 0, 1) := by decide +kernel
theorem dX1_init_20 : decode cX1_init 20 = .ok (.iload_n 2, 1) := by decide +kernel
theorem dX1_init_21 : decode cX1_init 21 = .ok (.putfield 21, 3) := by decide +kernel
theorem dX1_init_24 : decode cX1_init 24 = .ok (.aload_n 0, 1) := by decide +kernel
theorem dX1_init_25 : decode cX1_init 25 = .ok (.iload_n 3, 1) := by decide +kernel
theorem dX1_init_26 : decode cX1_init 26 = .ok (.putfield 24, 3) := by decide +kernel
theorem dX1_init_29 : decode cX1_init 29 = .ok (.aload_n 0, 1) := by decide +kernel
theorem dX1_init_30 : decode cX1_init 30 = .ok (.iload 4, 2) := by decide +kernel
theorem dX1_init_32 : decode cX1_init 32 = .ok (.putfield 27, 3) := by decide +kernel
theorem dX1_init_35 : decode cX1_init 35 = .ok (.aload_n 0, 1) := by decide +kernel
theorem dX1_init_36 : decode cX1_init 36 = .ok (.iload 5, 2) := by decide +kernel
theorem dX1_init_38 : decode cX1_init 38 = .ok (.putfield 30, 3) := by decide +kernel
theorem dX1_init_41 : decode cX1_init 41 = .ok (.aload_n 0, 1) := by decide +kernel
theorem dX1_init_42 : decode cX1_init 42 = .ok (.iload 6, 2) := by decide +kernel
theorem dX1_init_44 : decode cX1_init 44 = .ok (.putfield 33, 3) := by decide +kernel
theorem dX1_init_47 : decode cX1_init 47 = .ok (.aload_n 0, 1) := by decide +kernel
theorem dX1_init_48 : decode cX1_init 48 = .ok (.iload 7, 2) := by decide +kernel
theorem dX1_init_50 : decode cX1_init 50 = .ok (.newarray .int, 2) := by decide +kernel
theorem dX1_init_52 : decode cX1_init 52 = .ok (.putfield 36, 3) := by decide +kernel
theorem dX1_init_55 : decode cX1_init 55 = .ok (.return_, 1) := by decide +kernel
theorem dX1_isUpdate_0 : decode cX1_isUpdate 0 = .ok (.aload_n 0, 1) := by decide +kernel
theorem dX1_isUpdate_1 : decode cX1_isUpdate 1 = .ok (.getfield 24, 3) := by decide +kernel
theorem dX1_isUpdate_4 : decode cX1_isUpdate 4 = .ok (.iconst 3, 1) := by decide +kernel
theorem dX1_isUpdate_5 : decode cX1_isUpdate 5 = .ok (.if_icmp .gt 7, 3) := by decide +kernel
theorem dX1_isUpdate_8 : decode cX1_isUpdate 8 = .ok (.iconst 1, 1) := by decide +kernel
theorem dX1_isUpdate_9 : decode cX1_isUpdate 9 = .ok (.goto 4, 3) := by decide +kernel
theorem dX1_isUpdate_12 : decode cX1_isUpdate 12 = .ok (.iconst 0, 1) := by decide +kernel
theorem dX1_isUpdate_13 : decode cX1_isUpdate 13 = .ok (.ireturn, 1) := by decide +kernel
theorem dX1_isDone_0 : decode cX1_isDone 0 = .ok (.aload_n 0, 1) := by decide +kernel
theorem dX1_isDone_1 : decode cX1_isDone 1 = .ok (.getfield 9, 3) := by decide +kernel
theorem dX1_isDone_4 : decode cX1_isDone 4 = .ok (.iconst (-1), 1) := by decide +kernel
theorem dX1_isDone_5 : decode cX1_isDone 5 = .ok (.if_icmp .eq 7, 3) := by decide +kernel
theorem dX1_isDone_8 : decode cX1_isDone 8 = .ok (.iconst 1, 1) := by decide +kernel
theorem dX1_isDone_9 : decode cX1_isDone 9 = .ok (.goto 4, 3) := by decide +kernel
theorem dX1_isDone_12 : decode cX1_isDone 12 = .ok (.iconst 0, 1) := by decide +kernel
theorem dX1_isDone_13 : decode cX1_isDone 13 = .ok (.ireturn, 1) := by decide +kernel
theorem dX1_see_0 : decode cX1_see 0 = .ok (.iconst 0, 1) := by decide +kernel
theorem dX1_see_1 : decode cX1_see 1 = .ok (.istore_n 2, 1) := by decide +kernel
theorem dX1_see_2 : decode cX1_see 2 = .ok (.iload_n 2, 1) := by decide +kernel
theorem dX1_see_3 : decode cX1_see 3 = .ok (.aload_n 0, 1) := by decide +kernel
theorem dX1_see_4 : decode cX1_see 4 = .ok (.getfield 36, 3) := by decide +kernel
theorem dX1_see_7 : decode cX1_see 7 = .ok (.arraylength, 1) := by decide +kernel
theorem dX1_see_8 : decode cX1_see 8 = .ok (.if_icmp .ge 24, 3) := by decide +kernel
theorem dX1_see_11 : decode cX1_see 11 = .ok (.iload_n 2, 1) := by decide +kernel
theorem dX1_see_12 : decode cX1_see 12 = .ok (.aload_n 1, 1) := by decide +kernel
theorem dX1_see_13 : decode cX1_see 13 = .ok (.arraylength, 1) := by decide +kernel
theorem dX1_see_14 : decode cX1_see 14 = .ok (.if_icmp .ge 18, 3) := by decide +kernel
theorem dX1_see_17 : decode cX1_see 17 = .ok (.aload_n 0, 1) := by decide +kernel
theorem dX1_see_18 : decode cX1_see 18 = .ok (.getfield 36, 3) := by decide +kernel
theorem dX1_see_21 : decode cX1_see 21 = .ok (.iload_n 2, 1) := by decide +kernel
theorem dX1_see_22 : decode cX1_see 22 = .ok (.aload_n 1, 1) := by decide +kernel
theorem dX1_see_23 : decode cX1_see 23 = .ok (.iload_n 2, 1) := by decide +kernel
theorem dX1_see_24 : decode cX1_see 24 = .ok (.iaload, 1) := by decide +kernel
theorem dX1_see_25 : decode cX1_see 25 = .ok (.iastore, 1) := by decide +kernel
theorem dX1_see_26 : decode cX1_see 26 = .ok (.iinc 2 1, 3) := by decide +kernel
theorem dX1_see_29 : decode cX1_see 29 = .ok (.goto (-27), 3) := by decide +kernel
theorem dX1_see_32 : decode cX1_see 32 = .ok (.aload_n 0, 1) := by decide +kernel
theorem dX1_see_33 : decode cX1_see 33 = .ok (.iconst 1, 1) := by decide +kernel
theorem dX1_see_34 : decode cX1_see 34 = .ok (.putfield 40, 3) := by decide +kernel
theorem dX1_see_37 : decode cX1_see 37 = .ok (.return_, 1) := by decide +kernel
theorem dX1_sees_0 : decode cX1_sees 0 = .ok (.aload_n 1, 1) := by decide +kernel
theorem dX1_sees_1 : decode cX1_sees 1 = .ok (.ifnull 38, 3) := by decide +kernel
theorem dX1_sees_4 : decode cX1_sees 4 = .ok (.aload_n 1, 1) := by decide +kernel
theorem dX1_sees_5 : decode cX1_sees 5 = .ok (.getfield 24, 3) := by decide +kernel
theorem dX1_sees_8 : decode cX1_sees 8 = .ok (.iload_n 2, 1) := by decide +kernel
theorem dX1_sees_9 : decode cX1_sees 9 = .ok (.if_icmp .ne 30, 3) := by decide +kernel
theorem dX1_sees_12 : decode cX1_sees 12 = .ok (.aload_n 1, 1) := by decide +kernel
theorem dX1_sees_13 : decode cX1_sees 13 = .ok (.getfield 44, 3) := by decide +kernel
theorem dX1_sees_16 : decode cX1_sees 16 = .ok (.ifCond .le 23, 3) := by decide +kernel
theorem dX1_sees_19 : decode cX1_sees 19 = .ok (.aload_n 1, 1) := by decide +kernel
theorem dX1_sees_20 : decode cX1_sees 20 = .ok (.getfield 44, 3) := by decide +kernel
theorem dX1_sees_23 : decode cX1_sees 23 = .ok (.aload_n 0, 1) := by decide +kernel
theorem dX1_sees_24 : decode cX1_sees 24 = .ok (.getfield 36, 3) := by decide +kernel
theorem dX1_sees_27 : decode cX1_sees 27 = .ok (.aload_n 1, 1) := by decide +kernel
theorem dX1_sees_28 : decode cX1_sees 28 = .ok (.getfield 21, 3) := by decide +kernel
theorem dX1_sees_31 : decode cX1_sees 31 = .ok (.iaload, 1) := by decide +kernel
theorem dX1_sees_32 : decode cX1_sees 32 = .ok (.if_icmp .gt 7, 3) := by decide +kernel
theorem dX1_sees_35 : decode cX1_sees 35 = .ok (.iconst 1, 1) := by decide +kernel
theorem dX1_sees_36 : decode cX1_sees 36 = .ok (.goto 4, 3) := by decide +kernel
theorem dX1_sees_39 : decode cX1_sees 39 = .ok (.iconst 0, 1) := by decide +kernel
theorem dX1_sees_40 : decode cX1_sees 40 = .ok (.ireturn, 1) := by decide +kernel
theorem dX1_seesAtMost_0 : decode cX1_seesAtMost 0 = .ok (.iconst 0, 1) := by decide +kernel
theorem dX1_seesAtMost_1 : decode cX1_seesAtMost 1 = .ok (.istore_n 2, 1) := by decide +kernel
theorem dX1_seesAtMost_2 : decode cX1_seesAtMost 2 = .ok (.iload_n 2, 1) := by decide +kernel
theorem dX1_seesAtMost_3 : decode cX1_seesAtMost 3 = .ok (.aload_n 0, 1) := by decide +kernel
theorem dX1_seesAtMost_4 : decode cX1_seesAtMost 4 = .ok (.getfield 36, 3) := by decide +kernel
theorem dX1_seesAtMost_7 : decode cX1_seesAtMost 7 = .ok (.arraylength, 1) := by decide +kernel
theorem dX1_seesAtMost_8 : decode cX1_seesAtMost 8 = .ok (.if_icmp .ge 26, 3) := by decide +kernel
theorem dX1_seesAtMost_11 : decode cX1_seesAtMost 11 = .ok (.aload_n 0, 1) := by decide +kernel
theorem dX1_seesAtMost_12 : decode cX1_seesAtMost 12 = .ok (.getfield 36, 3) := by decide +kernel
theorem dX1_seesAtMost_15 : decode cX1_seesAtMost 15 = .ok (.iload_n 2, 1) := by decide +kernel
theorem dX1_seesAtMost_16 : decode cX1_seesAtMost 16 = .ok (.iaload, 1) := by decide +kernel
theorem dX1_seesAtMost_17 : decode cX1_seesAtMost 17 = .ok (.aload_n 1, 1) := by decide +kernel
theorem dX1_seesAtMost_18 : decode cX1_seesAtMost 18 = .ok (.getfield 36, 3) := by decide +kernel
theorem dX1_seesAtMost_21 : decode cX1_seesAtMost 21 = .ok (.iload_n 2, 1) := by decide +kernel
theorem dX1_seesAtMost_22 : decode cX1_seesAtMost 22 = .ok (.iaload, 1) := by decide +kernel
theorem dX1_seesAtMost_23 : decode cX1_seesAtMost 23 = .ok (.if_icmp .le 5, 3) := by decide +kernel
theorem dX1_seesAtMost_26 : decode cX1_seesAtMost 26 = .ok (.iconst 0, 1) := by decide +kernel
theorem dX1_seesAtMost_27 : decode cX1_seesAtMost 27 = .ok (.ireturn, 1) := by decide +kernel
theorem dX1_seesAtMost_28 : decode cX1_seesAtMost 28 = .ok (.iinc 2 1, 3) := by decide +kernel
theorem dX1_seesAtMost_31 : decode cX1_seesAtMost 31 = .ok (.goto (-29), 3) := by decide +kernel
theorem dX1_seesAtMost_34 : decode cX1_seesAtMost 34 = .ok (.iconst 1, 1) := by decide +kernel
theorem dX1_seesAtMost_35 : decode cX1_seesAtMost 35 = .ok (.ireturn, 1) := by decide +kernel
theorem dX1_tell_0 : decode cX1_tell 0 = .ok (.iload_n 1, 1) := by decide +kernel
theorem dX1_tell_1 : decode cX1_tell 1 = .ok (.tableswitch 113 0 9 #[55, 60, 65, 70, 75, 88, 93, 98, 103, 108], 55) := by decide +kernel
theorem dX1_tell_56 : decode cX1_tell 56 = .ok (.aload_n 0, 1) := by decide +kernel
theorem dX1_tell_57 : decode cX1_tell 57 = .ok (.getfield 21, 3) := by decide +kernel
theorem dX1_tell_60 : decode cX1_tell 60 = .ok (.ireturn, 1) := by decide +kernel
theorem dX1_tell_61 : decode cX1_tell 61 = .ok (.aload_n 0, 1) := by decide +kernel
theorem dX1_tell_62 : decode cX1_tell 62 = .ok (.getfield 24, 3) := by decide +kernel
theorem dX1_tell_65 : decode cX1_tell 65 = .ok (.ireturn, 1) := by decide +kernel
theorem dX1_tell_66 : decode cX1_tell 66 = .ok (.aload_n 0, 1) := by decide +kernel
theorem dX1_tell_67 : decode cX1_tell 67 = .ok (.getfield 27, 3) := by decide +kernel
theorem dX1_tell_70 : decode cX1_tell 70 = .ok (.ireturn, 1) := by decide +kernel
theorem dX1_tell_71 : decode cX1_tell 71 = .ok (.aload_n 0, 1) := by decide +kernel
theorem dX1_tell_72 : decode cX1_tell 72 = .ok (.getfield 30, 3) := by decide +kernel
theorem dX1_tell_75 : decode cX1_tell 75 = .ok (.ireturn, 1) := by decide +kernel
theorem dX1_tell_76 : decode cX1_tell 76 = .ok (.aload_n 0, 1) := by decide +kernel
theorem dX1_tell_77 : decode cX1_tell 77 = .ok (.invokevirtual 47, 3) := by decide +kernel
theorem dX1_tell_80 : decode cX1_tell 80 = .ok (.ifCond .eq 7, 3) := by decide +kernel
theorem dX1_tell_83 : decode cX1_tell 83 = .ok (.iconst 1, 1) := by decide +kernel
theorem dX1_tell_84 : decode cX1_tell 84 = .ok (.goto 4, 3) := by decide +kernel
theorem dX1_tell_87 : decode cX1_tell 87 = .ok (.iconst 0, 1) := by decide +kernel
theorem dX1_tell_88 : decode cX1_tell 88 = .ok (.ireturn, 1) := by decide +kernel
theorem dX1_tell_89 : decode cX1_tell 89 = .ok (.aload_n 0, 1) := by decide +kernel
theorem dX1_tell_90 : decode cX1_tell 90 = .ok (.getfield 33, 3) := by decide +kernel
theorem dX1_tell_93 : decode cX1_tell 93 = .ok (.ireturn, 1) := by decide +kernel
theorem dX1_tell_94 : decode cX1_tell 94 = .ok (.aload_n 0, 1) := by decide +kernel
theorem dX1_tell_95 : decode cX1_tell 95 = .ok (.getfield 9, 3) := by decide +kernel
theorem dX1_tell_98 : decode cX1_tell 98 = .ok (.ireturn, 1) := by decide +kernel
theorem dX1_tell_99 : decode cX1_tell 99 = .ok (.aload_n 0, 1) := by decide +kernel
theorem dX1_tell_100 : decode cX1_tell 100 = .ok (.getfield 51, 3) := by decide +kernel
theorem dX1_tell_103 : decode cX1_tell 103 = .ok (.ireturn, 1) := by decide +kernel
theorem dX1_tell_104 : decode cX1_tell 104 = .ok (.aload_n 0, 1) := by decide +kernel
theorem dX1_tell_105 : decode cX1_tell 105 = .ok (.getfield 15, 3) := by decide +kernel
theorem dX1_tell_108 : decode cX1_tell 108 = .ok (.ireturn, 1) := by decide +kernel
theorem dX1_tell_109 : decode cX1_tell 109 = .ok (.aload_n 0, 1) := by decide +kernel
theorem dX1_tell_110 : decode cX1_tell 110 = .ok (.getfield 44, 3) := by decide +kernel
theorem dX1_tell_113 : decode cX1_tell 113 = .ok (.ireturn, 1) := by decide +kernel
theorem dX1_tell_114 : decode cX1_tell 114 = .ok (.iconst (-1), 1) := by decide +kernel
theorem dX1_tell_115 : decode cX1_tell 115 = .ok (.ireturn, 1) := by decide +kernel
theorem dX2_init_0 : decode cX2_init 0 = .ok (.aload_n 0, 1) := by decide +kernel
theorem dX2_init_1 : decode cX2_init 1 = .ok (.invokespecial 3, 3) := by decide +kernel
theorem dX2_init_4 : decode cX2_init 4 = .ok (.aload_n 0, 1) := by decide +kernel
theorem dX2_init_5 : decode cX2_init 5 = .ok (.sipush 2000, 3) := by decide +kernel
theorem dX2_init_8 : decode cX2_init 8 = .ok (.newarray .int, 2) := by decide +kernel
theorem dX2_init_10 : decode cX2_init 10 = .ok (.putfield 9, 3) := by decide +kernel
theorem dX2_init_13 : decode cX2_init 13 = .ok (.aload_n 0, 1) := by decide +kernel
theorem dX2_init_14 : decode cX2_init 14 = .ok (.sipush 2000, 3) := by decide +kernel
theorem dX2_init_17 : decode cX2_init 17 = .ok (.newarray .int, 2) := by decide +kernel
theorem dX2_init_19 : decode cX2_init 19 = .ok (.putfield 15, 3) := by decide +kernel
theorem dX2_init_22 : decode cX2_init 22 = .ok (.aload_n 0, 1) := by decide +kernel
theorem dX2_init_23 : decode cX2_init 23 = .ok (.sipush 2000, 3) := by decide +kernel
theorem dX2_init_26 : decode cX2_init 26 = .ok (.newarray .int, 2) := by decide +kernel
theorem dX2_init_28 : decode cX2_init 28 = .ok (.putfield 18, 3) := by decide +kernel
theorem dX2_init_31 : decode cX2_init 31 = .ok (.aload_n 0, 1) := by decide +kernel
theorem dX2_init_32 : decode cX2_init 32 = .ok (.sipush 2000, 3) := by decide +kernel
theorem dX2_init_35 : decode cX2_init 35 = .ok (.newarray .int, 2) := by decide +kernel
theorem dX2_init_37 : decode cX2_init 37 = .ok (.putfield 21, 3) := by decide +kernel
theorem dX2_init_40 : decode cX2_init 40 = .ok (.aload_n 0, 1) := by decide +kernel
theorem dX2_init_41 : decode cX2_init 41 = .ok (.sipush 2000, 3) := by decide +kernel
theorem dX2_init_44 : decode cX2_init 44 = .ok (.newarray .int, 2) := by decide +kernel
theorem dX2_init_46 : decode cX2_init 46 = .ok (.putfield 24, 3) := by decide +kernel
theorem dX2_init_49 : decode cX2_init 49 = .ok (.aload_n 0, 1) := by decide +kernel
theorem dX2_init_50 : decode cX2_init 50 = .ok (.iload_n 1, 1) := by decide +kernel
theorem dX2_init_51 : decode cX2_init 51 = .ok (.putfield 27, 3) := by decide +kernel
theorem dX2_init_54 : decode cX2_init 54 = .ok (.aload_n 0, 1) := by decide +kernel
theorem dX2_init_55 : decode cX2_init 55 = .ok (.sipush 2000, 3) := by decide +kernel
theorem dX2_init_58 : decode cX2_init 58 = .ok (.iload_n 1, 1) := by decide +kernel
theorem dX2_init_59 : decode cX2_init 59 = .ok (.imul, 1) := by decide +kernel
theorem dX2_init_60 : decode cX2_init 60 = .ok (.newarray .int, 2) := by decide +kernel
theorem dX2_init_62 : decode cX2_init 62 = .ok (.putfield 31, 3) := by decide +kernel
theorem dX2_init_65 : decode cX2_init 65 = .ok (.iconst 0, 1) := by decide +kernel
theorem dX2_init_66 : decode cX2_init 66 = .ok (.istore_n 2, 1) := by decide +kernel
theorem dX2_init_67 : decode cX2_init 67 = .ok (.iload_n 2, 1) := by decide +kernel
theorem dX2_init_68 : decode cX2_init 68 = .ok (.sipush 2000, 3) := by decide +kernel
theorem dX2_init_71 : decode cX2_init 71 = .ok (.if_icmp .ge 16, 3) := by decide +kernel
theorem dX2_init_74 : decode cX2_init 74 = .ok (.aload_n 0, 1) := by decide +kernel
theorem dX2_init_75 : decode cX2_init 75 = .ok (.getfield 9, 3) := by decide +kernel
theorem dX2_init_78 : decode cX2_init 78 = .ok (.iload_n 2, 1) := by decide +kernel
theorem dX2_init_79 : decode cX2_init 79 = .ok (.iload_n 2, 1) := by decide +kernel
theorem dX2_init_80 : decode cX2_init 80 = .ok (.iastore, 1) := by decide +kernel
theorem dX2_init_81 : decode cX2_init 81 = .ok (.iinc 2 1, 3) := by decide +kernel
theorem dX2_init_84 : decode cX2_init 84 = .ok (.goto (-17), 3) := by decide +kernel
theorem dX2_init_87 : decode cX2_init 87 = .ok (.return_, 1) := by decide +kernel
theorem dX2_holds_0 : decode cX2_holds 0 = .ok (.iload_n 1, 1) := by decide +kernel
theorem dX2_holds_1 : decode cX2_holds 1 = .ok (.ifCond .lt 15, 3) := by decide +kernel
theorem dX2_holds_4 : decode cX2_holds 4 = .ok (.iload_n 1, 1) := by decide +kernel
theorem dX2_holds_5 : decode cX2_holds 5 = .ok (.aload_n 0, 1) := by decide +kernel
theorem dX2_holds_6 : decode cX2_holds 6 = .ok (.getfield 34, 3) := by decide +kernel
theorem dX2_holds_9 : decode cX2_holds 9 = .ok (.if_icmp .ge 7, 3) := by decide +kernel
theorem dX2_holds_12 : decode cX2_holds 12 = .ok (.iconst 1, 1) := by decide +kernel
theorem dX2_holds_13 : decode cX2_holds 13 = .ok (.goto 4, 3) := by decide +kernel
theorem dX2_holds_16 : decode cX2_holds 16 = .ok (.iconst 0, 1) := by decide +kernel
theorem dX2_holds_17 : decode cX2_holds 17 = .ok (.ireturn, 1) := by decide +kernel
theorem dX2_hasRoom_0 : decode cX2_hasRoom 0 = .ok (.aload_n 0, 1) := by decide +kernel
theorem dX2_hasRoom_1 : decode cX2_hasRoom 1 = .ok (.getfield 34, 3) := by decide +kernel
theorem dX2_hasRoom_4 : decode cX2_hasRoom 4 = .ok (.iload_n 1, 1) := by decide +kernel
theorem dX2_hasRoom_5 : decode cX2_hasRoom 5 = .ok (.iadd, 1) := by decide +kernel
theorem dX2_hasRoom_6 : decode cX2_hasRoom 6 = .ok (.sipush 2000, 3) := by decide +kernel
theorem dX2_hasRoom_9 : decode cX2_hasRoom 9 = .ok (.if_icmp .gt 7, 3) := by decide +kernel
theorem dX2_hasRoom_12 : decode cX2_hasRoom 12 = .ok (.iconst 1, 1) := by decide +kernel
theorem dX2_hasRoom_13 : decode cX2_hasRoom 13 = .ok (.goto 4, 3) := by decide +kernel
theorem dX2_hasRoom_16 : decode cX2_hasRoom 16 = .ok (.iconst 0, 1) := by decide +kernel
theorem dX2_hasRoom_17 : decode cX2_hasRoom 17 = .ok (.ireturn, 1) := by decide +kernel
theorem dX2_slotOf_0 : decode cX2_slotOf 0 = .ok (.aload_n 0, 1) := by decide +kernel
theorem dX2_slotOf_1 : decode cX2_slotOf 1 = .ok (.getfield 9, 3) := by decide +kernel
theorem dX2_slotOf_4 : decode cX2_slotOf 4 = .ok (.aload_n 0, 1) := by decide +kernel
theorem dX2_slotOf_5 : decode cX2_slotOf 5 = .ok (.getfield 37, 3) := by decide +kernel
theorem dX2_slotOf_8 : decode cX2_slotOf 8 = .ok (.iload_n 1, 1) := by decide +kernel
theorem dX2_slotOf_9 : decode cX2_slotOf 9 = .ok (.iadd, 1) := by decide +kernel
theorem dX2_slotOf_10 : decode cX2_slotOf 10 = .ok (.sipush 2000, 3) := by decide +kernel
theorem dX2_slotOf_13 : decode cX2_slotOf 13 = .ok (.irem, 1) := by decide +kernel
theorem dX2_slotOf_14 : decode cX2_slotOf 14 = .ok (.iaload, 1) := by decide +kernel
theorem dX2_slotOf_15 : decode cX2_slotOf 15 = .ok (.ireturn, 1) := by decide +kernel
theorem dX2_send_0 : decode cX2_send 0 = .ok (.aload_n 0, 1) := by decide +kernel
theorem dX2_send_1 : decode cX2_send 1 = .ok (.getfield 9, 3) := by decide +kernel
theorem dX2_send_4 : decode cX2_send 4 = .ok (.aload_n 0, 1) := by decide +kernel
theorem dX2_send_5 : decode cX2_send 5 = .ok (.getfield 37, 3) := by decide +kernel
theorem dX2_send_8 : decode cX2_send 8 = .ok (.aload_n 0, 1) := by decide +kernel
theorem dX2_send_9 : decode cX2_send 9 = .ok (.getfield 34, 3) := by decide +kernel
theorem dX2_send_12 : decode cX2_send 12 = .ok (.iadd, 1) := by decide +kernel
theorem dX2_send_13 : decode cX2_send 13 = .ok (.sipush 2000, 3) := by decide +kernel
theorem dX2_send_16 : decode cX2_send 16 = .ok (.irem, 1) := by decide +kernel
theorem dX2_send_17 : decode cX2_send 17 = .ok (.iaload, 1) := by decide +kernel
theorem dX2_send_18 : decode cX2_send 18 = .ok (.istore 6, 2) := by decide +kernel
theorem dX2_send_20 : decode cX2_send 20 = .ok (.aload_n 0, 1) := by decide +kernel
theorem dX2_send_21 : decode cX2_send 21 = .ok (.getfield 15, 3) := by decide +kernel
theorem dX2_send_24 : decode cX2_send 24 = .ok (.iload 6, 2) := by decide +kernel
theorem dX2_send_26 : decode cX2_send 26 = .ok (.iload_n 1, 1) := by decide +kernel
theorem dX2_send_27 : decode cX2_send 27 = .ok (.iastore, 1) := by decide +kernel
theorem dX2_send_28 : decode cX2_send 28 = .ok (.aload_n 0, 1) := by decide +kernel
theorem dX2_send_29 : decode cX2_send 29 = .ok (.getfield 18, 3) := by decide +kernel
theorem dX2_send_32 : decode cX2_send 32 = .ok (.iload 6, 2) := by decide +kernel
theorem dX2_send_34 : decode cX2_send 34 = .ok (.iload_n 2, 1) := by decide +kernel
theorem dX2_send_35 : decode cX2_send 35 = .ok (.iastore, 1) := by decide +kernel
theorem dX2_send_36 : decode cX2_send 36 = .ok (.aload_n 0, 1) := by decide +kernel
theorem dX2_send_37 : decode cX2_send 37 = .ok (.getfield 21, 3) := by decide +kernel
theorem dX2_send_40 : decode cX2_send 40 = .ok (.iload 6, 2) := by decide +kernel
theorem dX2_send_42 : decode cX2_send 42 = .ok (.iload_n 3, 1) := by decide +kernel
theorem dX2_send_43 : decode cX2_send 43 = .ok (.iastore, 1) := by decide +kernel
theorem dX2_send_44 : decode cX2_send 44 = .ok (.aload_n 0, 1) := by decide +kernel
theorem dX2_send_45 : decode cX2_send 45 = .ok (.getfield 24, 3) := by decide +kernel
theorem dX2_send_48 : decode cX2_send 48 = .ok (.iload 6, 2) := by decide +kernel
theorem dX2_send_50 : decode cX2_send 50 = .ok (.iload 4, 2) := by decide +kernel
theorem dX2_send_52 : decode cX2_send 52 = .ok (.iastore, 1) := by decide +kernel
theorem dX2_send_53 : decode cX2_send 53 = .ok (.aload 5, 2) := by decide +kernel
theorem dX2_send_55 : decode cX2_send 55 = .ok (.ifnull 24, 3) := by decide +kernel
theorem dX2_send_58 : decode cX2_send 58 = .ok (.aload 5, 2) := by decide +kernel
theorem dX2_send_60 : decode cX2_send 60 = .ok (.iconst 0, 1) := by decide +kernel
theorem dX2_send_61 : decode cX2_send 61 = .ok (.aload_n 0, 1) := by decide +kernel
theorem dX2_send_62 : decode cX2_send 62 = .ok (.getfield 31, 3) := by decide +kernel
theorem dX2_send_65 : decode cX2_send 65 = .ok (.iload 6, 2) := by decide +kernel
theorem dX2_send_67 : decode cX2_send 67 = .ok (.aload_n 0, 1) := by decide +kernel
theorem dX2_send_68 : decode cX2_send 68 = .ok (.getfield 27, 3) := by decide +kernel
theorem dX2_send_71 : decode cX2_send 71 = .ok (.imul, 1) := by decide +kernel
theorem dX2_send_72 : decode cX2_send 72 = .ok (.aload_n 0, 1) := by decide +kernel
theorem dX2_send_73 : decode cX2_send 73 = .ok (.getfield 27, 3) := by decide +kernel
theorem dX2_send_76 : decode cX2_send 76 = .ok (.invokestatic 40, 3) := by decide +kernel
theorem dX2_send_79 : decode cX2_send 79 = .ok (.aload_n 0, 1) := by decide +kernel
theorem dX2_send_80 : decode cX2_send 80 = .ok (.dup, 1) := by decide +kernel
theorem dX2_send_81 : decode cX2_send 81 = .ok (.getfield 34, 3) := by decide +kernel
theorem dX2_send_84 : decode cX2_send 84 = .ok (.iconst 1, 1) := by decide +kernel
theorem dX2_send_85 : decode cX2_send 85 = .ok (.iadd, 1) := by decide +kernel
theorem dX2_send_86 : decode cX2_send 86 = .ok (.putfield 34, 3) := by decide +kernel
theorem dX2_send_89 : decode cX2_send 89 = .ok (.aload_n 0, 1) := by decide +kernel
theorem dX2_send_90 : decode cX2_send 90 = .ok (.dup, 1) := by decide +kernel
theorem dX2_send_91 : decode cX2_send 91 = .ok (.getfield 46, 3) := by decide +kernel
theorem dX2_send_94 : decode cX2_send 94 = .ok (.iconst 1, 1) := by decide +kernel
theorem dX2_send_95 : decode cX2_send 95 = .ok (.iadd, 1) := by decide +kernel
theorem dX2_send_96 : decode cX2_send 96 = .ok (.putfield 46, 3) := by decide +kernel
theorem dX2_send_99 : decode cX2_send 99 = .ok (.return_, 1) := by decide +kernel
theorem dX2_take_0 : decode cX2_take 0 = .ok (.aload_n 0, 1) := by decide +kernel
theorem dX2_take_1 : decode cX2_take 1 = .ok (.iload_n 1, 1) := by decide +kernel
theorem dX2_take_2 : decode cX2_take 2 = .ok (.invokevirtual 49, 3) := by decide +kernel
theorem dX2_take_5 : decode cX2_take 5 = .ok (.istore_n 2, 1) := by decide +kernel
theorem dX2_take_6 : decode cX2_take 6 = .ok (.iload_n 1, 1) := by decide +kernel
theorem dX2_take_7 : decode cX2_take 7 = .ok (.istore_n 3, 1) := by decide +kernel
theorem dX2_take_8 : decode cX2_take 8 = .ok (.iload_n 3, 1) := by decide +kernel
theorem dX2_take_9 : decode cX2_take 9 = .ok (.ifCond .le 31, 3) := by decide +kernel
theorem dX2_take_12 : decode cX2_take 12 = .ok (.aload_n 0, 1) := by decide +kernel
theorem dX2_take_13 : decode cX2_take 13 = .ok (.getfield 9, 3) := by decide +kernel
theorem dX2_take_16 : decode cX2_take 16 = .ok (.aload_n 0, 1) := by decide +kernel
theorem dX2_take_17 : decode cX2_take 17 = .ok (.getfield 37, 3) := by decide +kernel
theorem dX2_take_20 : decode cX2_take 20 = .ok (.iload_n 3, 1) := by decide +kernel
theorem dX2_take_21 : decode cX2_take 21 = .ok (.iadd, 1) := by decide +kernel
theorem dX2_take_22 : decode cX2_take 22 = .ok (.sipush 2000, 3) := by decide +kernel
theorem dX2_take_25 : decode cX2_take 25 = .ok (.irem, 1) := by decide +kernel
theorem dX2_take_26 : decode cX2_take 26 = .ok (.aload_n 0, 1) := by decide +kernel
theorem dX2_take_27 : decode cX2_take 27 = .ok (.iload_n 3, 1) := by decide +kernel
theorem dX2_take_28 : decode cX2_take 28 = .ok (.iconst 1, 1) := by decide +kernel
theorem dX2_take_29 : decode cX2_take 29 = .ok (.isub, 1) := by decide +kernel
theorem dX2_take_30 : decode cX2_take 30 = .ok (.invokevirtual 49, 3) := by decide +kernel
theorem dX2_take_33 : decode cX2_take 33 = .ok (.iastore, 1) := by decide +kernel
theorem dX2_take_34 : decode cX2_take 34 = .ok (.iinc 3 (-1), 3) := by decide +kernel
theorem dX2_take_37 : decode cX2_take 37 = .ok (.goto (-29), 3) := by decide +kernel
theorem dX2_take_40 : decode cX2_take 40 = .ok (.aload_n 0, 1) := by decide +kernel
theorem dX2_take_41 : decode cX2_take 41 = .ok (.getfield 9, 3) := by decide +kernel
theorem dX2_take_44 : decode cX2_take 44 = .ok (.aload_n 0, 1) := by decide +kernel
theorem dX2_take_45 : decode cX2_take 45 = .ok (.getfield 37, 3) := by decide +kernel
theorem dX2_take_48 : decode cX2_take 48 = .ok (.iload_n 2, 1) := by decide +kernel
theorem dX2_take_49 : decode cX2_take 49 = .ok (.iastore, 1) := by decide +kernel
theorem dX2_take_50 : decode cX2_take 50 = .ok (.aload_n 0, 1) := by decide +kernel
theorem dX2_take_51 : decode cX2_take 51 = .ok (.aload_n 0, 1) := by decide +kernel
theorem dX2_take_52 : decode cX2_take 52 = .ok (.getfield 37, 3) := by decide +kernel
theorem dX2_take_55 : decode cX2_take 55 = .ok (.iconst 1, 1) := by decide +kernel
theorem dX2_take_56 : decode cX2_take 56 = .ok (.iadd, 1) := by decide +kernel
theorem dX2_take_57 : decode cX2_take 57 = .ok (.sipush 2000, 3) := by decide +kernel
theorem dX2_take_60 : decode cX2_take 60 = .ok (.irem, 1) := by decide +kernel
theorem dX2_take_61 : decode cX2_take 61 = .ok (.putfield 37, 3) := by decide +kernel
theorem dX2_take_64 : decode cX2_take 64 = .ok (.aload_n 0, 1) := by decide +kernel
theorem dX2_take_65 : decode cX2_take 65 = .ok (.dup, 1) := by decide +kernel
theorem dX2_take_66 : decode cX2_take 66 = .ok (.getfield 34, 3) := by decide +kernel
theorem dX2_take_69 : decode cX2_take 69 = .ok (.iconst 1, 1) := by decide +kernel
theorem dX2_take_70 : decode cX2_take 70 = .ok (.isub, 1) := by decide +kernel
theorem dX2_take_71 : decode cX2_take 71 = .ok (.putfield 34, 3) := by decide +kernel
theorem dX2_take_74 : decode cX2_take 74 = .ok (.return_, 1) := by decide +kernel
theorem dX2_raise_0 : decode cX2_raise 0 = .ok (.iconst 0, 1) := by decide +kernel
theorem dX2_raise_1 : decode cX2_raise 1 = .ok (.istore_n 3, 1) := by decide +kernel
theorem dX2_raise_2 : decode cX2_raise 2 = .ok (.iload_n 3, 1) := by decide +kernel
theorem dX2_raise_3 : decode cX2_raise 3 = .ok (.aload_n 1, 1) := by decide +kernel
theorem dX2_raise_4 : decode cX2_raise 4 = .ok (.arraylength, 1) := by decide +kernel
theorem dX2_raise_5 : decode cX2_raise 5 = .ok (.if_icmp .ge 31, 3) := by decide +kernel
theorem dX2_raise_8 : decode cX2_raise 8 = .ok (.aload_n 1, 1) := by decide +kernel
theorem dX2_raise_9 : decode cX2_raise 9 = .ok (.iload_n 3, 1) := by decide +kernel
theorem dX2_raise_10 : decode cX2_raise 10 = .ok (.aload_n 1, 1) := by decide +kernel
theorem dX2_raise_11 : decode cX2_raise 11 = .ok (.iload_n 3, 1) := by decide +kernel
theorem dX2_raise_12 : decode cX2_raise 12 = .ok (.iaload, 1) := by decide +kernel
theorem dX2_raise_13 : decode cX2_raise 13 = .ok (.aload_n 0, 1) := by decide +kernel
theorem dX2_raise_14 : decode cX2_raise 14 = .ok (.getfield 31, 3) := by decide +kernel
theorem dX2_raise_17 : decode cX2_raise 17 = .ok (.iload_n 2, 1) := by decide +kernel
theorem dX2_raise_18 : decode cX2_raise 18 = .ok (.aload_n 0, 1) := by decide +kernel
theorem dX2_raise_19 : decode cX2_raise 19 = .ok (.getfield 27, 3) := by decide +kernel
theorem dX2_raise_22 : decode cX2_raise 22 = .ok (.imul, 1) := by decide +kernel
theorem dX2_raise_23 : decode cX2_raise 23 = .ok (.iload_n 3, 1) := by decide +kernel
theorem dX2_raise_24 : decode cX2_raise 24 = .ok (.iadd, 1) := by decide +kernel
theorem dX2_raise_25 : decode cX2_raise 25 = .ok (.iaload, 1) := by decide +kernel
theorem dX2_raise_26 : decode cX2_raise 26 = .ok (.invokestatic 53, 3) := by decide +kernel
theorem dX2_raise_29 : decode cX2_raise 29 = .ok (.iastore, 1) := by decide +kernel
theorem dX2_raise_30 : decode cX2_raise 30 = .ok (.iinc 3 1, 3) := by decide +kernel
theorem dX2_raise_33 : decode cX2_raise 33 = .ok (.goto (-31), 3) := by decide +kernel
theorem dX2_raise_36 : decode cX2_raise 36 = .ok (.return_, 1) := by decide +kernel
theorem dX2_numberOf_0 : decode cX2_numberOf 0 = .ok (.aload_n 0, 1) := by decide +kernel
theorem dX2_numberOf_1 : decode cX2_numberOf 1 = .ok (.iload_n 1, 1) := by decide +kernel
theorem dX2_numberOf_2 : decode cX2_numberOf 2 = .ok (.invokevirtual 49, 3) := by decide +kernel
theorem dX2_numberOf_5 : decode cX2_numberOf 5 = .ok (.istore_n 3, 1) := by decide +kernel
theorem dX2_numberOf_6 : decode cX2_numberOf 6 = .ok (.aload_n 0, 1) := by decide +kernel
theorem dX2_numberOf_7 : decode cX2_numberOf 7 = .ok (.getfield 15, 3) := by decide +kernel
theorem dX2_numberOf_10 : decode cX2_numberOf 10 = .ok (.iload_n 3, 1) := by decide +kernel
theorem dX2_numberOf_11 : decode cX2_numberOf 11 = .ok (.iaload, 1) := by decide +kernel
theorem dX2_numberOf_12 : decode cX2_numberOf 12 = .ok (.iconst 1, 1) := by decide +kernel
theorem dX2_numberOf_13 : decode cX2_numberOf 13 = .ok (.if_icmp .eq 13, 3) := by decide +kernel
theorem dX2_numberOf_16 : decode cX2_numberOf 16 = .ok (.aload_n 0, 1) := by decide +kernel
theorem dX2_numberOf_17 : decode cX2_numberOf 17 = .ok (.getfield 15, 3) := by decide +kernel
theorem dX2_numberOf_20 : decode cX2_numberOf 20 = .ok (.iload_n 3, 1) := by decide +kernel
theorem dX2_numberOf_21 : decode cX2_numberOf 21 = .ok (.iaload, 1) := by decide +kernel
theorem dX2_numberOf_22 : decode cX2_numberOf 22 = .ok (.iconst 2, 1) := by decide +kernel
theorem dX2_numberOf_23 : decode cX2_numberOf 23 = .ok (.if_icmp .ne 19, 3) := by decide +kernel
theorem dX2_numberOf_26 : decode cX2_numberOf 26 = .ok (.aload_n 0, 1) := by decide +kernel
theorem dX2_numberOf_27 : decode cX2_numberOf 27 = .ok (.getfield 31, 3) := by decide +kernel
theorem dX2_numberOf_30 : decode cX2_numberOf 30 = .ok (.iload_n 3, 1) := by decide +kernel
theorem dX2_numberOf_31 : decode cX2_numberOf 31 = .ok (.aload_n 0, 1) := by decide +kernel
theorem dX2_numberOf_32 : decode cX2_numberOf 32 = .ok (.getfield 27, 3) := by decide +kernel
theorem dX2_numberOf_35 : decode cX2_numberOf 35 = .ok (.imul, 1) := by decide +kernel
theorem dX2_numberOf_36 : decode cX2_numberOf 36 = .ok (.iload_n 2, 1) := by decide +kernel
theorem dX2_numberOf_37 : decode cX2_numberOf 37 = .ok (.iadd, 1) := by decide +kernel
theorem dX2_numberOf_38 : decode cX2_numberOf 38 = .ok (.iaload, 1) := by decide +kernel
theorem dX2_numberOf_39 : decode cX2_numberOf 39 = .ok (.goto 4, 3) := by decide +kernel
theorem dX2_numberOf_42 : decode cX2_numberOf 42 = .ok (.iconst (-1), 1) := by decide +kernel
theorem dX2_numberOf_43 : decode cX2_numberOf 43 = .ok (.ireturn, 1) := by decide +kernel
theorem dX2_tell_0 : decode cX2_tell 0 = .ok (.aload_n 0, 1) := by decide +kernel
theorem dX2_tell_1 : decode cX2_tell 1 = .ok (.iload_n 1, 1) := by decide +kernel
theorem dX2_tell_2 : decode cX2_tell 2 = .ok (.invokevirtual 49, 3) := by decide +kernel
theorem dX2_tell_5 : decode cX2_tell 5 = .ok (.istore_n 3, 1) := by decide +kernel
theorem dX2_tell_6 : decode cX2_tell 6 = .ok (.iload_n 2, 1) := by decide +kernel
theorem dX2_tell_7 : decode cX2_tell 7 = .ok (.tableswitch 57 0 3 #[29, 36, 43, 50], 29) := by decide +kernel
theorem dX2_tell_36 : decode cX2_tell 36 = .ok (.aload_n 0, 1) := by decide +kernel
theorem dX2_tell_37 : decode cX2_tell 37 = .ok (.getfield 15, 3) := by decide +kernel
theorem dX2_tell_40 : decode cX2_tell 40 = .ok (.iload_n 3, 1) := by decide +kernel
theorem dX2_tell_41 : decode cX2_tell 41 = .ok (.iaload, 1) := by decide +kernel
theorem dX2_tell_42 : decode cX2_tell 42 = .ok (.ireturn, 1) := by decide +kernel
theorem dX2_tell_43 : decode cX2_tell 43 = .ok (.aload_n 0, 1) := by decide +kernel
theorem dX2_tell_44 : decode cX2_tell 44 = .ok (.getfield 18, 3) := by decide +kernel
theorem dX2_tell_47 : decode cX2_tell 47 = .ok (.iload_n 3, 1) := by decide +kernel
theorem dX2_tell_48 : decode cX2_tell 48 = .ok (.iaload, 1) := by decide +kernel
theorem dX2_tell_49 : decode cX2_tell 49 = .ok (.ireturn, 1) := by decide +kernel
theorem dX2_tell_50 : decode cX2_tell 50 = .ok (.aload_n 0, 1) := by decide +kernel
theorem dX2_tell_51 : decode cX2_tell 51 = .ok (.getfield 21, 3) := by decide +kernel
theorem dX2_tell_54 : decode cX2_tell 54 = .ok (.iload_n 3, 1) := by decide +kernel
theorem dX2_tell_55 : decode cX2_tell 55 = .ok (.iaload, 1) := by decide +kernel
theorem dX2_tell_56 : decode cX2_tell 56 = .ok (.ireturn, 1) := by decide +kernel
theorem dX2_tell_57 : decode cX2_tell 57 = .ok (.aload_n 0, 1) := by decide +kernel
theorem dX2_tell_58 : decode cX2_tell 58 = .ok (.getfield 24, 3) := by decide +kernel
theorem dX2_tell_61 : decode cX2_tell 61 = .ok (.iload_n 3, 1) := by decide +kernel
theorem dX2_tell_62 : decode cX2_tell 62 = .ok (.iaload, 1) := by decide +kernel
theorem dX2_tell_63 : decode cX2_tell 63 = .ok (.ireturn, 1) := by decide +kernel
theorem dX2_tell_64 : decode cX2_tell 64 = .ok (.iconst (-1), 1) := by decide +kernel
theorem dX2_tell_65 : decode cX2_tell 65 = .ok (.ireturn, 1) := by decide +kernel
theorem dX3_init_0 : decode cX3_init 0 = .ok (.aload_n 0, 1) := by decide +kernel
theorem dX3_init_1 : decode cX3_init 1 = .ok (.invokespecial 1, 3) := by decide +kernel
theorem dX3_init_4 : decode cX3_init 4 = .ok (.iload_n 1, 1) := by decide +kernel
theorem dX3_init_5 : decode cX3_init 5 = .ok (.iconst 3, 1) := by decide +kernel
theorem dX3_init_6 : decode cX3_init 6 = .ok (.if_icmp .lt 9, 3) := by decide +kernel
theorem dX3_init_9 : decode cX3_init 9 = .ok (.iload_n 1, 1) := by decide +kernel
theorem dX3_init_10 : decode cX3_init 10 = .ok (.bipush 31, 2) := by decide +kernel
theorem dX3_init_12 : decode cX3_init 12 = .ok (.if_icmp .le 7, 3) := by decide +kernel
theorem dX3_init_15 : decode cX3_init 15 = .ok (.iconst 3, 1) := by decide +kernel
theorem dX3_init_16 : decode cX3_init 16 = .ok (.goto 4, 3) := by decide +kernel
theorem dX3_init_19 : decode cX3_init 19 = .ok (.iload_n 1, 1) := by decide +kernel
theorem dX3_init_20 : decode cX3_init 20 = .ok (.istore_n 2, 1) := by decide +kernel
theorem dX3_init_21 : decode cX3_init 21 = .ok (.aload_n 0, 1) := by decide +kernel
theorem dX3_init_22 : decode cX3_init 22 = .ok (.iload_n 2, 1) := by decide +kernel
theorem dX3_init_23 : decode cX3_init 23 = .ok (.anewarray 9, 3) := by decide +kernel
theorem dX3_init_26 : decode cX3_init 26 = .ok (.putfield 11, 3) := by decide +kernel
theorem dX3_init_29 : decode cX3_init 29 = .ok (.iconst 0, 1) := by decide +kernel
theorem dX3_init_30 : decode cX3_init 30 = .ok (.istore_n 3, 1) := by decide +kernel
theorem dX3_init_31 : decode cX3_init 31 = .ok (.iload_n 3, 1) := by decide +kernel
theorem dX3_init_32 : decode cX3_init 32 = .ok (.iload_n 2, 1) := by decide +kernel
theorem dX3_init_33 : decode cX3_init 33 = .ok (.if_icmp .ge 24, 3) := by decide +kernel
theorem dX3_init_36 : decode cX3_init 36 = .ok (.aload_n 0, 1) := by decide +kernel
theorem dX3_init_37 : decode cX3_init 37 = .ok (.getfield 11, 3) := by decide +kernel
theorem dX3_init_40 : decode cX3_init 40 = .ok (.iload_n 3, 1) := by decide +kernel
theorem dX3_init_41 : decode cX3_init 41 = .ok (.new 9, 3) := by decide +kernel
theorem dX3_init_44 : decode cX3_init 44 = .ok (.dup, 1) := by decide +kernel
theorem dX3_init_45 : decode cX3_init 45 = .ok (.iload_n 3, 1) := by decide +kernel
theorem dX3_init_46 : decode cX3_init 46 = .ok (.iload_n 2, 1) := by decide +kernel
theorem dX3_init_47 : decode cX3_init 47 = .ok (.invokespecial 15, 3) := by decide +kernel
theorem dX3_init_50 : decode cX3_init 50 = .ok (.aastore, 1) := by decide +kernel
theorem dX3_init_51 : decode cX3_init 51 = .ok (.iinc 3 1, 3) := by decide +kernel
theorem dX3_init_54 : decode cX3_init 54 = .ok (.goto (-23), 3) := by decide +kernel
theorem dX3_init_57 : decode cX3_init 57 = .ok (.aload_n 0, 1) := by decide +kernel
theorem dX3_init_58 : decode cX3_init 58 = .ok (.new 18, 3) := by decide +kernel
theorem dX3_init_61 : decode cX3_init 61 = .ok (.dup, 1) := by decide +kernel
theorem dX3_init_62 : decode cX3_init 62 = .ok (.iload_n 2, 1) := by decide +kernel
theorem dX3_init_63 : decode cX3_init 63 = .ok (.invokespecial 20, 3) := by decide +kernel
theorem dX3_init_66 : decode cX3_init 66 = .ok (.putfield 23, 3) := by decide +kernel
theorem dX3_init_69 : decode cX3_init 69 = .ok (.aload_n 0, 1) := by decide +kernel
theorem dX3_init_70 : decode cX3_init 70 = .ok (.sipush 512, 3) := by decide +kernel
theorem dX3_init_73 : decode cX3_init 73 = .ok (.anewarray 27, 3) := by decide +kernel
theorem dX3_init_76 : decode cX3_init 76 = .ok (.putfield 29, 3) := by decide +kernel
theorem dX3_init_79 : decode cX3_init 79 = .ok (.return_, 1) := by decide +kernel
theorem dX3_update_0 : decode cX3_update 0 = .ok (.aload_n 0, 1) := by decide +kernel
theorem dX3_update_1 : decode cX3_update 1 = .ok (.iload_n 1, 1) := by decide +kernel
theorem dX3_update_2 : decode cX3_update 2 = .ok (.invokevirtual 33, 3) := by decide +kernel
theorem dX3_update_5 : decode cX3_update 5 = .ok (.ifCond .ne 13, 3) := by decide +kernel
theorem dX3_update_8 : decode cX3_update 8 = .ok (.new 37, 3) := by decide +kernel
theorem dX3_update_11 : decode cX3_update 11 = .ok (.dup, 1) := by decide +kernel
theorem dX3_update_12 : decode cX3_update 12 = .ok (.ldc 39, 2) := by decide +kernel
theorem dX3_update_14 : decode cX3_update 14 = .ok (.invokespecial 41, 3) := by decide +kernel
theorem dX3_update_17 : decode cX3_update 17 = .ok (.athrow, 1) := by decide +kernel
theorem dX3_update_18 : decode cX3_update 18 = .ok (.iload_n 2, 1) := by decide +kernel
theorem dX3_update_19 : decode cX3_update 19 = .ok (.ifCond .lt 8, 3) := by decide +kernel
theorem dX3_update_22 : decode cX3_update 22 = .ok (.iload_n 2, 1) := by decide +kernel
theorem dX3_update_23 : decode cX3_update 23 = .ok (.iconst 3, 1) := by decide +kernel
theorem dX3_update_24 : decode cX3_update 24 = .ok (.if_icmp .le 13, 3) := by decide +kernel
theorem dX3_update_27 : decode cX3_update 27 = .ok (.new 44, 3) := by decide +kernel
theorem dX3_update_30 : decode cX3_update 30 = .ok (.dup, 1) := by decide +kernel
theorem dX3_update_31 : decode cX3_update 31 = .ok (.ldc 46, 2) := by decide +kernel
theorem dX3_update_33 : decode cX3_update 33 = .ok (.invokespecial 48, 3) := by decide +kernel
theorem dX3_update_36 : decode cX3_update 36 = .ok (.athrow, 1) := by decide +kernel
theorem dX3_update_37 : decode cX3_update 37 = .ok (.aload_n 0, 1) := by decide +kernel
theorem dX3_update_38 : decode cX3_update 38 = .ok (.iload_n 1, 1) := by decide +kernel
theorem dX3_update_39 : decode cX3_update 39 = .ok (.iload_n 2, 1) := by decide +kernel
theorem dX3_update_40 : decode cX3_update 40 = .ok (.iload_n 3, 1) := by decide +kernel
theorem dX3_update_41 : decode cX3_update 41 = .ok (.iload 4, 2) := by decide +kernel
theorem dX3_update_43 : decode cX3_update 43 = .ok (.invokevirtual 49, 3) := by decide +kernel
theorem dX3_update_46 : decode cX3_update 46 = .ok (.ireturn, 1) := by decide +kernel
theorem dX3_query_0 : decode cX3_query 0 = .ok (.aload_n 0, 1) := by decide +kernel
theorem dX3_query_1 : decode cX3_query 1 = .ok (.iload_n 1, 1) := by decide +kernel
theorem dX3_query_2 : decode cX3_query 2 = .ok (.invokevirtual 33, 3) := by decide +kernel
theorem dX3_query_5 : decode cX3_query 5 = .ok (.ifCond .ne 13, 3) := by decide +kernel
theorem dX3_query_8 : decode cX3_query 8 = .ok (.new 37, 3) := by decide +kernel
theorem dX3_query_11 : decode cX3_query 11 = .ok (.dup, 1) := by decide +kernel
theorem dX3_query_12 : decode cX3_query 12 = .ok (.ldc 39, 2) := by decide +kernel
theorem dX3_query_14 : decode cX3_query 14 = .ok (.invokespecial 41, 3) := by decide +kernel
theorem dX3_query_17 : decode cX3_query 17 = .ok (.athrow, 1) := by decide +kernel
theorem dX3_query_18 : decode cX3_query 18 = .ok (.iload_n 2, 1) := by decide +kernel
theorem dX3_query_19 : decode cX3_query 19 = .ok (.bipush 10, 2) := by decide +kernel
theorem dX3_query_21 : decode cX3_query 21 = .ok (.if_icmp .lt 9, 3) := by decide +kernel
theorem dX3_query_24 : decode cX3_query 24 = .ok (.iload_n 2, 1) := by decide +kernel
theorem dX3_query_25 : decode cX3_query 25 = .ok (.bipush 15, 2) := by decide +kernel
theorem dX3_query_27 : decode cX3_query 27 = .ok (.if_icmp .le 13, 3) := by decide +kernel
theorem dX3_query_30 : decode cX3_query 30 = .ok (.new 44, 3) := by decide +kernel
theorem dX3_query_33 : decode cX3_query 33 = .ok (.dup, 1) := by decide +kernel
theorem dX3_query_34 : decode cX3_query 34 = .ok (.ldc 53, 2) := by decide +kernel
theorem dX3_query_36 : decode cX3_query 36 = .ok (.invokespecial 48, 3) := by decide +kernel
theorem dX3_query_39 : decode cX3_query 39 = .ok (.athrow, 1) := by decide +kernel
theorem dX3_query_40 : decode cX3_query 40 = .ok (.aload_n 0, 1) := by decide +kernel
theorem dX3_query_41 : decode cX3_query 41 = .ok (.iload_n 1, 1) := by decide +kernel
theorem dX3_query_42 : decode cX3_query 42 = .ok (.iload_n 2, 1) := by decide +kernel
theorem dX3_query_43 : decode cX3_query 43 = .ok (.iload_n 3, 1) := by decide +kernel
theorem dX3_query_44 : decode cX3_query 44 = .ok (.iconst 0, 1) := by decide +kernel
theorem dX3_query_45 : decode cX3_query 45 = .ok (.invokevirtual 49, 3) := by decide +kernel
theorem dX3_query_48 : decode cX3_query 48 = .ok (.ireturn, 1) := by decide +kernel
theorem dX3_deliver_0 : decode cX3_deliver 0 = .ok (.aload_n 0, 1) := by decide +kernel
theorem dX3_deliver_1 : decode cX3_deliver 1 = .ok (.getfield 23, 3) := by decide +kernel
theorem dX3_deliver_4 : decode cX3_deliver 4 = .ok (.iload_n 1, 1) := by decide +kernel
theorem dX3_deliver_5 : decode cX3_deliver 5 = .ok (.invokevirtual 55, 3) := by decide +kernel
theorem dX3_deliver_8 : decode cX3_deliver 8 = .ok (.ifCond .ne 13, 3) := by decide +kernel
theorem dX3_deliver_11 : decode cX3_deliver 11 = .ok (.new 37, 3) := by decide +kernel
theorem dX3_deliver_14 : decode cX3_deliver 14 = .ok (.dup, 1) := by decide +kernel
theorem dX3_deliver_15 : decode cX3_deliver 15 = .ok (.ldc 58, 2) := by decide +kernel
theorem dX3_deliver_17 : decode cX3_deliver 17 = .ok (.invokespecial 41, 3) := by decide +kernel
theorem dX3_deliver_20 : decode cX3_deliver 20 = .ok (.athrow, 1) := by decide +kernel
theorem dX3_deliver_21 : decode cX3_deliver 21 = .ok (.aload_n 0, 1) := by decide +kernel
theorem dX3_deliver_22 : decode cX3_deliver 22 = .ok (.iload_n 1, 1) := by decide +kernel
theorem dX3_deliver_23 : decode cX3_deliver 23 = .ok (.invokevirtual 60, 3) := by decide +kernel
theorem dX3_deliver_26 : decode cX3_deliver 26 = .ok (.ireturn, 1) := by decide +kernel
theorem dX3_calm_0 : decode cX3_calm 0 = .ok (.iload_n 1, 1) := by decide +kernel
theorem dX3_calm_1 : decode cX3_calm 1 = .ok (.ifCond .lt 10, 3) := by decide +kernel
theorem dX3_calm_4 : decode cX3_calm 4 = .ok (.iload_n 1, 1) := by decide +kernel
theorem dX3_calm_5 : decode cX3_calm 5 = .ok (.sipush 2000, 3) := by decide +kernel
theorem dX3_calm_8 : decode cX3_calm 8 = .ok (.if_icmp .le 13, 3) := by decide +kernel
theorem dX3_calm_11 : decode cX3_calm 11 = .ok (.new 44, 3) := by decide +kernel
theorem dX3_calm_14 : decode cX3_calm 14 = .ok (.dup, 1) := by decide +kernel
theorem dX3_calm_15 : decode cX3_calm 15 = .ok (.ldc 64, 2) := by decide +kernel
theorem dX3_calm_17 : decode cX3_calm 17 = .ok (.invokespecial 48, 3) := by decide +kernel
theorem dX3_calm_20 : decode cX3_calm 20 = .ok (.athrow, 1) := by decide +kernel
theorem dX3_calm_21 : decode cX3_calm 21 = .ok (.iconst 0, 1) := by decide +kernel
theorem dX3_calm_22 : decode cX3_calm 22 = .ok (.istore_n 2, 1) := by decide +kernel
theorem dX3_calm_23 : decode cX3_calm 23 = .ok (.iload_n 2, 1) := by decide +kernel
theorem dX3_calm_24 : decode cX3_calm 24 = .ok (.iload_n 1, 1) := by decide +kernel
theorem dX3_calm_25 : decode cX3_calm 25 = .ok (.if_icmp .ge 29, 3) := by decide +kernel
theorem dX3_calm_28 : decode cX3_calm 28 = .ok (.aload_n 0, 1) := by decide +kernel
theorem dX3_calm_29 : decode cX3_calm 29 = .ok (.getfield 23, 3) := by decide +kernel
theorem dX3_calm_32 : decode cX3_calm 32 = .ok (.iconst 0, 1) := by decide +kernel
theorem dX3_calm_33 : decode cX3_calm 33 = .ok (.invokevirtual 55, 3) := by decide +kernel
theorem dX3_calm_36 : decode cX3_calm 36 = .ok (.ifCond .eq 18, 3) := by decide +kernel
theorem dX3_calm_39 : decode cX3_calm 39 = .ok (.aload_n 0, 1) := by decide +kernel
theorem dX3_calm_40 : decode cX3_calm 40 = .ok (.iconst 0, 1) := by decide +kernel
theorem dX3_calm_41 : decode cX3_calm 41 = .ok (.invokevirtual 60, 3) := by decide +kernel
theorem dX3_calm_44 : decode cX3_calm 44 = .ok (.iconst (-1), 1) := by decide +kernel
theorem dX3_calm_45 : decode cX3_calm 45 = .ok (.if_icmp .eq 9, 3) := by decide +kernel
theorem dX3_calm_48 : decode cX3_calm 48 = .ok (.iinc 2 1, 3) := by decide +kernel
theorem dX3_calm_51 : decode cX3_calm 51 = .ok (.goto (-28), 3) := by decide +kernel
theorem dX3_calm_54 : decode cX3_calm 54 = .ok (.iload_n 2, 1) := by decide +kernel
theorem dX3_calm_55 : decode cX3_calm 55 = .ok (.ireturn, 1) := by decide +kernel
end
section
theorem dX3_crash_0 : decode cX3_crash 0 = .ok (.aload_n 0, 1) := by decide +kernel
theorem dX3_crash_1 : decode cX3_crash 1 = .ok (.iload_n 1, 1) := by decide +kernel
theorem dX3_crash_2 : decode cX3_crash 2 = .ok (.invokevirtual 33, 3) := by decide +kernel
theorem dX3_crash_5 : decode cX3_crash 5 = .ok (.ifCond .ne 13, 3) := by decide +kernel
theorem dX3_crash_8 : decode cX3_crash 8 = .ok (.new 37, 3) := by decide +kernel
theorem dX3_crash_11 : decode cX3_crash 11 = .ok (.dup, 1) := by decide +kernel
theorem dX3_crash_12 : decode cX3_crash 12 = .ok (.ldc 39, 2) := by decide +kernel
theorem dX3_crash_14 : decode cX3_crash 14 = .ok (.invokespecial 41, 3) := by decide +kernel
theorem dX3_crash_17 : decode cX3_crash 17 = .ok (.athrow, 1) := by decide +kernel
theorem dX3_crash_18 : decode cX3_crash 18 = .ok (.aload_n 0, 1) := by decide +kernel
theorem dX3_crash_19 : decode cX3_crash 19 = .ok (.getfield 11, 3) := by decide +kernel
theorem dX3_crash_22 : decode cX3_crash 22 = .ok (.iload_n 1, 1) := by decide +kernel
theorem dX3_crash_23 : decode cX3_crash 23 = .ok (.aaload, 1) := by decide +kernel
theorem dX3_crash_24 : decode cX3_crash 24 = .ok (.getfield 66, 3) := by decide +kernel
theorem dX3_crash_27 : decode cX3_crash 27 = .ok (.istore_n 2, 1) := by decide +kernel
theorem dX3_crash_28 : decode cX3_crash 28 = .ok (.iload_n 2, 1) := by decide +kernel
theorem dX3_crash_29 : decode cX3_crash 29 = .ok (.ifCond .eq 23, 3) := by decide +kernel
theorem dX3_crash_32 : decode cX3_crash 32 = .ok (.aload_n 0, 1) := by decide +kernel
theorem dX3_crash_33 : decode cX3_crash 33 = .ok (.getfield 11, 3) := by decide +kernel
theorem dX3_crash_36 : decode cX3_crash 36 = .ok (.iload_n 1, 1) := by decide +kernel
theorem dX3_crash_37 : decode cX3_crash 37 = .ok (.aaload, 1) := by decide +kernel
theorem dX3_crash_38 : decode cX3_crash 38 = .ok (.iconst 0, 1) := by decide +kernel
theorem dX3_crash_39 : decode cX3_crash 39 = .ok (.putfield 66, 3) := by decide +kernel
theorem dX3_crash_42 : decode cX3_crash 42 = .ok (.aload_n 0, 1) := by decide +kernel
theorem dX3_crash_43 : decode cX3_crash 43 = .ok (.dup, 1) := by decide +kernel
theorem dX3_crash_44 : decode cX3_crash 44 = .ok (.getfield 70, 3) := by decide +kernel
theorem dX3_crash_47 : decode cX3_crash 47 = .ok (.iconst 1, 1) := by decide +kernel
theorem dX3_crash_48 : decode cX3_crash 48 = .ok (.iadd, 1) := by decide +kernel
theorem dX3_crash_49 : decode cX3_crash 49 = .ok (.putfield 70, 3) := by decide +kernel
theorem dX3_crash_52 : decode cX3_crash 52 = .ok (.iload_n 2, 1) := by decide +kernel
theorem dX3_crash_53 : decode cX3_crash 53 = .ok (.ireturn, 1) := by decide +kernel
theorem dX3_told_0 : decode cX3_told 0 = .ok (.aload_n 0, 1) := by decide +kernel
theorem dX3_told_1 : decode cX3_told 1 = .ok (.iload_n 1, 1) := by decide +kernel
theorem dX3_told_2 : decode cX3_told 2 = .ok (.invokevirtual 74, 3) := by decide +kernel
theorem dX3_told_5 : decode cX3_told 5 = .ok (.astore_n 3, 1) := by decide +kernel
theorem dX3_told_6 : decode cX3_told 6 = .ok (.aload_n 3, 1) := by decide +kernel
theorem dX3_told_7 : decode cX3_told 7 = .ok (.ifnonnull 7, 3) := by decide +kernel
theorem dX3_told_10 : decode cX3_told 10 = .ok (.iconst (-1), 1) := by decide +kernel
theorem dX3_told_11 : decode cX3_told 11 = .ok (.goto 8, 3) := by decide +kernel
theorem dX3_told_14 : decode cX3_told 14 = .ok (.aload_n 3, 1) := by decide +kernel
theorem dX3_told_15 : decode cX3_told 15 = .ok (.iload_n 2, 1) := by decide +kernel
theorem dX3_told_16 : decode cX3_told 16 = .ok (.invokevirtual 78, 3) := by decide +kernel
theorem dX3_told_19 : decode cX3_told 19 = .ok (.ireturn, 1) := by decide +kernel
theorem dX3_answer_0 : decode cX3_answer 0 = .ok (.aload_n 0, 1) := by decide +kernel
theorem dX3_answer_1 : decode cX3_answer 1 = .ok (.iload_n 1, 1) := by decide +kernel
theorem dX3_answer_2 : decode cX3_answer 2 = .ok (.invokevirtual 74, 3) := by decide +kernel
theorem dX3_answer_5 : decode cX3_answer 5 = .ok (.astore_n 2, 1) := by decide +kernel
theorem dX3_answer_6 : decode cX3_answer 6 = .ok (.aload_n 2, 1) := by decide +kernel
theorem dX3_answer_7 : decode cX3_answer 7 = .ok (.ifnull 10, 3) := by decide +kernel
theorem dX3_answer_10 : decode cX3_answer 10 = .ok (.aload_n 2, 1) := by decide +kernel
theorem dX3_answer_11 : decode cX3_answer 11 = .ok (.invokevirtual 81, 3) := by decide +kernel
theorem dX3_answer_14 : decode cX3_answer 14 = .ok (.ifCond .ne 7, 3) := by decide +kernel
theorem dX3_answer_17 : decode cX3_answer 17 = .ok (.lconst 0, 1) := by decide +kernel
theorem dX3_answer_18 : decode cX3_answer 18 = .ok (.goto 8, 3) := by decide +kernel
theorem dX3_answer_21 : decode cX3_answer 21 = .ok (.aload_n 0, 1) := by decide +kernel
theorem dX3_answer_22 : decode cX3_answer 22 = .ok (.aload_n 2, 1) := by decide +kernel
theorem dX3_answer_23 : decode cX3_answer 23 = .ok (.invokevirtual 85, 3) := by decide +kernel
theorem dX3_answer_26 : decode cX3_answer 26 = .ok (.lreturn, 1) := by decide +kernel
theorem dX3_view_0 : decode cX3_view 0 = .ok (.aload_n 0, 1) := by decide +kernel
theorem dX3_view_1 : decode cX3_view 1 = .ok (.iload_n 1, 1) := by decide +kernel
theorem dX3_view_2 : decode cX3_view 2 = .ok (.invokevirtual 74, 3) := by decide +kernel
theorem dX3_view_5 : decode cX3_view 5 = .ok (.astore_n 3, 1) := by decide +kernel
theorem dX3_view_6 : decode cX3_view 6 = .ok (.aload_n 3, 1) := by decide +kernel
theorem dX3_view_7 : decode cX3_view 7 = .ok (.ifnull 18, 3) := by decide +kernel
theorem dX3_view_10 : decode cX3_view 10 = .ok (.aload_n 3, 1) := by decide +kernel
theorem dX3_view_11 : decode cX3_view 11 = .ok (.getfield 89, 3) := by decide +kernel
theorem dX3_view_14 : decode cX3_view 14 = .ok (.ifCond .eq 11, 3) := by decide +kernel
theorem dX3_view_17 : decode cX3_view 17 = .ok (.aload_n 0, 1) := by decide +kernel
theorem dX3_view_18 : decode cX3_view 18 = .ok (.iload_n 2, 1) := by decide +kernel
theorem dX3_view_19 : decode cX3_view 19 = .ok (.invokevirtual 33, 3) := by decide +kernel
theorem dX3_view_22 : decode cX3_view 22 = .ok (.ifCond .ne 7, 3) := by decide +kernel
theorem dX3_view_25 : decode cX3_view 25 = .ok (.iconst (-1), 1) := by decide +kernel
theorem dX3_view_26 : decode cX3_view 26 = .ok (.goto 9, 3) := by decide +kernel
theorem dX3_view_29 : decode cX3_view 29 = .ok (.aload_n 3, 1) := by decide +kernel
theorem dX3_view_30 : decode cX3_view 30 = .ok (.getfield 92, 3) := by decide +kernel
theorem dX3_view_33 : decode cX3_view 33 = .ok (.iload_n 2, 1) := by decide +kernel
theorem dX3_view_34 : decode cX3_view 34 = .ok (.iaload, 1) := by decide +kernel
theorem dX3_view_35 : decode cX3_view 35 = .ok (.ireturn, 1) := by decide +kernel
theorem dX3_node_0 : decode cX3_node 0 = .ok (.aload_n 0, 1) := by decide +kernel
theorem dX3_node_1 : decode cX3_node 1 = .ok (.iload_n 1, 1) := by decide +kernel
theorem dX3_node_2 : decode cX3_node 2 = .ok (.invokevirtual 33, 3) := by decide +kernel
theorem dX3_node_5 : decode cX3_node 5 = .ok (.ifCond .eq 16, 3) := by decide +kernel
theorem dX3_node_8 : decode cX3_node 8 = .ok (.aload_n 0, 1) := by decide +kernel
theorem dX3_node_9 : decode cX3_node 9 = .ok (.getfield 11, 3) := by decide +kernel
theorem dX3_node_12 : decode cX3_node 12 = .ok (.iload_n 1, 1) := by decide +kernel
theorem dX3_node_13 : decode cX3_node 13 = .ok (.aaload, 1) := by decide +kernel
theorem dX3_node_14 : decode cX3_node 14 = .ok (.iload_n 2, 1) := by decide +kernel
theorem dX3_node_15 : decode cX3_node 15 = .ok (.invokevirtual 96, 3) := by decide +kernel
theorem dX3_node_18 : decode cX3_node 18 = .ok (.goto 4, 3) := by decide +kernel
theorem dX3_node_21 : decode cX3_node 21 = .ok (.iconst (-1), 1) := by decide +kernel
theorem dX3_node_22 : decode cX3_node 22 = .ok (.ireturn, 1) := by decide +kernel
theorem dX3_kept_0 : decode cX3_kept 0 = .ok (.aload_n 0, 1) := by decide +kernel
theorem dX3_kept_1 : decode cX3_kept 1 = .ok (.iload_n 1, 1) := by decide +kernel
theorem dX3_kept_2 : decode cX3_kept 2 = .ok (.invokevirtual 33, 3) := by decide +kernel
theorem dX3_kept_5 : decode cX3_kept 5 = .ok (.ifCond .eq 25, 3) := by decide +kernel
theorem dX3_kept_8 : decode cX3_kept 8 = .ok (.aload_n 0, 1) := by decide +kernel
theorem dX3_kept_9 : decode cX3_kept 9 = .ok (.iload_n 2, 1) := by decide +kernel
theorem dX3_kept_10 : decode cX3_kept 10 = .ok (.invokevirtual 33, 3) := by decide +kernel
theorem dX3_kept_13 : decode cX3_kept 13 = .ok (.ifCond .eq 17, 3) := by decide +kernel
theorem dX3_kept_16 : decode cX3_kept 16 = .ok (.aload_n 0, 1) := by decide +kernel
theorem dX3_kept_17 : decode cX3_kept 17 = .ok (.getfield 11, 3) := by decide +kernel
theorem dX3_kept_20 : decode cX3_kept 20 = .ok (.iload_n 1, 1) := by decide +kernel
theorem dX3_kept_21 : decode cX3_kept 21 = .ok (.aaload, 1) := by decide +kernel
theorem dX3_kept_22 : decode cX3_kept 22 = .ok (.getfield 97, 3) := by decide +kernel
theorem dX3_kept_25 : decode cX3_kept 25 = .ok (.iload_n 2, 1) := by decide +kernel
theorem dX3_kept_26 : decode cX3_kept 26 = .ok (.iaload, 1) := by decide +kernel
theorem dX3_kept_27 : decode cX3_kept 27 = .ok (.goto 4, 3) := by decide +kernel
theorem dX3_kept_30 : decode cX3_kept 30 = .ok (.iconst (-1), 1) := by decide +kernel
theorem dX3_kept_31 : decode cX3_kept 31 = .ok (.ireturn, 1) := by decide +kernel
theorem dX3_message_0 : decode cX3_message 0 = .ok (.aload_n 0, 1) := by decide +kernel
theorem dX3_message_1 : decode cX3_message 1 = .ok (.getfield 23, 3) := by decide +kernel
theorem dX3_message_4 : decode cX3_message 4 = .ok (.iload_n 1, 1) := by decide +kernel
theorem dX3_message_5 : decode cX3_message 5 = .ok (.invokevirtual 55, 3) := by decide +kernel
theorem dX3_message_8 : decode cX3_message 8 = .ok (.ifCond .eq 15, 3) := by decide +kernel
theorem dX3_message_11 : decode cX3_message 11 = .ok (.aload_n 0, 1) := by decide +kernel
theorem dX3_message_12 : decode cX3_message 12 = .ok (.getfield 23, 3) := by decide +kernel
theorem dX3_message_15 : decode cX3_message 15 = .ok (.iload_n 1, 1) := by decide +kernel
theorem dX3_message_16 : decode cX3_message 16 = .ok (.iload_n 2, 1) := by decide +kernel
theorem dX3_message_17 : decode cX3_message 17 = .ok (.invokevirtual 100, 3) := by decide +kernel
theorem dX3_message_20 : decode cX3_message 20 = .ok (.goto 4, 3) := by decide +kernel
theorem dX3_message_23 : decode cX3_message 23 = .ok (.iconst (-1), 1) := by decide +kernel
theorem dX3_message_24 : decode cX3_message 24 = .ok (.ireturn, 1) := by decide +kernel
theorem dX3_vector_0 : decode cX3_vector 0 = .ok (.aload_n 0, 1) := by decide +kernel
theorem dX3_vector_1 : decode cX3_vector 1 = .ok (.getfield 23, 3) := by decide +kernel
theorem dX3_vector_4 : decode cX3_vector 4 = .ok (.iload_n 1, 1) := by decide +kernel
theorem dX3_vector_5 : decode cX3_vector 5 = .ok (.invokevirtual 55, 3) := by decide +kernel
theorem dX3_vector_8 : decode cX3_vector 8 = .ok (.ifCond .eq 23, 3) := by decide +kernel
theorem dX3_vector_11 : decode cX3_vector 11 = .ok (.aload_n 0, 1) := by decide +kernel
theorem dX3_vector_12 : decode cX3_vector 12 = .ok (.iload_n 2, 1) := by decide +kernel
theorem dX3_vector_13 : decode cX3_vector 13 = .ok (.invokevirtual 33, 3) := by decide +kernel
theorem dX3_vector_16 : decode cX3_vector 16 = .ok (.ifCond .eq 15, 3) := by decide +kernel
theorem dX3_vector_19 : decode cX3_vector 19 = .ok (.aload_n 0, 1) := by decide +kernel
theorem dX3_vector_20 : decode cX3_vector 20 = .ok (.getfield 23, 3) := by decide +kernel
theorem dX3_vector_23 : decode cX3_vector 23 = .ok (.iload_n 1, 1) := by decide +kernel
theorem dX3_vector_24 : decode cX3_vector 24 = .ok (.iload_n 2, 1) := by decide +kernel
theorem dX3_vector_25 : decode cX3_vector 25 = .ok (.invokevirtual 103, 3) := by decide +kernel
theorem dX3_vector_28 : decode cX3_vector 28 = .ok (.goto 4, 3) := by decide +kernel
theorem dX3_vector_31 : decode cX3_vector 31 = .ok (.iconst (-1), 1) := by decide +kernel
theorem dX3_vector_32 : decode cX3_vector 32 = .ok (.ireturn, 1) := by decide +kernel
theorem dX3_count_0 : decode cX3_count 0 = .ok (.iload_n 1, 1) := by decide +kernel
theorem dX3_count_1 : decode cX3_count 1 = .ok (.tableswitch 112 0 9 #[55, 61, 66, 74, 82, 87, 92, 97, 102, 107], 55) := by decide +kernel
theorem dX3_count_56 : decode cX3_count 56 = .ok (.aload_n 0, 1) := by decide +kernel
theorem dX3_count_57 : decode cX3_count 57 = .ok (.getfield 11, 3) := by decide +kernel
theorem dX3_count_60 : decode cX3_count 60 = .ok (.arraylength, 1) := by decide +kernel
theorem dX3_count_61 : decode cX3_count 61 = .ok (.ireturn, 1) := by decide +kernel
theorem dX3_count_62 : decode cX3_count 62 = .ok (.aload_n 0, 1) := by decide +kernel
theorem dX3_count_63 : decode cX3_count 63 = .ok (.invokevirtual 106, 3) := by decide +kernel
theorem dX3_count_66 : decode cX3_count 66 = .ok (.ireturn, 1) := by decide +kernel
theorem dX3_count_67 : decode cX3_count 67 = .ok (.aload_n 0, 1) := by decide +kernel
theorem dX3_count_68 : decode cX3_count 68 = .ok (.getfield 23, 3) := by decide +kernel
theorem dX3_count_71 : decode cX3_count 71 = .ok (.getfield 110, 3) := by decide +kernel
theorem dX3_count_74 : decode cX3_count 74 = .ok (.ireturn, 1) := by decide +kernel
theorem dX3_count_75 : decode cX3_count 75 = .ok (.aload_n 0, 1) := by decide +kernel
theorem dX3_count_76 : decode cX3_count 76 = .ok (.getfield 23, 3) := by decide +kernel
theorem dX3_count_79 : decode cX3_count 79 = .ok (.getfield 113, 3) := by decide +kernel
theorem dX3_count_82 : decode cX3_count 82 = .ok (.ireturn, 1) := by decide +kernel
theorem dX3_count_83 : decode cX3_count 83 = .ok (.aload_n 0, 1) := by decide +kernel
theorem dX3_count_84 : decode cX3_count 84 = .ok (.getfield 116, 3) := by decide +kernel
theorem dX3_count_87 : decode cX3_count 87 = .ok (.ireturn, 1) := by decide +kernel
theorem dX3_count_88 : decode cX3_count 88 = .ok (.aload_n 0, 1) := by decide +kernel
theorem dX3_count_89 : decode cX3_count 89 = .ok (.getfield 119, 3) := by decide +kernel
theorem dX3_count_92 : decode cX3_count 92 = .ok (.ireturn, 1) := by decide +kernel
theorem dX3_count_93 : decode cX3_count 93 = .ok (.aload_n 0, 1) := by decide +kernel
theorem dX3_count_94 : decode cX3_count 94 = .ok (.getfield 122, 3) := by decide +kernel
theorem dX3_count_97 : decode cX3_count 97 = .ok (.ireturn, 1) := by decide +kernel
theorem dX3_count_98 : decode cX3_count 98 = .ok (.aload_n 0, 1) := by decide +kernel
theorem dX3_count_99 : decode cX3_count 99 = .ok (.getfield 70, 3) := by decide +kernel
theorem dX3_count_102 : decode cX3_count 102 = .ok (.ireturn, 1) := by decide +kernel
theorem dX3_count_103 : decode cX3_count 103 = .ok (.aload_n 0, 1) := by decide +kernel
theorem dX3_count_104 : decode cX3_count 104 = .ok (.getfield 125, 3) := by decide +kernel
theorem dX3_count_107 : decode cX3_count 107 = .ok (.ireturn, 1) := by decide +kernel
theorem dX3_count_108 : decode cX3_count 108 = .ok (.aload_n 0, 1) := by decide +kernel
theorem dX3_count_109 : decode cX3_count 109 = .ok (.getfield 128, 3) := by decide +kernel
theorem dX3_count_112 : decode cX3_count 112 = .ok (.ireturn, 1) := by decide +kernel
theorem dX3_count_113 : decode cX3_count 113 = .ok (.iconst (-1), 1) := by decide +kernel
theorem dX3_count_114 : decode cX3_count 114 = .ok (.ireturn, 1) := by decide +kernel
theorem dX3_astray_0 : decode cX3_astray 0 = .ok (.iconst 0, 1) := by decide +kernel
theorem dX3_astray_1 : decode cX3_astray 1 = .ok (.istore_n 1, 1) := by decide +kernel
theorem dX3_astray_2 : decode cX3_astray 2 = .ok (.iconst 1, 1) := by decide +kernel
theorem dX3_astray_3 : decode cX3_astray 3 = .ok (.istore_n 2, 1) := by decide +kernel
theorem dX3_astray_4 : decode cX3_astray 4 = .ok (.iload_n 2, 1) := by decide +kernel
theorem dX3_astray_5 : decode cX3_astray 5 = .ok (.aload_n 0, 1) := by decide +kernel
theorem dX3_astray_6 : decode cX3_astray 6 = .ok (.getfield 119, 3) := by decide +kernel
theorem dX3_astray_9 : decode cX3_astray 9 = .ok (.if_icmp .gt 91, 3) := by decide +kernel
theorem dX3_astray_12 : decode cX3_astray 12 = .ok (.aload_n 0, 1) := by decide +kernel
theorem dX3_astray_13 : decode cX3_astray 13 = .ok (.iload_n 2, 1) := by decide +kernel
theorem dX3_astray_14 : decode cX3_astray 14 = .ok (.invokevirtual 74, 3) := by decide +kernel
theorem dX3_astray_17 : decode cX3_astray 17 = .ok (.astore_n 3, 1) := by decide +kernel
theorem dX3_astray_18 : decode cX3_astray 18 = .ok (.aload_n 3, 1) := by decide +kernel
theorem dX3_astray_19 : decode cX3_astray 19 = .ok (.ifnull 75, 3) := by decide +kernel
theorem dX3_astray_22 : decode cX3_astray 22 = .ok (.aload_n 3, 1) := by decide +kernel
theorem dX3_astray_23 : decode cX3_astray 23 = .ok (.getfield 89, 3) := by decide +kernel
theorem dX3_astray_26 : decode cX3_astray 26 = .ok (.ifCond .ne 6, 3) := by decide +kernel
theorem dX3_astray_29 : decode cX3_astray 29 = .ok (.goto 65, 3) := by decide +kernel
theorem dX3_astray_32 : decode cX3_astray 32 = .ok (.aload_n 0, 1) := by decide +kernel
theorem dX3_astray_33 : decode cX3_astray 33 = .ok (.aload_n 3, 1) := by decide +kernel
theorem dX3_astray_34 : decode cX3_astray 34 = .ok (.invokevirtual 131, 3) := by decide +kernel
theorem dX3_astray_37 : decode cX3_astray 37 = .ok (.ifCond .eq 6, 3) := by decide +kernel
theorem dX3_astray_40 : decode cX3_astray 40 = .ok (.iinc 1 1, 3) := by decide +kernel
theorem dX3_astray_43 : decode cX3_astray 43 = .ok (.iload_n 2, 1) := by decide +kernel
theorem dX3_astray_44 : decode cX3_astray 44 = .ok (.iconst 1, 1) := by decide +kernel
theorem dX3_astray_45 : decode cX3_astray 45 = .ok (.iadd, 1) := by decide +kernel
theorem dX3_astray_46 : decode cX3_astray 46 = .ok (.istore 4, 2) := by decide +kernel
theorem dX3_astray_48 : decode cX3_astray 48 = .ok (.iload 4, 2) := by decide +kernel
theorem dX3_astray_50 : decode cX3_astray 50 = .ok (.aload_n 0, 1) := by decide +kernel
theorem dX3_astray_51 : decode cX3_astray 51 = .ok (.getfield 119, 3) := by decide +kernel
theorem dX3_astray_54 : decode cX3_astray 54 = .ok (.if_icmp .gt 40, 3) := by decide +kernel
theorem dX3_astray_57 : decode cX3_astray 57 = .ok (.aload_n 0, 1) := by decide +kernel
theorem dX3_astray_58 : decode cX3_astray 58 = .ok (.iload 4, 2) := by decide +kernel
theorem dX3_astray_60 : decode cX3_astray 60 = .ok (.invokevirtual 74, 3) := by decide +kernel
theorem dX3_astray_63 : decode cX3_astray 63 = .ok (.astore 5, 2) := by decide +kernel
theorem dX3_astray_65 : decode cX3_astray 65 = .ok (.aload 5, 2) := by decide +kernel
theorem dX3_astray_67 : decode cX3_astray 67 = .ok (.ifnull 21, 3) := by decide +kernel
theorem dX3_astray_70 : decode cX3_astray 70 = .ok (.aload 5, 2) := by decide +kernel
theorem dX3_astray_72 : decode cX3_astray 72 = .ok (.getfield 89, 3) := by decide +kernel
theorem dX3_astray_75 : decode cX3_astray 75 = .ok (.ifCond .eq 13, 3) := by decide +kernel
theorem dX3_astray_78 : decode cX3_astray 78 = .ok (.iload_n 1, 1) := by decide +kernel
theorem dX3_astray_79 : decode cX3_astray 79 = .ok (.aload_n 0, 1) := by decide +kernel
theorem dX3_astray_80 : decode cX3_astray 80 = .ok (.aload_n 3, 1) := by decide +kernel
theorem dX3_astray_81 : decode cX3_astray 81 = .ok (.aload 5, 2) := by decide +kernel
theorem dX3_astray_83 : decode cX3_astray 83 = .ok (.invokevirtual 135, 3) := by decide +kernel
theorem dX3_astray_86 : decode cX3_astray 86 = .ok (.iadd, 1) := by decide +kernel
theorem dX3_astray_87 : decode cX3_astray 87 = .ok (.istore_n 1, 1) := by decide +kernel
theorem dX3_astray_88 : decode cX3_astray 88 = .ok (.iinc 4 1, 3) := by decide +kernel
theorem dX3_astray_91 : decode cX3_astray 91 = .ok (.goto (-43), 3) := by decide +kernel
theorem dX3_astray_94 : decode cX3_astray 94 = .ok (.iinc 2 1, 3) := by decide +kernel
theorem dX3_astray_97 : decode cX3_astray 97 = .ok (.goto (-93), 3) := by decide +kernel
theorem dX3_astray_100 : decode cX3_astray 100 = .ok (.iload_n 1, 1) := by decide +kernel
theorem dX3_astray_101 : decode cX3_astray 101 = .ok (.ireturn, 1) := by decide +kernel
theorem dX3_isNode_0 : decode cX3_isNode 0 = .ok (.iload_n 1, 1) := by decide +kernel
theorem dX3_isNode_1 : decode cX3_isNode 1 = .ok (.ifCond .lt 16, 3) := by decide +kernel
theorem dX3_isNode_4 : decode cX3_isNode 4 = .ok (.iload_n 1, 1) := by decide +kernel
theorem dX3_isNode_5 : decode cX3_isNode 5 = .ok (.aload_n 0, 1) := by decide +kernel
theorem dX3_isNode_6 : decode cX3_isNode 6 = .ok (.getfield 11, 3) := by decide +kernel
theorem dX3_isNode_9 : decode cX3_isNode 9 = .ok (.arraylength, 1) := by decide +kernel
theorem dX3_isNode_10 : decode cX3_isNode 10 = .ok (.if_icmp .ge 7, 3) := by decide +kernel
theorem dX3_isNode_13 : decode cX3_isNode 13 = .ok (.iconst 1, 1) := by decide +kernel
theorem dX3_isNode_14 : decode cX3_isNode 14 = .ok (.goto 4, 3) := by decide +kernel
theorem dX3_isNode_17 : decode cX3_isNode 17 = .ok (.iconst 0, 1) := by decide +kernel
theorem dX3_isNode_18 : decode cX3_isNode 18 = .ok (.ireturn, 1) := by decide +kernel
theorem dX3_find_0 : decode cX3_find 0 = .ok (.iload_n 1, 1) := by decide +kernel
theorem dX3_find_1 : decode cX3_find 1 = .ok (.iconst 1, 1) := by decide +kernel
theorem dX3_find_2 : decode cX3_find 2 = .ok (.if_icmp .lt 11, 3) := by decide +kernel
theorem dX3_find_5 : decode cX3_find 5 = .ok (.iload_n 1, 1) := by decide +kernel
theorem dX3_find_6 : decode cX3_find 6 = .ok (.aload_n 0, 1) := by decide +kernel
theorem dX3_find_7 : decode cX3_find 7 = .ok (.getfield 119, 3) := by decide +kernel
theorem dX3_find_10 : decode cX3_find 10 = .ok (.if_icmp .le 7, 3) := by decide +kernel
theorem dX3_find_13 : decode cX3_find 13 = .ok (.aconst_null, 1) := by decide +kernel
theorem dX3_find_14 : decode cX3_find 14 = .ok (.goto 9, 3) := by decide +kernel
theorem dX3_find_17 : decode cX3_find 17 = .ok (.aload_n 0, 1) := by decide +kernel
theorem dX3_find_18 : decode cX3_find 18 = .ok (.getfield 29, 3) := by decide +kernel
theorem dX3_find_21 : decode cX3_find 21 = .ok (.iload_n 1, 1) := by decide +kernel
theorem dX3_find_22 : decode cX3_find 22 = .ok (.aaload, 1) := by decide +kernel
theorem dX3_find_23 : decode cX3_find 23 = .ok (.areturn, 1) := by decide +kernel
theorem dX3_nodesUp_0 : decode cX3_nodesUp 0 = .ok (.iconst 0, 1) := by decide +kernel
theorem dX3_nodesUp_1 : decode cX3_nodesUp 1 = .ok (.istore_n 1, 1) := by decide +kernel
theorem dX3_nodesUp_2 : decode cX3_nodesUp 2 = .ok (.aload_n 0, 1) := by decide +kernel
theorem dX3_nodesUp_3 : decode cX3_nodesUp 3 = .ok (.getfield 11, 3) := by decide +kernel
theorem dX3_nodesUp_6 : decode cX3_nodesUp 6 = .ok (.astore_n 2, 1) := by decide +kernel
theorem dX3_nodesUp_7 : decode cX3_nodesUp 7 = .ok (.aload_n 2, 1) := by decide +kernel
theorem dX3_nodesUp_8 : decode cX3_nodesUp 8 = .ok (.arraylength, 1) := by decide +kernel
theorem dX3_nodesUp_9 : decode cX3_nodesUp 9 = .ok (.istore_n 3, 1) := by decide +kernel
theorem dX3_nodesUp_10 : decode cX3_nodesUp 10 = .ok (.iconst 0, 1) := by decide +kernel
theorem dX3_nodesUp_11 : decode cX3_nodesUp 11 = .ok (.istore 4, 2) := by decide +kernel
theorem dX3_nodesUp_13 : decode cX3_nodesUp 13 = .ok (.iload 4, 2) := by decide +kernel
theorem dX3_nodesUp_15 : decode cX3_nodesUp 15 = .ok (.iload_n 3, 1) := by decide +kernel
theorem dX3_nodesUp_16 : decode cX3_nodesUp 16 = .ok (.if_icmp .ge 26, 3) := by decide +kernel
theorem dX3_nodesUp_19 : decode cX3_nodesUp 19 = .ok (.aload_n 2, 1) := by decide +kernel
theorem dX3_nodesUp_20 : decode cX3_nodesUp 20 = .ok (.iload 4, 2) := by decide +kernel
theorem dX3_nodesUp_22 : decode cX3_nodesUp 22 = .ok (.aaload, 1) := by decide +kernel
theorem dX3_nodesUp_23 : decode cX3_nodesUp 23 = .ok (.astore 5, 2) := by decide +kernel
theorem dX3_nodesUp_25 : decode cX3_nodesUp 25 = .ok (.aload 5, 2) := by decide +kernel
theorem dX3_nodesUp_27 : decode cX3_nodesUp 27 = .ok (.getfield 66, 3) := by decide +kernel
theorem dX3_nodesUp_30 : decode cX3_nodesUp 30 = .ok (.ifCond .eq 6, 3) := by decide +kernel
theorem dX3_nodesUp_33 : decode cX3_nodesUp 33 = .ok (.iinc 1 1, 3) := by decide +kernel
theorem dX3_nodesUp_36 : decode cX3_nodesUp 36 = .ok (.iinc 4 1, 3) := by decide +kernel
theorem dX3_nodesUp_39 : decode cX3_nodesUp 39 = .ok (.goto (-26), 3) := by decide +kernel
theorem dX3_nodesUp_42 : decode cX3_nodesUp 42 = .ok (.iload_n 1, 1) := by decide +kernel
theorem dX3_nodesUp_43 : decode cX3_nodesUp 43 = .ok (.ireturn, 1) := by decide +kernel
theorem dX3_begin_0 : decode cX3_begin 0 = .ok (.aload_n 0, 1) := by decide +kernel
theorem dX3_begin_1 : decode cX3_begin 1 = .ok (.getfield 11, 3) := by decide +kernel
theorem dX3_begin_4 : decode cX3_begin 4 = .ok (.iload_n 1, 1) := by decide +kernel
theorem dX3_begin_5 : decode cX3_begin 5 = .ok (.aaload, 1) := by decide +kernel
theorem dX3_begin_6 : decode cX3_begin 6 = .ok (.astore 5, 2) := by decide +kernel
theorem dX3_begin_8 : decode cX3_begin 8 = .ok (.aload 5, 2) := by decide +kernel
theorem dX3_begin_10 : decode cX3_begin 10 = .ok (.getfield 66, 3) := by decide +kernel
theorem dX3_begin_13 : decode cX3_begin 13 = .ok (.ifCond .eq 36, 3) := by decide +kernel
theorem dX3_begin_16 : decode cX3_begin 16 = .ok (.aload 5, 2) := by decide +kernel
theorem dX3_begin_18 : decode cX3_begin 18 = .ok (.getfield 139, 3) := by decide +kernel
theorem dX3_begin_21 : decode cX3_begin 21 = .ok (.ifnonnull 28, 3) := by decide +kernel
theorem dX3_begin_24 : decode cX3_begin 24 = .ok (.aload_n 0, 1) := by decide +kernel
theorem dX3_begin_25 : decode cX3_begin 25 = .ok (.getfield 119, 3) := by decide +kernel
theorem dX3_begin_28 : decode cX3_begin 28 = .ok (.sipush 511, 3) := by decide +kernel
theorem dX3_begin_31 : decode cX3_begin 31 = .ok (.if_icmp .ge 18, 3) := by decide +kernel
theorem dX3_begin_34 : decode cX3_begin 34 = .ok (.aload_n 0, 1) := by decide +kernel
theorem dX3_begin_35 : decode cX3_begin 35 = .ok (.getfield 23, 3) := by decide +kernel
theorem dX3_begin_38 : decode cX3_begin 38 = .ok (.aload_n 0, 1) := by decide +kernel
theorem dX3_begin_39 : decode cX3_begin 39 = .ok (.getfield 11, 3) := by decide +kernel
theorem dX3_begin_42 : decode cX3_begin 42 = .ok (.arraylength, 1) := by decide +kernel
theorem dX3_begin_43 : decode cX3_begin 43 = .ok (.invokevirtual 143, 3) := by decide +kernel
theorem dX3_begin_46 : decode cX3_begin 46 = .ok (.ifCond .ne 5, 3) := by decide +kernel
theorem dX3_begin_49 : decode cX3_begin 49 = .ok (.iconst (-1), 1) := by decide +kernel
theorem dX3_begin_50 : decode cX3_begin 50 = .ok (.ireturn, 1) := by decide +kernel
theorem dX3_begin_51 : decode cX3_begin 51 = .ok (.aload_n 0, 1) := by decide +kernel
theorem dX3_begin_52 : decode cX3_begin 52 = .ok (.dup, 1) := by decide +kernel
theorem dX3_begin_53 : decode cX3_begin 53 = .ok (.getfield 70, 3) := by decide +kernel
theorem dX3_begin_56 : decode cX3_begin 56 = .ok (.iconst 1, 1) := by decide +kernel
theorem dX3_begin_57 : decode cX3_begin 57 = .ok (.iadd, 1) := by decide +kernel
theorem dX3_begin_58 : decode cX3_begin 58 = .ok (.putfield 70, 3) := by decide +kernel
theorem dX3_begin_61 : decode cX3_begin 61 = .ok (.aload_n 0, 1) := by decide +kernel
theorem dX3_begin_62 : decode cX3_begin 62 = .ok (.dup, 1) := by decide +kernel
theorem dX3_begin_63 : decode cX3_begin 63 = .ok (.getfield 119, 3) := by decide +kernel
theorem dX3_begin_66 : decode cX3_begin 66 = .ok (.iconst 1, 1) := by decide +kernel
theorem dX3_begin_67 : decode cX3_begin 67 = .ok (.iadd, 1) := by decide +kernel
theorem dX3_begin_68 : decode cX3_begin 68 = .ok (.putfield 119, 3) := by decide +kernel
theorem dX3_begin_71 : decode cX3_begin 71 = .ok (.new 27, 3) := by decide +kernel
theorem dX3_begin_74 : decode cX3_begin 74 = .ok (.dup, 1) := by decide +kernel
theorem dX3_begin_75 : decode cX3_begin 75 = .ok (.aload_n 0, 1) := by decide +kernel
theorem dX3_begin_76 : decode cX3_begin 76 = .ok (.getfield 119, 3) := by decide +kernel
theorem dX3_begin_79 : decode cX3_begin 79 = .ok (.iload_n 1, 1) := by decide +kernel
theorem dX3_begin_80 : decode cX3_begin 80 = .ok (.iload_n 2, 1) := by decide +kernel
theorem dX3_begin_81 : decode cX3_begin 81 = .ok (.iload_n 3, 1) := by decide +kernel
theorem dX3_begin_82 : decode cX3_begin 82 = .ok (.iload 4, 2) := by decide +kernel
theorem dX3_begin_84 : decode cX3_begin 84 = .ok (.aload_n 0, 1) := by decide +kernel
theorem dX3_begin_85 : decode cX3_begin 85 = .ok (.getfield 70, 3) := by decide +kernel
theorem dX3_begin_88 : decode cX3_begin 88 = .ok (.aload_n 0, 1) := by decide +kernel
theorem dX3_begin_89 : decode cX3_begin 89 = .ok (.getfield 11, 3) := by decide +kernel
theorem dX3_begin_92 : decode cX3_begin 92 = .ok (.arraylength, 1) := by decide +kernel
theorem dX3_begin_93 : decode cX3_begin 93 = .ok (.invokespecial 146, 3) := by decide +kernel
theorem dX3_begin_96 : decode cX3_begin 96 = .ok (.astore 6, 2) := by decide +kernel
theorem dX3_begin_98 : decode cX3_begin 98 = .ok (.aload_n 0, 1) := by decide +kernel
theorem dX3_begin_99 : decode cX3_begin 99 = .ok (.getfield 29, 3) := by decide +kernel
theorem dX3_begin_102 : decode cX3_begin 102 = .ok (.aload_n 0, 1) := by decide +kernel
theorem dX3_begin_103 : decode cX3_begin 103 = .ok (.getfield 119, 3) := by decide +kernel
theorem dX3_begin_106 : decode cX3_begin 106 = .ok (.aload 6, 2) := by decide +kernel
theorem dX3_begin_108 : decode cX3_begin 108 = .ok (.aastore, 1) := by decide +kernel
theorem dX3_begin_109 : decode cX3_begin 109 = .ok (.aload 5, 2) := by decide +kernel
theorem dX3_begin_111 : decode cX3_begin 111 = .ok (.aload 6, 2) := by decide +kernel
theorem dX3_begin_113 : decode cX3_begin 113 = .ok (.invokevirtual 149, 3) := by decide +kernel
theorem dX3_begin_116 : decode cX3_begin 116 = .ok (.aload_n 0, 1) := by decide +kernel
theorem dX3_begin_117 : decode cX3_begin 117 = .ok (.aload 5, 2) := by decide +kernel
theorem dX3_begin_119 : decode cX3_begin 119 = .ok (.invokevirtual 153, 3) := by decide +kernel
theorem dX3_begin_122 : decode cX3_begin 122 = .ok (.aload_n 0, 1) := by decide +kernel
theorem dX3_begin_123 : decode cX3_begin 123 = .ok (.getfield 119, 3) := by decide +kernel
theorem dX3_begin_126 : decode cX3_begin 126 = .ok (.ireturn, 1) := by decide +kernel
theorem dX3_come_0 : decode cX3_come 0 = .ok (.aload_n 0, 1) := by decide +kernel
theorem dX3_come_1 : decode cX3_come 1 = .ok (.getfield 23, 3) := by decide +kernel
theorem dX3_come_4 : decode cX3_come 4 = .ok (.iload_n 1, 1) := by decide +kernel
theorem dX3_come_5 : decode cX3_come 5 = .ok (.invokevirtual 157, 3) := by decide +kernel
theorem dX3_come_8 : decode cX3_come 8 = .ok (.istore_n 2, 1) := by decide +kernel
theorem dX3_come_9 : decode cX3_come 9 = .ok (.aload_n 0, 1) := by decide +kernel
theorem dX3_come_10 : decode cX3_come 10 = .ok (.getfield 23, 3) := by decide +kernel
theorem dX3_come_13 : decode cX3_come 13 = .ok (.getfield 160, 3) := by decide +kernel
theorem dX3_come_16 : decode cX3_come 16 = .ok (.iload_n 2, 1) := by decide +kernel
theorem dX3_come_17 : decode cX3_come 17 = .ok (.iaload, 1) := by decide +kernel
theorem dX3_come_18 : decode cX3_come 18 = .ok (.istore_n 3, 1) := by decide +kernel
theorem dX3_come_19 : decode cX3_come 19 = .ok (.aload_n 0, 1) := by decide +kernel
theorem dX3_come_20 : decode cX3_come 20 = .ok (.getfield 11, 3) := by decide +kernel
theorem dX3_come_23 : decode cX3_come 23 = .ok (.aload_n 0, 1) := by decide +kernel
theorem dX3_come_24 : decode cX3_come 24 = .ok (.getfield 23, 3) := by decide +kernel
theorem dX3_come_27 : decode cX3_come 27 = .ok (.getfield 163, 3) := by decide +kernel
theorem dX3_come_30 : decode cX3_come 30 = .ok (.iload_n 2, 1) := by decide +kernel
theorem dX3_come_31 : decode cX3_come 31 = .ok (.iaload, 1) := by decide +kernel
theorem dX3_come_32 : decode cX3_come 32 = .ok (.aaload, 1) := by decide +kernel
theorem dX3_come_33 : decode cX3_come 33 = .ok (.astore 4, 2) := by decide +kernel
theorem dX3_come_35 : decode cX3_come 35 = .ok (.aload_n 0, 1) := by decide +kernel
theorem dX3_come_36 : decode cX3_come 36 = .ok (.getfield 23, 3) := by decide +kernel
theorem dX3_come_39 : decode cX3_come 39 = .ok (.aload_n 0, 1) := by decide +kernel
theorem dX3_come_40 : decode cX3_come 40 = .ok (.aload 4, 2) := by decide +kernel
theorem dX3_come_42 : decode cX3_come 42 = .ok (.iload_n 2, 1) := by decide +kernel
theorem dX3_come_43 : decode cX3_come 43 = .ok (.invokevirtual 166, 3) := by decide +kernel
theorem dX3_come_46 : decode cX3_come 46 = .ok (.iconst 1, 1) := by decide +kernel
theorem dX3_come_47 : decode cX3_come 47 = .ok (.isub, 1) := by decide +kernel
theorem dX3_come_48 : decode cX3_come 48 = .ok (.invokevirtual 143, 3) := by decide +kernel
theorem dX3_come_51 : decode cX3_come 51 = .ok (.ifCond .ne 5, 3) := by decide +kernel
theorem dX3_come_54 : decode cX3_come 54 = .ok (.iconst (-1), 1) := by decide +kernel
theorem dX3_come_55 : decode cX3_come 55 = .ok (.ireturn, 1) := by decide +kernel
theorem dX3_come_56 : decode cX3_come 56 = .ok (.aload_n 0, 1) := by decide +kernel
theorem dX3_come_57 : decode cX3_come 57 = .ok (.getfield 23, 3) := by decide +kernel
theorem dX3_come_60 : decode cX3_come 60 = .ok (.iload_n 1, 1) := by decide +kernel
theorem dX3_come_61 : decode cX3_come 61 = .ok (.invokevirtual 170, 3) := by decide +kernel
theorem dX3_come_64 : decode cX3_come 64 = .ok (.aload_n 0, 1) := by decide +kernel
theorem dX3_come_65 : decode cX3_come 65 = .ok (.dup, 1) := by decide +kernel
theorem dX3_come_66 : decode cX3_come 66 = .ok (.getfield 116, 3) := by decide +kernel
theorem dX3_come_69 : decode cX3_come 69 = .ok (.iconst 1, 1) := by decide +kernel
theorem dX3_come_70 : decode cX3_come 70 = .ok (.iadd, 1) := by decide +kernel
theorem dX3_come_71 : decode cX3_come 71 = .ok (.putfield 116, 3) := by decide +kernel
theorem dX3_come_74 : decode cX3_come 74 = .ok (.aload_n 0, 1) := by decide +kernel
theorem dX3_come_75 : decode cX3_come 75 = .ok (.dup, 1) := by decide +kernel
theorem dX3_come_76 : decode cX3_come 76 = .ok (.getfield 70, 3) := by decide +kernel
theorem dX3_come_79 : decode cX3_come 79 = .ok (.iconst 1, 1) := by decide +kernel
theorem dX3_come_80 : decode cX3_come 80 = .ok (.iadd, 1) := by decide +kernel
theorem dX3_come_81 : decode cX3_come 81 = .ok (.putfield 70, 3) := by decide +kernel
theorem dX3_come_84 : decode cX3_come 84 = .ok (.aload 4, 2) := by decide +kernel
theorem dX3_come_86 : decode cX3_come 86 = .ok (.getfield 66, 3) := by decide +kernel
theorem dX3_come_89 : decode cX3_come 89 = .ok (.ifCond .ne 5, 3) := by decide +kernel
theorem dX3_come_92 : decode cX3_come 92 = .ok (.iload_n 3, 1) := by decide +kernel
theorem dX3_come_93 : decode cX3_come 93 = .ok (.ireturn, 1) := by decide +kernel
theorem dX3_come_94 : decode cX3_come 94 = .ok (.iload_n 3, 1) := by decide +kernel
theorem dX3_come_95 : decode cX3_come 95 = .ok (.ifCond .ne 42, 3) := by decide +kernel
theorem dX3_come_98 : decode cX3_come 98 = .ok (.aload_n 0, 1) := by decide +kernel
theorem dX3_come_99 : decode cX3_come 99 = .ok (.getfield 23, 3) := by decide +kernel
theorem dX3_come_102 : decode cX3_come 102 = .ok (.iconst 1, 1) := by decide +kernel
theorem dX3_come_103 : decode cX3_come 103 = .ok (.aload 4, 2) := by decide +kernel
theorem dX3_come_105 : decode cX3_come 105 = .ok (.getfield 173, 3) := by decide +kernel
theorem dX3_come_108 : decode cX3_come 108 = .ok (.aload_n 0, 1) := by decide +kernel
theorem dX3_come_109 : decode cX3_come 109 = .ok (.getfield 23, 3) := by decide +kernel
theorem dX3_come_112 : decode cX3_come 112 = .ok (.getfield 176, 3) := by decide +kernel
theorem dX3_come_115 : decode cX3_come 115 = .ok (.iload_n 2, 1) := by decide +kernel
theorem dX3_come_116 : decode cX3_come 116 = .ok (.iaload, 1) := by decide +kernel
theorem dX3_come_117 : decode cX3_come 117 = .ok (.aload_n 0, 1) := by decide +kernel
theorem dX3_come_118 : decode cX3_come 118 = .ok (.getfield 23, 3) := by decide +kernel
theorem dX3_come_121 : decode cX3_come 121 = .ok (.getfield 179, 3) := by decide +kernel
theorem dX3_come_124 : decode cX3_come 124 = .ok (.iload_n 2, 1) := by decide +kernel
theorem dX3_come_125 : decode cX3_come 125 = .ok (.iaload, 1) := by decide +kernel
theorem dX3_come_126 : decode cX3_come 126 = .ok (.aload 4, 2) := by decide +kernel
theorem dX3_come_128 : decode cX3_come 128 = .ok (.getfield 97, 3) := by decide +kernel
theorem dX3_come_131 : decode cX3_come 131 = .ok (.invokevirtual 182, 3) := by decide +kernel
theorem dX3_come_134 : decode cX3_come 134 = .ok (.goto 81, 3) := by decide +kernel
theorem dX3_come_137 : decode cX3_come 137 = .ok (.iload_n 3, 1) := by decide +kernel
theorem dX3_come_138 : decode cX3_come 138 = .ok (.iconst 2, 1) := by decide +kernel
theorem dX3_come_139 : decode cX3_come 139 = .ok (.if_icmp .ne 51, 3) := by decide +kernel
theorem dX3_come_142 : decode cX3_come 142 = .ok (.aload_n 0, 1) := by decide +kernel
theorem dX3_come_143 : decode cX3_come 143 = .ok (.getfield 23, 3) := by decide +kernel
theorem dX3_come_146 : decode cX3_come 146 = .ok (.aload 4, 2) := by decide +kernel
theorem dX3_come_148 : decode cX3_come 148 = .ok (.getfield 97, 3) := by decide +kernel
theorem dX3_come_151 : decode cX3_come 151 = .ok (.iload_n 2, 1) := by decide +kernel
theorem dX3_come_152 : decode cX3_come 152 = .ok (.invokevirtual 186, 3) := by decide +kernel
theorem dX3_come_155 : decode cX3_come 155 = .ok (.aload_n 0, 1) := by decide +kernel
theorem dX3_come_156 : decode cX3_come 156 = .ok (.getfield 23, 3) := by decide +kernel
theorem dX3_come_159 : decode cX3_come 159 = .ok (.iconst 3, 1) := by decide +kernel
theorem dX3_come_160 : decode cX3_come 160 = .ok (.aload 4, 2) := by decide +kernel
theorem dX3_come_162 : decode cX3_come 162 = .ok (.getfield 173, 3) := by decide +kernel
theorem dX3_come_165 : decode cX3_come 165 = .ok (.aload_n 0, 1) := by decide +kernel
theorem dX3_come_166 : decode cX3_come 166 = .ok (.getfield 23, 3) := by decide +kernel
theorem dX3_come_169 : decode cX3_come 169 = .ok (.getfield 176, 3) := by decide +kernel
theorem dX3_come_172 : decode cX3_come 172 = .ok (.iload_n 2, 1) := by decide +kernel
theorem dX3_come_173 : decode cX3_come 173 = .ok (.iaload, 1) := by decide +kernel
theorem dX3_come_174 : decode cX3_come 174 = .ok (.aload_n 0, 1) := by decide +kernel
theorem dX3_come_175 : decode cX3_come 175 = .ok (.getfield 23, 3) := by decide +kernel
theorem dX3_come_178 : decode cX3_come 178 = .ok (.getfield 179, 3) := by decide +kernel
theorem dX3_come_181 : decode cX3_come 181 = .ok (.iload_n 2, 1) := by decide +kernel
theorem dX3_come_182 : decode cX3_come 182 = .ok (.iaload, 1) := by decide +kernel
theorem dX3_come_183 : decode cX3_come 183 = .ok (.aconst_null, 1) := by decide +kernel
theorem dX3_come_184 : decode cX3_come 184 = .ok (.invokevirtual 182, 3) := by decide +kernel
theorem dX3_come_187 : decode cX3_come 187 = .ok (.goto 28, 3) := by decide +kernel
theorem dX3_come_190 : decode cX3_come 190 = .ok (.aload 4, 2) := by decide +kernel
theorem dX3_come_192 : decode cX3_come 192 = .ok (.iload_n 3, 1) := by decide +kernel
theorem dX3_come_193 : decode cX3_come 193 = .ok (.aload_n 0, 1) := by decide +kernel
theorem dX3_come_194 : decode cX3_come 194 = .ok (.getfield 23, 3) := by decide +kernel
theorem dX3_come_197 : decode cX3_come 197 = .ok (.getfield 179, 3) := by decide +kernel
theorem dX3_come_200 : decode cX3_come 200 = .ok (.iload_n 2, 1) := by decide +kernel
theorem dX3_come_201 : decode cX3_come 201 = .ok (.iaload, 1) := by decide +kernel
theorem dX3_come_202 : decode cX3_come 202 = .ok (.invokevirtual 190, 3) := by decide +kernel
theorem dX3_come_205 : decode cX3_come 205 = .ok (.ifCond .eq 10, 3) := by decide +kernel
theorem dX3_come_208 : decode cX3_come 208 = .ok (.aload_n 0, 1) := by decide +kernel
theorem dX3_come_209 : decode cX3_come 209 = .ok (.aload 4, 2) := by decide +kernel
theorem dX3_come_211 : decode cX3_come 211 = .ok (.iload_n 2, 1) := by decide +kernel
theorem dX3_come_212 : decode cX3_come 212 = .ok (.invokevirtual 194, 3) := by decide +kernel
theorem dX3_come_215 : decode cX3_come 215 = .ok (.iload_n 3, 1) := by decide +kernel
theorem dX3_come_216 : decode cX3_come 216 = .ok (.ireturn, 1) := by decide +kernel
theorem dX3_leadsTo_0 : decode cX3_leadsTo 0 = .ok (.aload_n 1, 1) := by decide +kernel
theorem dX3_leadsTo_1 : decode cX3_leadsTo 1 = .ok (.getfield 66, 3) := by decide +kernel
theorem dX3_leadsTo_4 : decode cX3_leadsTo 4 = .ok (.ifCond .ne 5, 3) := by decide +kernel
theorem dX3_leadsTo_7 : decode cX3_leadsTo 7 = .ok (.iconst 0, 1) := by decide +kernel
theorem dX3_leadsTo_8 : decode cX3_leadsTo 8 = .ok (.ireturn, 1) := by decide +kernel
theorem dX3_leadsTo_9 : decode cX3_leadsTo 9 = .ok (.aload_n 0, 1) := by decide +kernel
theorem dX3_leadsTo_10 : decode cX3_leadsTo 10 = .ok (.getfield 23, 3) := by decide +kernel
theorem dX3_leadsTo_13 : decode cX3_leadsTo 13 = .ok (.getfield 160, 3) := by decide +kernel
theorem dX3_leadsTo_16 : decode cX3_leadsTo 16 = .ok (.iload_n 2, 1) := by decide +kernel
theorem dX3_leadsTo_17 : decode cX3_leadsTo 17 = .ok (.iaload, 1) := by decide +kernel
theorem dX3_leadsTo_18 : decode cX3_leadsTo 18 = .ok (.istore_n 3, 1) := by decide +kernel
theorem dX3_leadsTo_19 : decode cX3_leadsTo 19 = .ok (.iload_n 3, 1) := by decide +kernel
theorem dX3_leadsTo_20 : decode cX3_leadsTo 20 = .ok (.ifCond .eq 8, 3) := by decide +kernel
theorem dX3_leadsTo_23 : decode cX3_leadsTo 23 = .ok (.iload_n 3, 1) := by decide +kernel
theorem dX3_leadsTo_24 : decode cX3_leadsTo 24 = .ok (.iconst 2, 1) := by decide +kernel
theorem dX3_leadsTo_25 : decode cX3_leadsTo 25 = .ok (.if_icmp .ne 5, 3) := by decide +kernel
theorem dX3_leadsTo_28 : decode cX3_leadsTo 28 = .ok (.iconst 1, 1) := by decide +kernel
theorem dX3_leadsTo_29 : decode cX3_leadsTo 29 = .ok (.ireturn, 1) := by decide +kernel
theorem dX3_leadsTo_30 : decode cX3_leadsTo 30 = .ok (.aload_n 1, 1) := by decide +kernel
theorem dX3_leadsTo_31 : decode cX3_leadsTo 31 = .ok (.iload_n 3, 1) := by decide +kernel
theorem dX3_leadsTo_32 : decode cX3_leadsTo 32 = .ok (.aload_n 0, 1) := by decide +kernel
theorem dX3_leadsTo_33 : decode cX3_leadsTo 33 = .ok (.getfield 23, 3) := by decide +kernel
theorem dX3_leadsTo_36 : decode cX3_leadsTo 36 = .ok (.getfield 179, 3) := by decide +kernel
theorem dX3_leadsTo_39 : decode cX3_leadsTo 39 = .ok (.iload_n 2, 1) := by decide +kernel
theorem dX3_leadsTo_40 : decode cX3_leadsTo 40 = .ok (.iaload, 1) := by decide +kernel
theorem dX3_leadsTo_41 : decode cX3_leadsTo 41 = .ok (.invokevirtual 190, 3) := by decide +kernel
theorem dX3_leadsTo_44 : decode cX3_leadsTo 44 = .ok (.ifCond .eq 16, 3) := by decide +kernel
theorem dX3_leadsTo_47 : decode cX3_leadsTo 47 = .ok (.aload_n 1, 1) := by decide +kernel
theorem dX3_leadsTo_48 : decode cX3_leadsTo 48 = .ok (.aload_n 1, 1) := by decide +kernel
theorem dX3_leadsTo_49 : decode cX3_leadsTo 49 = .ok (.getfield 198, 3) := by decide +kernel
theorem dX3_leadsTo_52 : decode cX3_leadsTo 52 = .ok (.iconst 1, 1) := by decide +kernel
theorem dX3_leadsTo_53 : decode cX3_leadsTo 53 = .ok (.iadd, 1) := by decide +kernel
theorem dX3_leadsTo_54 : decode cX3_leadsTo 54 = .ok (.invokevirtual 201, 3) := by decide +kernel
theorem dX3_leadsTo_57 : decode cX3_leadsTo 57 = .ok (.ifCond .ne 5, 3) := by decide +kernel
theorem dX3_leadsTo_60 : decode cX3_leadsTo 60 = .ok (.iconst 0, 1) := by decide +kernel
theorem dX3_leadsTo_61 : decode cX3_leadsTo 61 = .ok (.ireturn, 1) := by decide +kernel
theorem dX3_leadsTo_62 : decode cX3_leadsTo 62 = .ok (.aload_n 0, 1) := by decide +kernel
theorem dX3_leadsTo_63 : decode cX3_leadsTo 63 = .ok (.aload_n 1, 1) := by decide +kernel
theorem dX3_leadsTo_64 : decode cX3_leadsTo 64 = .ok (.invokevirtual 204, 3) := by decide +kernel
theorem dX3_leadsTo_67 : decode cX3_leadsTo 67 = .ok (.ifCond .eq 7, 3) := by decide +kernel
theorem dX3_leadsTo_70 : decode cX3_leadsTo 70 = .ok (.iconst 0, 1) := by decide +kernel
theorem dX3_leadsTo_71 : decode cX3_leadsTo 71 = .ok (.goto 8, 3) := by decide +kernel
theorem dX3_leadsTo_74 : decode cX3_leadsTo 74 = .ok (.aload_n 0, 1) := by decide +kernel
theorem dX3_leadsTo_75 : decode cX3_leadsTo 75 = .ok (.getfield 11, 3) := by decide +kernel
theorem dX3_leadsTo_78 : decode cX3_leadsTo 78 = .ok (.arraylength, 1) := by decide +kernel
theorem dX3_leadsTo_79 : decode cX3_leadsTo 79 = .ok (.ireturn, 1) := by decide +kernel
theorem dX3_endsOperation_0 : decode cX3_endsOperation 0 = .ok (.aload_n 1, 1) := by decide +kernel
theorem dX3_endsOperation_1 : decode cX3_endsOperation 1 = .ok (.getfield 139, 3) := by decide +kernel
theorem dX3_endsOperation_4 : decode cX3_endsOperation 4 = .ok (.astore_n 2, 1) := by decide +kernel
theorem dX3_endsOperation_5 : decode cX3_endsOperation 5 = .ok (.aload_n 2, 1) := by decide +kernel
theorem dX3_endsOperation_6 : decode cX3_endsOperation 6 = .ok (.ifnull 11, 3) := by decide +kernel
theorem dX3_endsOperation_9 : decode cX3_endsOperation 9 = .ok (.aload_n 1, 1) := by decide +kernel
theorem dX3_endsOperation_10 : decode cX3_endsOperation 10 = .ok (.getfield 208, 3) := by decide +kernel
theorem dX3_endsOperation_13 : decode cX3_endsOperation 13 = .ok (.iconst 1, 1) := by decide +kernel
theorem dX3_endsOperation_14 : decode cX3_endsOperation 14 = .ok (.if_icmp .ne 5, 3) := by decide +kernel
theorem dX3_endsOperation_17 : decode cX3_endsOperation 17 = .ok (.iconst 0, 1) := by decide +kernel
theorem dX3_endsOperation_18 : decode cX3_endsOperation 18 = .ok (.ireturn, 1) := by decide +kernel
theorem dX3_endsOperation_19 : decode cX3_endsOperation 19 = .ok (.aload_n 1, 1) := by decide +kernel
theorem dX3_endsOperation_20 : decode cX3_endsOperation 20 = .ok (.getfield 208, 3) := by decide +kernel
theorem dX3_endsOperation_23 : decode cX3_endsOperation 23 = .ok (.iconst 3, 1) := by decide +kernel
theorem dX3_endsOperation_24 : decode cX3_endsOperation 24 = .ok (.if_icmp .ne 5, 3) := by decide +kernel
theorem dX3_endsOperation_27 : decode cX3_endsOperation 27 = .ok (.iconst 1, 1) := by decide +kernel
theorem dX3_endsOperation_28 : decode cX3_endsOperation 28 = .ok (.ireturn, 1) := by decide +kernel
theorem dX3_endsOperation_29 : decode cX3_endsOperation 29 = .ok (.aload_n 2, 1) := by decide +kernel
theorem dX3_endsOperation_30 : decode cX3_endsOperation 30 = .ok (.invokevirtual 211, 3) := by decide +kernel
theorem dX3_endsOperation_33 : decode cX3_endsOperation 33 = .ok (.ifCond .ne 29, 3) := by decide +kernel
theorem dX3_endsOperation_36 : decode cX3_endsOperation 36 = .ok (.aload_n 2, 1) := by decide +kernel
theorem dX3_endsOperation_37 : decode cX3_endsOperation 37 = .ok (.getfield 214, 3) := by decide +kernel
theorem dX3_endsOperation_40 : decode cX3_endsOperation 40 = .ok (.ifCond .le 22, 3) := by decide +kernel
theorem dX3_endsOperation_43 : decode cX3_endsOperation 43 = .ok (.aload_n 1, 1) := by decide +kernel
theorem dX3_endsOperation_44 : decode cX3_endsOperation 44 = .ok (.invokevirtual 217, 3) := by decide +kernel
theorem dX3_endsOperation_47 : decode cX3_endsOperation 47 = .ok (.ifCond .ne 11, 3) := by decide +kernel
theorem dX3_endsOperation_50 : decode cX3_endsOperation 50 = .ok (.aload_n 0, 1) := by decide +kernel
theorem dX3_endsOperation_51 : decode cX3_endsOperation 51 = .ok (.aload_n 1, 1) := by decide +kernel
theorem dX3_endsOperation_52 : decode cX3_endsOperation 52 = .ok (.invokevirtual 220, 3) := by decide +kernel
theorem dX3_endsOperation_55 : decode cX3_endsOperation 55 = .ok (.ifnull 7, 3) := by decide +kernel
theorem dX3_endsOperation_58 : decode cX3_endsOperation 58 = .ok (.iconst 1, 1) := by decide +kernel
theorem dX3_endsOperation_59 : decode cX3_endsOperation 59 = .ok (.goto 4, 3) := by decide +kernel
theorem dX3_endsOperation_62 : decode cX3_endsOperation 62 = .ok (.iconst 0, 1) := by decide +kernel
theorem dX3_endsOperation_63 : decode cX3_endsOperation 63 = .ok (.ireturn, 1) := by decide +kernel
theorem dX3_hear_0 : decode cX3_hear 0 = .ok (.aload_n 1, 1) := by decide +kernel
theorem dX3_hear_1 : decode cX3_hear 1 = .ok (.dup, 1) := by decide +kernel
theorem dX3_hear_2 : decode cX3_hear 2 = .ok (.getfield 198, 3) := by decide +kernel
theorem dX3_hear_5 : decode cX3_hear 5 = .ok (.iconst 1, 1) := by decide +kernel
theorem dX3_hear_6 : decode cX3_hear 6 = .ok (.iadd, 1) := by decide +kernel
theorem dX3_hear_7 : decode cX3_hear 7 = .ok (.putfield 198, 3) := by decide +kernel
theorem dX3_hear_10 : decode cX3_hear 10 = .ok (.aload_n 1, 1) := by decide +kernel
theorem dX3_hear_11 : decode cX3_hear 11 = .ok (.getfield 208, 3) := by decide +kernel
theorem dX3_hear_14 : decode cX3_hear 14 = .ok (.iconst 1, 1) := by decide +kernel
theorem dX3_hear_15 : decode cX3_hear 15 = .ok (.if_icmp .ne 15, 3) := by decide +kernel
theorem dX3_hear_18 : decode cX3_hear 18 = .ok (.aload_n 0, 1) := by decide +kernel
theorem dX3_hear_19 : decode cX3_hear 19 = .ok (.getfield 23, 3) := by decide +kernel
theorem dX3_hear_22 : decode cX3_hear 22 = .ok (.aload_n 1, 1) := by decide +kernel
theorem dX3_hear_23 : decode cX3_hear 23 = .ok (.getfield 224, 3) := by decide +kernel
theorem dX3_hear_26 : decode cX3_hear 26 = .ok (.iload_n 2, 1) := by decide +kernel
theorem dX3_hear_27 : decode cX3_hear 27 = .ok (.invokevirtual 186, 3) := by decide +kernel
theorem dX3_hear_30 : decode cX3_hear 30 = .ok (.aload_n 1, 1) := by decide +kernel
theorem dX3_hear_31 : decode cX3_hear 31 = .ok (.getfield 139, 3) := by decide +kernel
theorem dX3_hear_34 : decode cX3_hear 34 = .ok (.astore_n 3, 1) := by decide +kernel
theorem dX3_hear_35 : decode cX3_hear 35 = .ok (.aload_n 3, 1) := by decide +kernel
theorem dX3_hear_36 : decode cX3_hear 36 = .ok (.ifnull 14, 3) := by decide +kernel
theorem dX3_hear_39 : decode cX3_hear 39 = .ok (.aload_n 1, 1) := by decide +kernel
theorem dX3_hear_40 : decode cX3_hear 40 = .ok (.aload_n 1, 1) := by decide +kernel
theorem dX3_hear_41 : decode cX3_hear 41 = .ok (.getfield 198, 3) := by decide +kernel
theorem dX3_hear_44 : decode cX3_hear 44 = .ok (.invokevirtual 201, 3) := by decide +kernel
theorem dX3_hear_47 : decode cX3_hear 47 = .ok (.ifCond .ne 4, 3) := by decide +kernel
theorem dX3_hear_50 : decode cX3_hear 50 = .ok (.return_, 1) := by decide +kernel
theorem dX3_hear_51 : decode cX3_hear 51 = .ok (.aload_n 1, 1) := by decide +kernel
theorem dX3_hear_52 : decode cX3_hear 52 = .ok (.getfield 208, 3) := by decide +kernel
theorem dX3_hear_55 : decode cX3_hear 55 = .ok (.iconst 1, 1) := by decide +kernel
theorem dX3_hear_56 : decode cX3_hear 56 = .ok (.if_icmp .ne 17, 3) := by decide +kernel
theorem dX3_hear_59 : decode cX3_hear 59 = .ok (.aload_n 0, 1) := by decide +kernel
theorem dX3_hear_60 : decode cX3_hear 60 = .ok (.aload_n 1, 1) := by decide +kernel
theorem dX3_hear_61 : decode cX3_hear 61 = .ok (.iconst 2, 1) := by decide +kernel
theorem dX3_hear_62 : decode cX3_hear 62 = .ok (.iconst 2, 1) := by decide +kernel
theorem dX3_hear_63 : decode cX3_hear 63 = .ok (.aload_n 1, 1) := by decide +kernel
theorem dX3_hear_64 : decode cX3_hear 64 = .ok (.getfield 224, 3) := by decide +kernel
theorem dX3_hear_67 : decode cX3_hear 67 = .ok (.invokevirtual 227, 3) := by decide +kernel
theorem dX3_hear_70 : decode cX3_hear 70 = .ok (.goto 26, 3) := by decide +kernel
theorem dX3_hear_73 : decode cX3_hear 73 = .ok (.aload_n 1, 1) := by decide +kernel
theorem dX3_hear_74 : decode cX3_hear 74 = .ok (.getfield 208, 3) := by decide +kernel
theorem dX3_hear_77 : decode cX3_hear 77 = .ok (.iconst 2, 1) := by decide +kernel
theorem dX3_hear_78 : decode cX3_hear 78 = .ok (.if_icmp .ne 12, 3) := by decide +kernel
theorem dX3_hear_81 : decode cX3_hear 81 = .ok (.aload_n 0, 1) := by decide +kernel
theorem dX3_hear_82 : decode cX3_hear 82 = .ok (.aload_n 1, 1) := by decide +kernel
theorem dX3_hear_83 : decode cX3_hear 83 = .ok (.aload_n 3, 1) := by decide +kernel
theorem dX3_hear_84 : decode cX3_hear 84 = .ok (.invokevirtual 231, 3) := by decide +kernel
theorem dX3_hear_87 : decode cX3_hear 87 = .ok (.goto 9, 3) := by decide +kernel
theorem dX3_hear_90 : decode cX3_hear 90 = .ok (.aload_n 0, 1) := by decide +kernel
theorem dX3_hear_91 : decode cX3_hear 91 = .ok (.aload_n 1, 1) := by decide +kernel
theorem dX3_hear_92 : decode cX3_hear 92 = .ok (.aload_n 3, 1) := by decide +kernel
theorem dX3_hear_93 : decode cX3_hear 93 = .ok (.invokevirtual 235, 3) := by decide +kernel
theorem dX3_hear_96 : decode cX3_hear 96 = .ok (.return_, 1) := by decide +kernel
theorem dX3_beginCollect_0 : decode cX3_beginCollect 0 = .ok (.aload_n 1, 1) := by decide +kernel
theorem dX3_beginCollect_1 : decode cX3_beginCollect 1 = .ok (.invokevirtual 238, 3) := by decide +kernel
theorem dX3_beginCollect_4 : decode cX3_beginCollect 4 = .ok (.aload_n 0, 1) := by decide +kernel
theorem dX3_beginCollect_5 : decode cX3_beginCollect 5 = .ok (.aload_n 1, 1) := by decide +kernel
theorem dX3_beginCollect_6 : decode cX3_beginCollect 6 = .ok (.iconst 0, 1) := by decide +kernel
theorem dX3_beginCollect_7 : decode cX3_beginCollect 7 = .ok (.iconst 1, 1) := by decide +kernel
theorem dX3_beginCollect_8 : decode cX3_beginCollect 8 = .ok (.aconst_null, 1) := by decide +kernel
theorem dX3_beginCollect_9 : decode cX3_beginCollect 9 = .ok (.invokevirtual 227, 3) := by decide +kernel
theorem dX3_beginCollect_12 : decode cX3_beginCollect 12 = .ok (.return_, 1) := by decide +kernel
theorem dX3_endCollect_0 : decode cX3_endCollect 0 = .ok (.aload_n 2, 1) := by decide +kernel
theorem dX3_endCollect_1 : decode cX3_endCollect 1 = .ok (.getfield 214, 3) := by decide +kernel
theorem dX3_endCollect_4 : decode cX3_endCollect 4 = .ok (.ifCond .ne 7, 3) := by decide +kernel
theorem dX3_endCollect_7 : decode cX3_endCollect 7 = .ok (.iconst 1, 1) := by decide +kernel
theorem dX3_endCollect_8 : decode cX3_endCollect 8 = .ok (.goto 4, 3) := by decide +kernel
theorem dX3_endCollect_11 : decode cX3_endCollect 11 = .ok (.iconst 0, 1) := by decide +kernel
theorem dX3_endCollect_12 : decode cX3_endCollect 12 = .ok (.istore_n 3, 1) := by decide +kernel
theorem dX3_endCollect_13 : decode cX3_endCollect 13 = .ok (.aload_n 2, 1) := by decide +kernel
theorem dX3_endCollect_14 : decode cX3_endCollect 14 = .ok (.dup, 1) := by decide +kernel
theorem dX3_endCollect_15 : decode cX3_endCollect 15 = .ok (.getfield 214, 3) := by decide +kernel
theorem dX3_endCollect_18 : decode cX3_endCollect 18 = .ok (.iconst 1, 1) := by decide +kernel
theorem dX3_endCollect_19 : decode cX3_endCollect 19 = .ok (.iadd, 1) := by decide +kernel
theorem dX3_endCollect_20 : decode cX3_endCollect 20 = .ok (.putfield 214, 3) := by decide +kernel
theorem dX3_endCollect_23 : decode cX3_endCollect 23 = .ok (.aload_n 0, 1) := by decide +kernel
theorem dX3_endCollect_24 : decode cX3_endCollect 24 = .ok (.aload_n 0, 1) := by decide +kernel
theorem dX3_endCollect_25 : decode cX3_endCollect 25 = .ok (.getfield 128, 3) := by decide +kernel
theorem dX3_endCollect_28 : decode cX3_endCollect 28 = .ok (.aload_n 2, 1) := by decide +kernel
theorem dX3_endCollect_29 : decode cX3_endCollect 29 = .ok (.getfield 214, 3) := by decide +kernel
theorem dX3_endCollect_32 : decode cX3_endCollect 32 = .ok (.invokestatic 241, 3) := by decide +kernel
theorem dX3_endCollect_35 : decode cX3_endCollect 35 = .ok (.putfield 128, 3) := by decide +kernel
theorem dX3_endCollect_38 : decode cX3_endCollect 38 = .ok (.iload_n 3, 1) := by decide +kernel
theorem dX3_endCollect_39 : decode cX3_endCollect 39 = .ok (.ifCond .ne 21, 3) := by decide +kernel
theorem dX3_endCollect_42 : decode cX3_endCollect 42 = .ok (.aload_n 1, 1) := by decide +kernel
theorem dX3_endCollect_43 : decode cX3_endCollect 43 = .ok (.invokevirtual 217, 3) := by decide +kernel
theorem dX3_endCollect_46 : decode cX3_endCollect 46 = .ok (.ifCond .eq 14, 3) := by decide +kernel
theorem dX3_endCollect_49 : decode cX3_endCollect 49 = .ok (.aload_n 0, 1) := by decide +kernel
theorem dX3_endCollect_50 : decode cX3_endCollect 50 = .ok (.aload_n 1, 1) := by decide +kernel
theorem dX3_endCollect_51 : decode cX3_endCollect 51 = .ok (.aload_n 2, 1) := by decide +kernel
theorem dX3_endCollect_52 : decode cX3_endCollect 52 = .ok (.aload_n 1, 1) := by decide +kernel
theorem dX3_endCollect_53 : decode cX3_endCollect 53 = .ok (.getfield 224, 3) := by decide +kernel
theorem dX3_endCollect_56 : decode cX3_endCollect 56 = .ok (.invokevirtual 246, 3) := by decide +kernel
theorem dX3_endCollect_59 : decode cX3_endCollect 59 = .ok (.return_, 1) := by decide +kernel
theorem dX3_endCollect_60 : decode cX3_endCollect 60 = .ok (.iload_n 3, 1) := by decide +kernel
theorem dX3_endCollect_61 : decode cX3_endCollect 61 = .ok (.ifCond .eq 7, 3) := by decide +kernel
theorem dX3_endCollect_64 : decode cX3_endCollect 64 = .ok (.aconst_null, 1) := by decide +kernel
theorem dX3_endCollect_65 : decode cX3_endCollect 65 = .ok (.goto 8, 3) := by decide +kernel
theorem dX3_endCollect_68 : decode cX3_endCollect 68 = .ok (.aload_n 0, 1) := by decide +kernel
theorem dX3_endCollect_69 : decode cX3_endCollect 69 = .ok (.aload_n 1, 1) := by decide +kernel
theorem dX3_endCollect_70 : decode cX3_endCollect 70 = .ok (.invokevirtual 220, 3) := by decide +kernel
theorem dX3_endCollect_73 : decode cX3_endCollect 73 = .ok (.astore 4, 2) := by decide +kernel
theorem dX3_endCollect_75 : decode cX3_endCollect 75 = .ok (.aload 4, 2) := by decide +kernel
theorem dX3_endCollect_77 : decode cX3_endCollect 77 = .ok (.ifnull 34, 3) := by decide +kernel
theorem dX3_endCollect_80 : decode cX3_endCollect 80 = .ok (.aload_n 2, 1) := by decide +kernel
theorem dX3_endCollect_81 : decode cX3_endCollect 81 = .ok (.aload 4, 2) := by decide +kernel
theorem dX3_endCollect_83 : decode cX3_endCollect 83 = .ok (.getfield 250, 3) := by decide +kernel
theorem dX3_endCollect_86 : decode cX3_endCollect 86 = .ok (.putfield 253, 3) := by decide +kernel
theorem dX3_endCollect_89 : decode cX3_endCollect 89 = .ok (.aload_n 0, 1) := by decide +kernel
theorem dX3_endCollect_90 : decode cX3_endCollect 90 = .ok (.dup, 1) := by decide +kernel
theorem dX3_endCollect_91 : decode cX3_endCollect 91 = .ok (.getfield 125, 3) := by decide +kernel
theorem dX3_endCollect_94 : decode cX3_endCollect 94 = .ok (.iconst 1, 1) := by decide +kernel
theorem dX3_endCollect_95 : decode cX3_endCollect 95 = .ok (.iadd, 1) := by decide +kernel
theorem dX3_endCollect_96 : decode cX3_endCollect 96 = .ok (.putfield 125, 3) := by decide +kernel
theorem dX3_endCollect_99 : decode cX3_endCollect 99 = .ok (.aload_n 0, 1) := by decide +kernel
theorem dX3_endCollect_100 : decode cX3_endCollect 100 = .ok (.aload_n 1, 1) := by decide +kernel
theorem dX3_endCollect_101 : decode cX3_endCollect 101 = .ok (.aload_n 2, 1) := by decide +kernel
theorem dX3_endCollect_102 : decode cX3_endCollect 102 = .ok (.aload 4, 2) := by decide +kernel
theorem dX3_endCollect_104 : decode cX3_endCollect 104 = .ok (.getfield 92, 3) := by decide +kernel
theorem dX3_endCollect_107 : decode cX3_endCollect 107 = .ok (.invokevirtual 246, 3) := by decide +kernel
theorem dX3_endCollect_110 : decode cX3_endCollect 110 = .ok (.return_, 1) := by decide +kernel
theorem dX3_endCollect_111 : decode cX3_endCollect 111 = .ok (.aload_n 1, 1) := by decide +kernel
theorem dX3_endCollect_112 : decode cX3_endCollect 112 = .ok (.iload_n 3, 1) := by decide +kernel
theorem dX3_endCollect_113 : decode cX3_endCollect 113 = .ok (.invokevirtual 255, 3) := by decide +kernel
theorem dX3_endCollect_116 : decode cX3_endCollect 116 = .ok (.aload_n 0, 1) := by decide +kernel
theorem dX3_endCollect_117 : decode cX3_endCollect 117 = .ok (.aload_n 1, 1) := by decide +kernel
theorem dX3_endCollect_118 : decode cX3_endCollect 118 = .ok (.invokevirtual 153, 3) := by decide +kernel
theorem dX3_endCollect_121 : decode cX3_endCollect 121 = .ok (.return_, 1) := by decide +kernel
theorem dX3_lender_0 : decode cX3_lender 0 = .ok (.aload_n 1, 1) := by decide +kernel
theorem dX3_lender_1 : decode cX3_lender 1 = .ok (.invokevirtual 259, 3) := by decide +kernel
theorem dX3_lender_4 : decode cX3_lender 4 = .ok (.istore_n 2, 1) := by decide +kernel
theorem dX3_lender_5 : decode cX3_lender 5 = .ok (.iload_n 2, 1) := by decide +kernel
theorem dX3_lender_6 : decode cX3_lender 6 = .ok (.iconst (-1), 1) := by decide +kernel
theorem dX3_lender_7 : decode cX3_lender 7 = .ok (.if_icmp .ne 5, 3) := by decide +kernel
theorem dX3_lender_10 : decode cX3_lender 10 = .ok (.aconst_null, 1) := by decide +kernel
theorem dX3_lender_11 : decode cX3_lender 11 = .ok (.areturn, 1) := by decide +kernel
theorem dX3_lender_12 : decode cX3_lender 12 = .ok (.iconst 1, 1) := by decide +kernel
theorem dX3_lender_13 : decode cX3_lender 13 = .ok (.istore_n 3, 1) := by decide +kernel
theorem dX3_lender_14 : decode cX3_lender 14 = .ok (.iload_n 3, 1) := by decide +kernel
theorem dX3_lender_15 : decode cX3_lender 15 = .ok (.aload_n 0, 1) := by decide +kernel
theorem dX3_lender_16 : decode cX3_lender 16 = .ok (.getfield 119, 3) := by decide +kernel
theorem dX3_lender_19 : decode cX3_lender 19 = .ok (.if_icmp .gt 56, 3) := by decide +kernel
theorem dX3_lender_22 : decode cX3_lender 22 = .ok (.aload_n 0, 1) := by decide +kernel
theorem dX3_lender_23 : decode cX3_lender 23 = .ok (.getfield 29, 3) := by decide +kernel
theorem dX3_lender_26 : decode cX3_lender 26 = .ok (.iload_n 3, 1) := by decide +kernel
theorem dX3_lender_27 : decode cX3_lender 27 = .ok (.aaload, 1) := by decide +kernel
theorem dX3_lender_28 : decode cX3_lender 28 = .ok (.astore 4, 2) := by decide +kernel
theorem dX3_lender_30 : decode cX3_lender 30 = .ok (.aload 4, 2) := by decide +kernel
theorem dX3_lender_32 : decode cX3_lender 32 = .ok (.ifnull 37, 3) := by decide +kernel
theorem dX3_lender_35 : decode cX3_lender 35 = .ok (.aload 4, 2) := by decide +kernel
theorem dX3_lender_37 : decode cX3_lender 37 = .ok (.getfield 250, 3) := by decide +kernel
theorem dX3_lender_40 : decode cX3_lender 40 = .ok (.iload_n 2, 1) := by decide +kernel
theorem dX3_lender_41 : decode cX3_lender 41 = .ok (.if_icmp .ne 28, 3) := by decide +kernel
theorem dX3_lender_44 : decode cX3_lender 44 = .ok (.aload 4, 2) := by decide +kernel
theorem dX3_lender_46 : decode cX3_lender 46 = .ok (.getfield 262, 3) := by decide +kernel
theorem dX3_lender_49 : decode cX3_lender 49 = .ok (.ifCond .le 20, 3) := by decide +kernel
theorem dX3_lender_52 : decode cX3_lender 52 = .ok (.aload 4, 2) := by decide +kernel
theorem dX3_lender_54 : decode cX3_lender 54 = .ok (.getfield 262, 3) := by decide +kernel
theorem dX3_lender_57 : decode cX3_lender 57 = .ok (.aload_n 1, 1) := by decide +kernel
theorem dX3_lender_58 : decode cX3_lender 58 = .ok (.getfield 224, 3) := by decide +kernel
theorem dX3_lender_61 : decode cX3_lender 61 = .ok (.iload_n 2, 1) := by decide +kernel
theorem dX3_lender_62 : decode cX3_lender 62 = .ok (.iaload, 1) := by decide +kernel
theorem dX3_lender_63 : decode cX3_lender 63 = .ok (.if_icmp .ne 6, 3) := by decide +kernel
theorem dX3_lender_66 : decode cX3_lender 66 = .ok (.aload 4, 2) := by decide +kernel
theorem dX3_lender_68 : decode cX3_lender 68 = .ok (.areturn, 1) := by decide +kernel
theorem dX3_lender_69 : decode cX3_lender 69 = .ok (.iinc 3 1, 3) := by decide +kernel
theorem dX3_lender_72 : decode cX3_lender 72 = .ok (.goto (-58), 3) := by decide +kernel
theorem dX3_lender_75 : decode cX3_lender 75 = .ok (.aconst_null, 1) := by decide +kernel
theorem dX3_lender_76 : decode cX3_lender 76 = .ok (.areturn, 1) := by decide +kernel
theorem dX3_useView_0 : decode cX3_useView 0 = .ok (.aload_n 2, 1) := by decide +kernel
theorem dX3_useView_1 : decode cX3_useView 1 = .ok (.aload_n 3, 1) := by decide +kernel
theorem dX3_useView_2 : decode cX3_useView 2 = .ok (.invokevirtual 265, 3) := by decide +kernel
theorem dX3_useView_5 : decode cX3_useView 5 = .ok (.aload_n 2, 1) := by decide +kernel
theorem dX3_useView_6 : decode cX3_useView 6 = .ok (.invokevirtual 211, 3) := by decide +kernel
theorem dX3_useView_9 : decode cX3_useView 9 = .ok (.ifCond .eq 25, 3) := by decide +kernel
theorem dX3_useView_12 : decode cX3_useView 12 = .ok (.aload_n 2, 1) := by decide +kernel
theorem dX3_useView_13 : decode cX3_useView 13 = .ok (.aload_n 1, 1) := by decide +kernel
theorem dX3_useView_14 : decode cX3_useView 14 = .ok (.invokevirtual 269, 3) := by decide +kernel
theorem dX3_useView_17 : decode cX3_useView 17 = .ok (.putfield 262, 3) := by decide +kernel
theorem dX3_useView_20 : decode cX3_useView 20 = .ok (.aload_n 0, 1) := by decide +kernel
theorem dX3_useView_21 : decode cX3_useView 21 = .ok (.aload_n 1, 1) := by decide +kernel
theorem dX3_useView_22 : decode cX3_useView 22 = .ok (.iconst 2, 1) := by decide +kernel
theorem dX3_useView_23 : decode cX3_useView 23 = .ok (.iconst 3, 1) := by decide +kernel
theorem dX3_useView_24 : decode cX3_useView 24 = .ok (.aload_n 1, 1) := by decide +kernel
theorem dX3_useView_25 : decode cX3_useView 25 = .ok (.getfield 272, 3) := by decide +kernel
theorem dX3_useView_28 : decode cX3_useView 28 = .ok (.invokevirtual 227, 3) := by decide +kernel
theorem dX3_useView_31 : decode cX3_useView 31 = .ok (.goto 9, 3) := by decide +kernel
theorem dX3_useView_34 : decode cX3_useView 34 = .ok (.aload_n 0, 1) := by decide +kernel
theorem dX3_useView_35 : decode cX3_useView 35 = .ok (.aload_n 1, 1) := by decide +kernel
theorem dX3_useView_36 : decode cX3_useView 36 = .ok (.aload_n 2, 1) := by decide +kernel
theorem dX3_useView_37 : decode cX3_useView 37 = .ok (.invokevirtual 235, 3) := by decide +kernel
theorem dX3_useView_40 : decode cX3_useView 40 = .ok (.return_, 1) := by decide +kernel
theorem dX3_endOperation_0 : decode cX3_endOperation 0 = .ok (.aload_n 2, 1) := by decide +kernel
theorem dX3_endOperation_1 : decode cX3_endOperation 1 = .ok (.aload_n 0, 1) := by decide +kernel
theorem dX3_endOperation_2 : decode cX3_endOperation 2 = .ok (.getfield 70, 3) := by decide +kernel
theorem dX3_endOperation_5 : decode cX3_endOperation 5 = .ok (.putfield 275, 3) := by decide +kernel
theorem dX3_endOperation_8 : decode cX3_endOperation 8 = .ok (.aload_n 0, 1) := by decide +kernel
theorem dX3_endOperation_9 : decode cX3_endOperation 9 = .ok (.dup, 1) := by decide +kernel
theorem dX3_endOperation_10 : decode cX3_endOperation 10 = .ok (.getfield 122, 3) := by decide +kernel
theorem dX3_endOperation_13 : decode cX3_endOperation 13 = .ok (.iconst 1, 1) := by decide +kernel
theorem dX3_endOperation_14 : decode cX3_endOperation 14 = .ok (.iadd, 1) := by decide +kernel
theorem dX3_endOperation_15 : decode cX3_endOperation 15 = .ok (.putfield 122, 3) := by decide +kernel
theorem dX3_endOperation_18 : decode cX3_endOperation 18 = .ok (.aload_n 1, 1) := by decide +kernel
theorem dX3_endOperation_19 : decode cX3_endOperation 19 = .ok (.invokevirtual 278, 3) := by decide +kernel
theorem dX3_endOperation_22 : decode cX3_endOperation 22 = .ok (.return_, 1) := by decide +kernel
theorem dX3_sendToAll_0 : decode cX3_sendToAll 0 = .ok (.aload_n 1, 1) := by decide +kernel
theorem dX3_sendToAll_1 : decode cX3_sendToAll 1 = .ok (.iload_n 3, 1) := by decide +kernel
theorem dX3_sendToAll_2 : decode cX3_sendToAll 2 = .ok (.invokevirtual 281, 3) := by decide +kernel
theorem dX3_sendToAll_5 : decode cX3_sendToAll 5 = .ok (.iconst 0, 1) := by decide +kernel
theorem dX3_sendToAll_6 : decode cX3_sendToAll 6 = .ok (.istore 5, 2) := by decide +kernel
theorem dX3_sendToAll_8 : decode cX3_sendToAll 8 = .ok (.iload 5, 2) := by decide +kernel
theorem dX3_sendToAll_10 : decode cX3_sendToAll 10 = .ok (.aload_n 0, 1) := by decide +kernel
theorem dX3_sendToAll_11 : decode cX3_sendToAll 11 = .ok (.getfield 11, 3) := by decide +kernel
theorem dX3_sendToAll_14 : decode cX3_sendToAll 14 = .ok (.arraylength, 1) := by decide +kernel
theorem dX3_sendToAll_15 : decode cX3_sendToAll 15 = .ok (.if_icmp .ge 29, 3) := by decide +kernel
theorem dX3_sendToAll_18 : decode cX3_sendToAll 18 = .ok (.aload_n 0, 1) := by decide +kernel
theorem dX3_sendToAll_19 : decode cX3_sendToAll 19 = .ok (.getfield 23, 3) := by decide +kernel
theorem dX3_sendToAll_22 : decode cX3_sendToAll 22 = .ok (.iload_n 2, 1) := by decide +kernel
theorem dX3_sendToAll_23 : decode cX3_sendToAll 23 = .ok (.aload_n 1, 1) := by decide +kernel
theorem dX3_sendToAll_24 : decode cX3_sendToAll 24 = .ok (.getfield 173, 3) := by decide +kernel
theorem dX3_sendToAll_27 : decode cX3_sendToAll 27 = .ok (.iload 5, 2) := by decide +kernel
theorem dX3_sendToAll_29 : decode cX3_sendToAll 29 = .ok (.aload_n 1, 1) := by decide +kernel
theorem dX3_sendToAll_30 : decode cX3_sendToAll 30 = .ok (.getfield 284, 3) := by decide +kernel
theorem dX3_sendToAll_33 : decode cX3_sendToAll 33 = .ok (.aload 4, 2) := by decide +kernel
theorem dX3_sendToAll_35 : decode cX3_sendToAll 35 = .ok (.invokevirtual 182, 3) := by decide +kernel
theorem dX3_sendToAll_38 : decode cX3_sendToAll 38 = .ok (.iinc 5 1, 3) := by decide +kernel
theorem dX3_sendToAll_41 : decode cX3_sendToAll 41 = .ok (.goto (-33), 3) := by decide +kernel
theorem dX3_sendToAll_44 : decode cX3_sendToAll 44 = .ok (.return_, 1) := by decide +kernel
theorem dX3_fold_0 : decode cX3_fold 0 = .ok (.aload_n 1, 1) := by decide +kernel
theorem dX3_fold_1 : decode cX3_fold 1 = .ok (.getfield 287, 3) := by decide +kernel
theorem dX3_fold_4 : decode cX3_fold 4 = .ok (.tableswitch 88 10 15 #[40, 46, 52, 66, 74, 80], 40) := by decide +kernel
theorem dX3_fold_44 : decode cX3_fold 44 = .ok (.aload_n 0, 1) := by decide +kernel
theorem dX3_fold_45 : decode cX3_fold 45 = .ok (.aload_n 1, 1) := by decide +kernel
theorem dX3_fold_46 : decode cX3_fold 46 = .ok (.invokevirtual 290, 3) := by decide +kernel
theorem dX3_fold_49 : decode cX3_fold 49 = .ok (.lreturn, 1) := by decide +kernel
theorem dX3_fold_50 : decode cX3_fold 50 = .ok (.aload_n 0, 1) := by decide +kernel
theorem dX3_fold_51 : decode cX3_fold 51 = .ok (.aload_n 1, 1) := by decide +kernel
theorem dX3_fold_52 : decode cX3_fold 52 = .ok (.invokevirtual 293, 3) := by decide +kernel
theorem dX3_fold_55 : decode cX3_fold 55 = .ok (.lreturn, 1) := by decide +kernel
theorem dX3_fold_56 : decode cX3_fold 56 = .ok (.aload_n 0, 1) := by decide +kernel
theorem dX3_fold_57 : decode cX3_fold 57 = .ok (.aload_n 1, 1) := by decide +kernel
theorem dX3_fold_58 : decode cX3_fold 58 = .ok (.invokevirtual 296, 3) := by decide +kernel
theorem dX3_fold_61 : decode cX3_fold 61 = .ok (.ifCond .eq 7, 3) := by decide +kernel
theorem dX3_fold_64 : decode cX3_fold 64 = .ok (.lconst 1, 1) := by decide +kernel
theorem dX3_fold_65 : decode cX3_fold 65 = .ok (.goto 4, 3) := by decide +kernel
theorem dX3_fold_68 : decode cX3_fold 68 = .ok (.lconst 0, 1) := by decide +kernel
theorem dX3_fold_69 : decode cX3_fold 69 = .ok (.lreturn, 1) := by decide +kernel
theorem dX3_fold_70 : decode cX3_fold 70 = .ok (.aload_n 0, 1) := by decide +kernel
theorem dX3_fold_71 : decode cX3_fold 71 = .ok (.aload_n 1, 1) := by decide +kernel
theorem dX3_fold_72 : decode cX3_fold 72 = .ok (.iconst 2, 1) := by decide +kernel
theorem dX3_fold_73 : decode cX3_fold 73 = .ok (.invokevirtual 299, 3) := by decide +kernel
theorem dX3_fold_76 : decode cX3_fold 76 = .ok (.i2l, 1) := by decide +kernel
theorem dX3_fold_77 : decode cX3_fold 77 = .ok (.lreturn, 1) := by decide +kernel
theorem dX3_fold_78 : decode cX3_fold 78 = .ok (.aload_n 0, 1) := by decide +kernel
theorem dX3_fold_79 : decode cX3_fold 79 = .ok (.aload_n 1, 1) := by decide +kernel
theorem dX3_fold_80 : decode cX3_fold 80 = .ok (.invokevirtual 303, 3) := by decide +kernel
theorem dX3_fold_83 : decode cX3_fold 83 = .ok (.lreturn, 1) := by decide +kernel
theorem dX3_fold_84 : decode cX3_fold 84 = .ok (.aload_n 0, 1) := by decide +kernel
theorem dX3_fold_85 : decode cX3_fold 85 = .ok (.aload_n 1, 1) := by decide +kernel
theorem dX3_fold_86 : decode cX3_fold 86 = .ok (.iconst 3, 1) := by decide +kernel
theorem dX3_fold_87 : decode cX3_fold 87 = .ok (.invokevirtual 299, 3) := by decide +kernel
theorem dX3_fold_90 : decode cX3_fold 90 = .ok (.i2l, 1) := by decide +kernel
theorem dX3_fold_91 : decode cX3_fold 91 = .ok (.lreturn, 1) := by decide +kernel
theorem dX3_fold_92 : decode cX3_fold 92 = .ok (.lconst 0, 1) := by decide +kernel
theorem dX3_fold_93 : decode cX3_fold 93 = .ok (.lreturn, 1) := by decide +kernel
end
section
theorem dX3_sum_0 : decode cX3_sum 0 = .ok (.lconst 0, 1) := by decide +kernel
theorem dX3_sum_1 : decode cX3_sum 1 = .ok (.lstore_n 2, 1) := by decide +kernel
theorem dX3_sum_2 : decode cX3_sum 2 = .ok (.iconst 1, 1) := by decide +kernel
theorem dX3_sum_3 : decode cX3_sum 3 = .ok (.istore 4, 2) := by decide +kernel
theorem dX3_sum_5 : decode cX3_sum 5 = .ok (.iload 4, 2) := by decide +kernel
theorem dX3_sum_7 : decode cX3_sum 7 = .ok (.aload_n 0, 1) := by decide +kernel
theorem dX3_sum_8 : decode cX3_sum 8 = .ok (.getfield 119, 3) := by decide +kernel
theorem dX3_sum_11 : decode cX3_sum 11 = .ok (.if_icmp .gt 37, 3) := by decide +kernel
theorem dX3_sum_14 : decode cX3_sum 14 = .ok (.aload_n 0, 1) := by decide +kernel
theorem dX3_sum_15 : decode cX3_sum 15 = .ok (.getfield 29, 3) := by decide +kernel
theorem dX3_sum_18 : decode cX3_sum 18 = .ok (.iload 4, 2) := by decide +kernel
theorem dX3_sum_20 : decode cX3_sum 20 = .ok (.aaload, 1) := by decide +kernel
theorem dX3_sum_21 : decode cX3_sum 21 = .ok (.astore 5, 2) := by decide +kernel
theorem dX3_sum_23 : decode cX3_sum 23 = .ok (.aload_n 1, 1) := by decide +kernel
theorem dX3_sum_24 : decode cX3_sum 24 = .ok (.aload 5, 2) := by decide +kernel
theorem dX3_sum_26 : decode cX3_sum 26 = .ok (.iconst 0, 1) := by decide +kernel
theorem dX3_sum_27 : decode cX3_sum 27 = .ok (.invokevirtual 306, 3) := by decide +kernel
theorem dX3_sum_30 : decode cX3_sum 30 = .ok (.ifCond .eq 12, 3) := by decide +kernel
theorem dX3_sum_33 : decode cX3_sum 33 = .ok (.lload_n 2, 1) := by decide +kernel
theorem dX3_sum_34 : decode cX3_sum 34 = .ok (.aload 5, 2) := by decide +kernel
theorem dX3_sum_36 : decode cX3_sum 36 = .ok (.getfield 310, 3) := by decide +kernel
theorem dX3_sum_39 : decode cX3_sum 39 = .ok (.i2l, 1) := by decide +kernel
theorem dX3_sum_40 : decode cX3_sum 40 = .ok (.ladd, 1) := by decide +kernel
theorem dX3_sum_41 : decode cX3_sum 41 = .ok (.lstore_n 2, 1) := by decide +kernel
theorem dX3_sum_42 : decode cX3_sum 42 = .ok (.iinc 4 1, 3) := by decide +kernel
theorem dX3_sum_45 : decode cX3_sum 45 = .ok (.goto (-40), 3) := by decide +kernel
theorem dX3_sum_48 : decode cX3_sum 48 = .ok (.lload_n 2, 1) := by decide +kernel
theorem dX3_sum_49 : decode cX3_sum 49 = .ok (.lreturn, 1) := by decide +kernel
theorem dX3_greatest_0 : decode cX3_greatest 0 = .ok (.ldc2_w 315, 3) := by decide +kernel
theorem dX3_greatest_3 : decode cX3_greatest 3 = .ok (.lstore_n 2, 1) := by decide +kernel
theorem dX3_greatest_4 : decode cX3_greatest 4 = .ok (.iconst 1, 1) := by decide +kernel
theorem dX3_greatest_5 : decode cX3_greatest 5 = .ok (.istore 4, 2) := by decide +kernel
theorem dX3_greatest_7 : decode cX3_greatest 7 = .ok (.iload 4, 2) := by decide +kernel
theorem dX3_greatest_9 : decode cX3_greatest 9 = .ok (.aload_n 0, 1) := by decide +kernel
theorem dX3_greatest_10 : decode cX3_greatest 10 = .ok (.getfield 119, 3) := by decide +kernel
theorem dX3_greatest_13 : decode cX3_greatest 13 = .ok (.if_icmp .gt 39, 3) := by decide +kernel
theorem dX3_greatest_16 : decode cX3_greatest 16 = .ok (.aload_n 0, 1) := by decide +kernel
theorem dX3_greatest_17 : decode cX3_greatest 17 = .ok (.getfield 29, 3) := by decide +kernel
theorem dX3_greatest_20 : decode cX3_greatest 20 = .ok (.iload 4, 2) := by decide +kernel
theorem dX3_greatest_22 : decode cX3_greatest 22 = .ok (.aaload, 1) := by decide +kernel
theorem dX3_greatest_23 : decode cX3_greatest 23 = .ok (.astore 5, 2) := by decide +kernel
theorem dX3_greatest_25 : decode cX3_greatest 25 = .ok (.aload_n 1, 1) := by decide +kernel
theorem dX3_greatest_26 : decode cX3_greatest 26 = .ok (.aload 5, 2) := by decide +kernel
theorem dX3_greatest_28 : decode cX3_greatest 28 = .ok (.iconst 1, 1) := by decide +kernel
theorem dX3_greatest_29 : decode cX3_greatest 29 = .ok (.invokevirtual 306, 3) := by decide +kernel
theorem dX3_greatest_32 : decode cX3_greatest 32 = .ok (.ifCond .eq 14, 3) := by decide +kernel
theorem dX3_greatest_35 : decode cX3_greatest 35 = .ok (.lload_n 2, 1) := by decide +kernel
theorem dX3_greatest_36 : decode cX3_greatest 36 = .ok (.aload 5, 2) := by decide +kernel
theorem dX3_greatest_38 : decode cX3_greatest 38 = .ok (.getfield 310, 3) := by decide +kernel
theorem dX3_greatest_41 : decode cX3_greatest 41 = .ok (.i2l, 1) := by decide +kernel
theorem dX3_greatest_42 : decode cX3_greatest 42 = .ok (.invokestatic 317, 3) := by decide +kernel
theorem dX3_greatest_45 : decode cX3_greatest 45 = .ok (.lstore_n 2, 1) := by decide +kernel
theorem dX3_greatest_46 : decode cX3_greatest 46 = .ok (.iinc 4 1, 3) := by decide +kernel
theorem dX3_greatest_49 : decode cX3_greatest 49 = .ok (.goto (-42), 3) := by decide +kernel
theorem dX3_greatest_52 : decode cX3_greatest 52 = .ok (.lload_n 2, 1) := by decide +kernel
theorem dX3_greatest_53 : decode cX3_greatest 53 = .ok (.lreturn, 1) := by decide +kernel
theorem dX3_contains_0 : decode cX3_contains 0 = .ok (.iconst 1, 1) := by decide +kernel
theorem dX3_contains_1 : decode cX3_contains 1 = .ok (.istore_n 2, 1) := by decide +kernel
theorem dX3_contains_2 : decode cX3_contains 2 = .ok (.iload_n 2, 1) := by decide +kernel
theorem dX3_contains_3 : decode cX3_contains 3 = .ok (.aload_n 0, 1) := by decide +kernel
theorem dX3_contains_4 : decode cX3_contains 4 = .ok (.getfield 119, 3) := by decide +kernel
theorem dX3_contains_7 : decode cX3_contains 7 = .ok (.if_icmp .gt 38, 3) := by decide +kernel
theorem dX3_contains_10 : decode cX3_contains 10 = .ok (.aload_n 0, 1) := by decide +kernel
theorem dX3_contains_11 : decode cX3_contains 11 = .ok (.getfield 29, 3) := by decide +kernel
theorem dX3_contains_14 : decode cX3_contains 14 = .ok (.iload_n 2, 1) := by decide +kernel
theorem dX3_contains_15 : decode cX3_contains 15 = .ok (.aaload, 1) := by decide +kernel
theorem dX3_contains_16 : decode cX3_contains 16 = .ok (.astore_n 3, 1) := by decide +kernel
theorem dX3_contains_17 : decode cX3_contains 17 = .ok (.aload_n 1, 1) := by decide +kernel
theorem dX3_contains_18 : decode cX3_contains 18 = .ok (.aload_n 3, 1) := by decide +kernel
theorem dX3_contains_19 : decode cX3_contains 19 = .ok (.iconst 2, 1) := by decide +kernel
theorem dX3_contains_20 : decode cX3_contains 20 = .ok (.invokevirtual 306, 3) := by decide +kernel
theorem dX3_contains_23 : decode cX3_contains 23 = .ok (.ifCond .eq 16, 3) := by decide +kernel
theorem dX3_contains_26 : decode cX3_contains 26 = .ok (.aload_n 3, 1) := by decide +kernel
theorem dX3_contains_27 : decode cX3_contains 27 = .ok (.getfield 310, 3) := by decide +kernel
theorem dX3_contains_30 : decode cX3_contains 30 = .ok (.aload_n 1, 1) := by decide +kernel
theorem dX3_contains_31 : decode cX3_contains 31 = .ok (.getfield 310, 3) := by decide +kernel
theorem dX3_contains_34 : decode cX3_contains 34 = .ok (.if_icmp .ne 5, 3) := by decide +kernel
theorem dX3_contains_37 : decode cX3_contains 37 = .ok (.iconst 1, 1) := by decide +kernel
theorem dX3_contains_38 : decode cX3_contains 38 = .ok (.ireturn, 1) := by decide +kernel
theorem dX3_contains_39 : decode cX3_contains 39 = .ok (.iinc 2 1, 3) := by decide +kernel
theorem dX3_contains_42 : decode cX3_contains 42 = .ok (.goto (-40), 3) := by decide +kernel
theorem dX3_contains_45 : decode cX3_contains 45 = .ok (.iconst 0, 1) := by decide +kernel
theorem dX3_contains_46 : decode cX3_contains 46 = .ok (.ireturn, 1) := by decide +kernel
theorem dX3_greatestOfKey_0 : decode cX3_greatestOfKey 0 = .ok (.ldc2_w 315, 3) := by decide +kernel
theorem dX3_greatestOfKey_3 : decode cX3_greatestOfKey 3 = .ok (.lstore_n 2, 1) := by decide +kernel
theorem dX3_greatestOfKey_4 : decode cX3_greatestOfKey 4 = .ok (.iconst 1, 1) := by decide +kernel
theorem dX3_greatestOfKey_5 : decode cX3_greatestOfKey 5 = .ok (.istore 4, 2) := by decide +kernel
theorem dX3_greatestOfKey_7 : decode cX3_greatestOfKey 7 = .ok (.iload 4, 2) := by decide +kernel
theorem dX3_greatestOfKey_9 : decode cX3_greatestOfKey 9 = .ok (.aload_n 0, 1) := by decide +kernel
theorem dX3_greatestOfKey_10 : decode cX3_greatestOfKey 10 = .ok (.getfield 119, 3) := by decide +kernel
theorem dX3_greatestOfKey_13 : decode cX3_greatestOfKey 13 = .ok (.if_icmp .gt 51, 3) := by decide +kernel
theorem dX3_greatestOfKey_16 : decode cX3_greatestOfKey 16 = .ok (.aload_n 0, 1) := by decide +kernel
theorem dX3_greatestOfKey_17 : decode cX3_greatestOfKey 17 = .ok (.getfield 29, 3) := by decide +kernel
theorem dX3_greatestOfKey_20 : decode cX3_greatestOfKey 20 = .ok (.iload 4, 2) := by decide +kernel
theorem dX3_greatestOfKey_22 : decode cX3_greatestOfKey 22 = .ok (.aaload, 1) := by decide +kernel
theorem dX3_greatestOfKey_23 : decode cX3_greatestOfKey 23 = .ok (.astore 5, 2) := by decide +kernel
theorem dX3_greatestOfKey_25 : decode cX3_greatestOfKey 25 = .ok (.aload_n 1, 1) := by decide +kernel
theorem dX3_greatestOfKey_26 : decode cX3_greatestOfKey 26 = .ok (.aload 5, 2) := by decide +kernel
theorem dX3_greatestOfKey_28 : decode cX3_greatestOfKey 28 = .ok (.iconst 3, 1) := by decide +kernel
theorem dX3_greatestOfKey_29 : decode cX3_greatestOfKey 29 = .ok (.invokevirtual 306, 3) := by decide +kernel
theorem dX3_greatestOfKey_32 : decode cX3_greatestOfKey 32 = .ok (.ifCond .eq 26, 3) := by decide +kernel
theorem dX3_greatestOfKey_35 : decode cX3_greatestOfKey 35 = .ok (.aload 5, 2) := by decide +kernel
theorem dX3_greatestOfKey_37 : decode cX3_greatestOfKey 37 = .ok (.getfield 310, 3) := by decide +kernel
theorem dX3_greatestOfKey_40 : decode cX3_greatestOfKey 40 = .ok (.aload_n 1, 1) := by decide +kernel
theorem dX3_greatestOfKey_41 : decode cX3_greatestOfKey 41 = .ok (.getfield 310, 3) := by decide +kernel
theorem dX3_greatestOfKey_44 : decode cX3_greatestOfKey 44 = .ok (.if_icmp .ne 14, 3) := by decide +kernel
theorem dX3_greatestOfKey_47 : decode cX3_greatestOfKey 47 = .ok (.lload_n 2, 1) := by decide +kernel
theorem dX3_greatestOfKey_48 : decode cX3_greatestOfKey 48 = .ok (.aload 5, 2) := by decide +kernel
theorem dX3_greatestOfKey_50 : decode cX3_greatestOfKey 50 = .ok (.getfield 320, 3) := by decide +kernel
theorem dX3_greatestOfKey_53 : decode cX3_greatestOfKey 53 = .ok (.i2l, 1) := by decide +kernel
theorem dX3_greatestOfKey_54 : decode cX3_greatestOfKey 54 = .ok (.invokestatic 317, 3) := by decide +kernel
theorem dX3_greatestOfKey_57 : decode cX3_greatestOfKey 57 = .ok (.lstore_n 2, 1) := by decide +kernel
theorem dX3_greatestOfKey_58 : decode cX3_greatestOfKey 58 = .ok (.iinc 4 1, 3) := by decide +kernel
theorem dX3_greatestOfKey_61 : decode cX3_greatestOfKey 61 = .ok (.goto (-54), 3) := by decide +kernel
theorem dX3_greatestOfKey_64 : decode cX3_greatestOfKey 64 = .ok (.lload_n 2, 1) := by decide +kernel
theorem dX3_greatestOfKey_65 : decode cX3_greatestOfKey 65 = .ok (.lreturn, 1) := by decide +kernel
theorem dX3_different_0 : decode cX3_different 0 = .ok (.iconst 0, 1) := by decide +kernel
theorem dX3_different_1 : decode cX3_different 1 = .ok (.istore_n 3, 1) := by decide +kernel
theorem dX3_different_2 : decode cX3_different 2 = .ok (.iconst 1, 1) := by decide +kernel
theorem dX3_different_3 : decode cX3_different 3 = .ok (.istore 4, 2) := by decide +kernel
theorem dX3_different_5 : decode cX3_different 5 = .ok (.iload 4, 2) := by decide +kernel
theorem dX3_different_7 : decode cX3_different 7 = .ok (.aload_n 0, 1) := by decide +kernel
theorem dX3_different_8 : decode cX3_different 8 = .ok (.getfield 119, 3) := by decide +kernel
theorem dX3_different_11 : decode cX3_different 11 = .ok (.if_icmp .gt 41, 3) := by decide +kernel
theorem dX3_different_14 : decode cX3_different 14 = .ok (.aload_n 0, 1) := by decide +kernel
theorem dX3_different_15 : decode cX3_different 15 = .ok (.getfield 29, 3) := by decide +kernel
theorem dX3_different_18 : decode cX3_different 18 = .ok (.iload 4, 2) := by decide +kernel
theorem dX3_different_20 : decode cX3_different 20 = .ok (.aaload, 1) := by decide +kernel
theorem dX3_different_21 : decode cX3_different 21 = .ok (.astore 5, 2) := by decide +kernel
theorem dX3_different_23 : decode cX3_different 23 = .ok (.aload_n 1, 1) := by decide +kernel
theorem dX3_different_24 : decode cX3_different 24 = .ok (.aload 5, 2) := by decide +kernel
theorem dX3_different_26 : decode cX3_different 26 = .ok (.iload_n 2, 1) := by decide +kernel
theorem dX3_different_27 : decode cX3_different 27 = .ok (.invokevirtual 306, 3) := by decide +kernel
theorem dX3_different_30 : decode cX3_different 30 = .ok (.ifCond .eq 16, 3) := by decide +kernel
theorem dX3_different_33 : decode cX3_different 33 = .ok (.aload_n 0, 1) := by decide +kernel
theorem dX3_different_34 : decode cX3_different 34 = .ok (.aload_n 1, 1) := by decide +kernel
theorem dX3_different_35 : decode cX3_different 35 = .ok (.aload 5, 2) := by decide +kernel
theorem dX3_different_37 : decode cX3_different 37 = .ok (.invokevirtual 323, 3) := by decide +kernel
theorem dX3_different_40 : decode cX3_different 40 = .ok (.ifCond .ne 6, 3) := by decide +kernel
theorem dX3_different_43 : decode cX3_different 43 = .ok (.iinc 3 1, 3) := by decide +kernel
theorem dX3_different_46 : decode cX3_different 46 = .ok (.iinc 4 1, 3) := by decide +kernel
theorem dX3_different_49 : decode cX3_different 49 = .ok (.goto (-44), 3) := by decide +kernel
theorem dX3_different_52 : decode cX3_different 52 = .ok (.iload_n 3, 1) := by decide +kernel
theorem dX3_different_53 : decode cX3_different 53 = .ok (.ireturn, 1) := by decide +kernel
theorem dX3_isRepeated_0 : decode cX3_isRepeated 0 = .ok (.iconst 1, 1) := by decide +kernel
theorem dX3_isRepeated_1 : decode cX3_isRepeated 1 = .ok (.istore_n 3, 1) := by decide +kernel
theorem dX3_isRepeated_2 : decode cX3_isRepeated 2 = .ok (.iload_n 3, 1) := by decide +kernel
theorem dX3_isRepeated_3 : decode cX3_isRepeated 3 = .ok (.aload_n 2, 1) := by decide +kernel
theorem dX3_isRepeated_4 : decode cX3_isRepeated 4 = .ok (.getfield 327, 3) := by decide +kernel
theorem dX3_isRepeated_7 : decode cX3_isRepeated 7 = .ok (.if_icmp .ge 44, 3) := by decide +kernel
theorem dX3_isRepeated_10 : decode cX3_isRepeated 10 = .ok (.aload_n 0, 1) := by decide +kernel
theorem dX3_isRepeated_11 : decode cX3_isRepeated 11 = .ok (.getfield 29, 3) := by decide +kernel
theorem dX3_isRepeated_14 : decode cX3_isRepeated 14 = .ok (.iload_n 3, 1) := by decide +kernel
theorem dX3_isRepeated_15 : decode cX3_isRepeated 15 = .ok (.aaload, 1) := by decide +kernel
theorem dX3_isRepeated_16 : decode cX3_isRepeated 16 = .ok (.astore 4, 2) := by decide +kernel
theorem dX3_isRepeated_18 : decode cX3_isRepeated 18 = .ok (.aload_n 1, 1) := by decide +kernel
theorem dX3_isRepeated_19 : decode cX3_isRepeated 19 = .ok (.aload 4, 2) := by decide +kernel
theorem dX3_isRepeated_21 : decode cX3_isRepeated 21 = .ok (.aload_n 2, 1) := by decide +kernel
theorem dX3_isRepeated_22 : decode cX3_isRepeated 22 = .ok (.getfield 287, 3) := by decide +kernel
theorem dX3_isRepeated_25 : decode cX3_isRepeated 25 = .ok (.invokevirtual 306, 3) := by decide +kernel
theorem dX3_isRepeated_28 : decode cX3_isRepeated 28 = .ok (.ifCond .eq 17, 3) := by decide +kernel
theorem dX3_isRepeated_31 : decode cX3_isRepeated 31 = .ok (.aload 4, 2) := by decide +kernel
theorem dX3_isRepeated_33 : decode cX3_isRepeated 33 = .ok (.getfield 310, 3) := by decide +kernel
theorem dX3_isRepeated_36 : decode cX3_isRepeated 36 = .ok (.aload_n 2, 1) := by decide +kernel
theorem dX3_isRepeated_37 : decode cX3_isRepeated 37 = .ok (.getfield 310, 3) := by decide +kernel
theorem dX3_isRepeated_40 : decode cX3_isRepeated 40 = .ok (.if_icmp .ne 5, 3) := by decide +kernel
theorem dX3_isRepeated_43 : decode cX3_isRepeated 43 = .ok (.iconst 1, 1) := by decide +kernel
theorem dX3_isRepeated_44 : decode cX3_isRepeated 44 = .ok (.ireturn, 1) := by decide +kernel
theorem dX3_isRepeated_45 : decode cX3_isRepeated 45 = .ok (.iinc 3 1, 3) := by decide +kernel
theorem dX3_isRepeated_48 : decode cX3_isRepeated 48 = .ok (.goto (-46), 3) := by decide +kernel
theorem dX3_isRepeated_51 : decode cX3_isRepeated 51 = .ok (.iconst 0, 1) := by decide +kernel
theorem dX3_isRepeated_52 : decode cX3_isRepeated 52 = .ok (.ireturn, 1) := by decide +kernel
theorem dX3_strays_0 : decode cX3_strays 0 = .ok (.aload_n 1, 1) := by decide +kernel
theorem dX3_strays_1 : decode cX3_strays 1 = .ok (.aload_n 2, 1) := by decide +kernel
theorem dX3_strays_2 : decode cX3_strays 2 = .ok (.invokevirtual 330, 3) := by decide +kernel
theorem dX3_strays_5 : decode cX3_strays 5 = .ok (.istore_n 3, 1) := by decide +kernel
theorem dX3_strays_6 : decode cX3_strays 6 = .ok (.iconst 0, 1) := by decide +kernel
theorem dX3_strays_7 : decode cX3_strays 7 = .ok (.istore 4, 2) := by decide +kernel
theorem dX3_strays_9 : decode cX3_strays 9 = .ok (.iload_n 3, 1) := by decide +kernel
theorem dX3_strays_10 : decode cX3_strays 10 = .ok (.ifCond .ne 14, 3) := by decide +kernel
theorem dX3_strays_13 : decode cX3_strays 13 = .ok (.aload_n 2, 1) := by decide +kernel
theorem dX3_strays_14 : decode cX3_strays 14 = .ok (.aload_n 1, 1) := by decide +kernel
theorem dX3_strays_15 : decode cX3_strays 15 = .ok (.invokevirtual 330, 3) := by decide +kernel
theorem dX3_strays_18 : decode cX3_strays 18 = .ok (.ifCond .ne 6, 3) := by decide +kernel
theorem dX3_strays_21 : decode cX3_strays 21 = .ok (.iinc 4 1, 3) := by decide +kernel
theorem dX3_strays_24 : decode cX3_strays 24 = .ok (.aload_n 1, 1) := by decide +kernel
theorem dX3_strays_25 : decode cX3_strays 25 = .ok (.invokevirtual 81, 3) := by decide +kernel
theorem dX3_strays_28 : decode cX3_strays 28 = .ok (.ifCond .eq 18, 3) := by decide +kernel
theorem dX3_strays_31 : decode cX3_strays 31 = .ok (.aload_n 1, 1) := by decide +kernel
theorem dX3_strays_32 : decode cX3_strays 32 = .ok (.getfield 275, 3) := by decide +kernel
theorem dX3_strays_35 : decode cX3_strays 35 = .ok (.aload_n 2, 1) := by decide +kernel
theorem dX3_strays_36 : decode cX3_strays 36 = .ok (.getfield 333, 3) := by decide +kernel
theorem dX3_strays_39 : decode cX3_strays 39 = .ok (.if_icmp .ge 7, 3) := by decide +kernel
theorem dX3_strays_42 : decode cX3_strays 42 = .ok (.iconst 1, 1) := by decide +kernel
theorem dX3_strays_43 : decode cX3_strays 43 = .ok (.goto 4, 3) := by decide +kernel
theorem dX3_strays_46 : decode cX3_strays 46 = .ok (.iconst 0, 1) := by decide +kernel
theorem dX3_strays_47 : decode cX3_strays 47 = .ok (.istore 5, 2) := by decide +kernel
theorem dX3_strays_49 : decode cX3_strays 49 = .ok (.aload_n 1, 1) := by decide +kernel
theorem dX3_strays_50 : decode cX3_strays 50 = .ok (.invokevirtual 211, 3) := by decide +kernel
theorem dX3_strays_53 : decode cX3_strays 53 = .ok (.ifCond .eq 19, 3) := by decide +kernel
theorem dX3_strays_56 : decode cX3_strays 56 = .ok (.aload_n 2, 1) := by decide +kernel
theorem dX3_strays_57 : decode cX3_strays 57 = .ok (.aload_n 1, 1) := by decide +kernel
theorem dX3_strays_58 : decode cX3_strays 58 = .ok (.aload_n 1, 1) := by decide +kernel
theorem dX3_strays_59 : decode cX3_strays 59 = .ok (.getfield 287, 3) := by decide +kernel
theorem dX3_strays_62 : decode cX3_strays 62 = .ok (.invokevirtual 306, 3) := by decide +kernel
theorem dX3_strays_65 : decode cX3_strays 65 = .ok (.ifCond .ne 7, 3) := by decide +kernel
theorem dX3_strays_68 : decode cX3_strays 68 = .ok (.iconst 1, 1) := by decide +kernel
theorem dX3_strays_69 : decode cX3_strays 69 = .ok (.goto 4, 3) := by decide +kernel
theorem dX3_strays_72 : decode cX3_strays 72 = .ok (.iconst 0, 1) := by decide +kernel
theorem dX3_strays_73 : decode cX3_strays 73 = .ok (.istore 6, 2) := by decide +kernel
theorem dX3_strays_75 : decode cX3_strays 75 = .ok (.iload 5, 2) := by decide +kernel
theorem dX3_strays_77 : decode cX3_strays 77 = .ok (.ifCond .eq 15, 3) := by decide +kernel
theorem dX3_strays_80 : decode cX3_strays 80 = .ok (.iload_n 3, 1) := by decide +kernel
theorem dX3_strays_81 : decode cX3_strays 81 = .ok (.ifCond .eq 8, 3) := by decide +kernel
theorem dX3_strays_84 : decode cX3_strays 84 = .ok (.iload 6, 2) := by decide +kernel
theorem dX3_strays_86 : decode cX3_strays 86 = .ok (.ifCond .eq 6, 3) := by decide +kernel
theorem dX3_strays_89 : decode cX3_strays 89 = .ok (.iinc 4 1, 3) := by decide +kernel
theorem dX3_strays_92 : decode cX3_strays 92 = .ok (.iload 4, 2) := by decide +kernel
theorem dX3_strays_94 : decode cX3_strays 94 = .ok (.ireturn, 1) := by decide +kernel
theorem dX3_seesWhatBeganLater_0 : decode cX3_seesWhatBeganLater 0 = .ok (.aload_n 1, 1) := by decide +kernel
theorem dX3_seesWhatBeganLater_1 : decode cX3_seesWhatBeganLater 1 = .ok (.invokevirtual 81, 3) := by decide +kernel
theorem dX3_seesWhatBeganLater_4 : decode cX3_seesWhatBeganLater 4 = .ok (.ifCond .ne 5, 3) := by decide +kernel
theorem dX3_seesWhatBeganLater_7 : decode cX3_seesWhatBeganLater 7 = .ok (.iconst 0, 1) := by decide +kernel
theorem dX3_seesWhatBeganLater_8 : decode cX3_seesWhatBeganLater 8 = .ok (.ireturn, 1) := by decide +kernel
theorem dX3_seesWhatBeganLater_9 : decode cX3_seesWhatBeganLater 9 = .ok (.iconst 1, 1) := by decide +kernel
theorem dX3_seesWhatBeganLater_10 : decode cX3_seesWhatBeganLater 10 = .ok (.istore_n 2, 1) := by decide +kernel
theorem dX3_seesWhatBeganLater_11 : decode cX3_seesWhatBeganLater 11 = .ok (.iload_n 2, 1) := by decide +kernel
theorem dX3_seesWhatBeganLater_12 : decode cX3_seesWhatBeganLater 12 = .ok (.aload_n 0, 1) := by decide +kernel
theorem dX3_seesWhatBeganLater_13 : decode cX3_seesWhatBeganLater 13 = .ok (.getfield 119, 3) := by decide +kernel
theorem dX3_seesWhatBeganLater_16 : decode cX3_seesWhatBeganLater 16 = .ok (.if_icmp .gt 45, 3) := by decide +kernel
theorem dX3_seesWhatBeganLater_19 : decode cX3_seesWhatBeganLater 19 = .ok (.aload_n 0, 1) := by decide +kernel
theorem dX3_seesWhatBeganLater_20 : decode cX3_seesWhatBeganLater 20 = .ok (.getfield 29, 3) := by decide +kernel
theorem dX3_seesWhatBeganLater_23 : decode cX3_seesWhatBeganLater 23 = .ok (.iload_n 2, 1) := by decide +kernel
theorem dX3_seesWhatBeganLater_24 : decode cX3_seesWhatBeganLater 24 = .ok (.aaload, 1) := by decide +kernel
theorem dX3_seesWhatBeganLater_25 : decode cX3_seesWhatBeganLater 25 = .ok (.astore_n 3, 1) := by decide +kernel
theorem dX3_seesWhatBeganLater_26 : decode cX3_seesWhatBeganLater 26 = .ok (.aload_n 3, 1) := by decide +kernel
theorem dX3_seesWhatBeganLater_27 : decode cX3_seesWhatBeganLater 27 = .ok (.ifnull 28, 3) := by decide +kernel
theorem dX3_seesWhatBeganLater_30 : decode cX3_seesWhatBeganLater 30 = .ok (.aload_n 3, 1) := by decide +kernel
theorem dX3_seesWhatBeganLater_31 : decode cX3_seesWhatBeganLater 31 = .ok (.getfield 333, 3) := by decide +kernel
theorem dX3_seesWhatBeganLater_34 : decode cX3_seesWhatBeganLater 34 = .ok (.aload_n 1, 1) := by decide +kernel
theorem dX3_seesWhatBeganLater_35 : decode cX3_seesWhatBeganLater 35 = .ok (.getfield 275, 3) := by decide +kernel
theorem dX3_seesWhatBeganLater_38 : decode cX3_seesWhatBeganLater 38 = .ok (.if_icmp .le 17, 3) := by decide +kernel
theorem dX3_seesWhatBeganLater_41 : decode cX3_seesWhatBeganLater 41 = .ok (.aload_n 1, 1) := by decide +kernel
theorem dX3_seesWhatBeganLater_42 : decode cX3_seesWhatBeganLater 42 = .ok (.aload_n 3, 1) := by decide +kernel
theorem dX3_seesWhatBeganLater_43 : decode cX3_seesWhatBeganLater 43 = .ok (.aload_n 3, 1) := by decide +kernel
theorem dX3_seesWhatBeganLater_44 : decode cX3_seesWhatBeganLater 44 = .ok (.getfield 287, 3) := by decide +kernel
theorem dX3_seesWhatBeganLater_47 : decode cX3_seesWhatBeganLater 47 = .ok (.invokevirtual 306, 3) := by decide +kernel
theorem dX3_seesWhatBeganLater_50 : decode cX3_seesWhatBeganLater 50 = .ok (.ifCond .eq 5, 3) := by decide +kernel
theorem dX3_seesWhatBeganLater_53 : decode cX3_seesWhatBeganLater 53 = .ok (.iconst 1, 1) := by decide +kernel
theorem dX3_seesWhatBeganLater_54 : decode cX3_seesWhatBeganLater 54 = .ok (.ireturn, 1) := by decide +kernel
theorem dX3_seesWhatBeganLater_55 : decode cX3_seesWhatBeganLater 55 = .ok (.iinc 2 1, 3) := by decide +kernel
theorem dX3_seesWhatBeganLater_58 : decode cX3_seesWhatBeganLater 58 = .ok (.goto (-47), 3) := by decide +kernel
theorem dX3_seesWhatBeganLater_61 : decode cX3_seesWhatBeganLater 61 = .ok (.iconst 0, 1) := by decide +kernel
theorem dX3_seesWhatBeganLater_62 : decode cX3_seesWhatBeganLater 62 = .ok (.ireturn, 1) := by decide +kernel
theorem dX4_init_0 : decode cX4_init 0 = .ok (.aload_n 0, 1) := by decide +kernel
theorem dX4_init_1 : decode cX4_init 1 = .ok (.invokespecial 1, 3) := by decide +kernel
theorem dX4_init_4 : decode cX4_init 4 = .ok (.aload_n 0, 1) := by decide +kernel
theorem dX4_init_5 : decode cX4_init 5 = .ok (.sipush 2001, 3) := by decide +kernel
theorem dX4_init_8 : decode cX4_init 8 = .ok (.newarray .int, 2) := by decide +kernel
theorem dX4_init_10 : decode cX4_init 10 = .ok (.putfield 7, 3) := by decide +kernel
theorem dX4_init_13 : decode cX4_init 13 = .ok (.aload_n 0, 1) := by decide +kernel
theorem dX4_init_14 : decode cX4_init 14 = .ok (.sipush 2001, 3) := by decide +kernel
theorem dX4_init_17 : decode cX4_init 17 = .ok (.newarray .int, 2) := by decide +kernel
theorem dX4_init_19 : decode cX4_init 19 = .ok (.putfield 13, 3) := by decide +kernel
theorem dX4_init_22 : decode cX4_init 22 = .ok (.aload_n 0, 1) := by decide +kernel
theorem dX4_init_23 : decode cX4_init 23 = .ok (.sipush 2001, 3) := by decide +kernel
theorem dX4_init_26 : decode cX4_init 26 = .ok (.newarray .int, 2) := by decide +kernel
theorem dX4_init_28 : decode cX4_init 28 = .ok (.putfield 16, 3) := by decide +kernel
theorem dX4_init_31 : decode cX4_init 31 = .ok (.aload_n 0, 1) := by decide +kernel
theorem dX4_init_32 : decode cX4_init 32 = .ok (.sipush 2001, 3) := by decide +kernel
theorem dX4_init_35 : decode cX4_init 35 = .ok (.newarray .int, 2) := by decide +kernel
theorem dX4_init_37 : decode cX4_init 37 = .ok (.putfield 19, 3) := by decide +kernel
theorem dX4_init_40 : decode cX4_init 40 = .ok (.aload_n 0, 1) := by decide +kernel
theorem dX4_init_41 : decode cX4_init 41 = .ok (.ldc 22, 2) := by decide +kernel
theorem dX4_init_43 : decode cX4_init 43 = .ok (.newarray .int, 2) := by decide +kernel
theorem dX4_init_45 : decode cX4_init 45 = .ok (.putfield 23, 3) := by decide +kernel
theorem dX4_init_48 : decode cX4_init 48 = .ok (.aload_n 0, 1) := by decide +kernel
theorem dX4_init_49 : decode cX4_init 49 = .ok (.sipush 2001, 3) := by decide +kernel
theorem dX4_init_52 : decode cX4_init 52 = .ok (.newarray .boolean, 2) := by decide +kernel
theorem dX4_init_54 : decode cX4_init 54 = .ok (.putfield 26, 3) := by decide +kernel
theorem dX4_init_57 : decode cX4_init 57 = .ok (.aload_n 0, 1) := by decide +kernel
theorem dX4_init_58 : decode cX4_init 58 = .ok (.sipush 2001, 3) := by decide +kernel
theorem dX4_init_61 : decode cX4_init 61 = .ok (.newarray .int, 2) := by decide +kernel
theorem dX4_init_63 : decode cX4_init 63 = .ok (.putfield 30, 3) := by decide +kernel
theorem dX4_init_66 : decode cX4_init 66 = .ok (.aload_n 0, 1) := by decide +kernel
theorem dX4_init_67 : decode cX4_init 67 = .ok (.bipush 31, 2) := by decide +kernel
theorem dX4_init_69 : decode cX4_init 69 = .ok (.newarray .boolean, 2) := by decide +kernel
theorem dX4_init_71 : decode cX4_init 71 = .ok (.putfield 33, 3) := by decide +kernel
theorem dX4_init_74 : decode cX4_init 74 = .ok (.aload_n 0, 1) := by decide +kernel
theorem dX4_init_75 : decode cX4_init 75 = .ok (.bipush 31, 2) := by decide +kernel
theorem dX4_init_77 : decode cX4_init 77 = .ok (.newarray .int, 2) := by decide +kernel
theorem dX4_init_79 : decode cX4_init 79 = .ok (.putfield 36, 3) := by decide +kernel
theorem dX4_init_82 : decode cX4_init 82 = .ok (.aload_n 0, 1) := by decide +kernel
theorem dX4_init_83 : decode cX4_init 83 = .ok (.bipush 31, 2) := by decide +kernel
theorem dX4_init_85 : decode cX4_init 85 = .ok (.newarray .int, 2) := by decide +kernel
theorem dX4_init_87 : decode cX4_init 87 = .ok (.putfield 39, 3) := by decide +kernel
theorem dX4_init_90 : decode cX4_init 90 = .ok (.aload_n 0, 1) := by decide +kernel
theorem dX4_init_91 : decode cX4_init 91 = .ok (.bipush 31, 2) := by decide +kernel
theorem dX4_init_93 : decode cX4_init 93 = .ok (.newarray .int, 2) := by decide +kernel
theorem dX4_init_95 : decode cX4_init 95 = .ok (.putfield 42, 3) := by decide +kernel
theorem dX4_init_98 : decode cX4_init 98 = .ok (.aload_n 0, 1) := by decide +kernel
theorem dX4_init_99 : decode cX4_init 99 = .ok (.bipush 31, 2) := by decide +kernel
theorem dX4_init_101 : decode cX4_init 101 = .ok (.newarray .int, 2) := by decide +kernel
theorem dX4_init_103 : decode cX4_init 103 = .ok (.putfield 45, 3) := by decide +kernel
theorem dX4_init_106 : decode cX4_init 106 = .ok (.aload_n 0, 1) := by decide +kernel
theorem dX4_init_107 : decode cX4_init 107 = .ok (.sipush 961, 3) := by decide +kernel
theorem dX4_init_110 : decode cX4_init 110 = .ok (.newarray .int, 2) := by decide +kernel
theorem dX4_init_112 : decode cX4_init 112 = .ok (.putfield 48, 3) := by decide +kernel
theorem dX4_init_115 : decode cX4_init 115 = .ok (.aload_n 0, 1) := by decide +kernel
theorem dX4_init_116 : decode cX4_init 116 = .ok (.bipush 31, 2) := by decide +kernel
theorem dX4_init_118 : decode cX4_init 118 = .ok (.newarray .int, 2) := by decide +kernel
theorem dX4_init_120 : decode cX4_init 120 = .ok (.putfield 51, 3) := by decide +kernel
theorem dX4_init_123 : decode cX4_init 123 = .ok (.aload_n 0, 1) := by decide +kernel
theorem dX4_init_124 : decode cX4_init 124 = .ok (.sipush 15872, 3) := by decide +kernel
theorem dX4_init_127 : decode cX4_init 127 = .ok (.newarray .int, 2) := by decide +kernel
theorem dX4_init_129 : decode cX4_init 129 = .ok (.putfield 54, 3) := by decide +kernel
theorem dX4_init_132 : decode cX4_init 132 = .ok (.aload_n 0, 1) := by decide +kernel
theorem dX4_init_133 : decode cX4_init 133 = .ok (.sipush 961, 3) := by decide +kernel
theorem dX4_init_136 : decode cX4_init 136 = .ok (.newarray .int, 2) := by decide +kernel
theorem dX4_init_138 : decode cX4_init 138 = .ok (.putfield 57, 3) := by decide +kernel
theorem dX4_init_141 : decode cX4_init 141 = .ok (.aload_n 0, 1) := by decide +kernel
theorem dX4_init_142 : decode cX4_init 142 = .ok (.sipush 961, 3) := by decide +kernel
theorem dX4_init_145 : decode cX4_init 145 = .ok (.newarray .int, 2) := by decide +kernel
theorem dX4_init_147 : decode cX4_init 147 = .ok (.putfield 60, 3) := by decide +kernel
theorem dX4_init_150 : decode cX4_init 150 = .ok (.aload_n 0, 1) := by decide +kernel
theorem dX4_init_151 : decode cX4_init 151 = .ok (.sipush 961, 3) := by decide +kernel
theorem dX4_init_154 : decode cX4_init 154 = .ok (.newarray .int, 2) := by decide +kernel
theorem dX4_init_156 : decode cX4_init 156 = .ok (.putfield 63, 3) := by decide +kernel
theorem dX4_init_159 : decode cX4_init 159 = .ok (.aload_n 0, 1) := by decide +kernel
theorem dX4_init_160 : decode cX4_init 160 = .ok (.bipush 31, 2) := by decide +kernel
theorem dX4_init_162 : decode cX4_init 162 = .ok (.newarray .boolean, 2) := by decide +kernel
theorem dX4_init_164 : decode cX4_init 164 = .ok (.putfield 66, 3) := by decide +kernel
theorem dX4_init_167 : decode cX4_init 167 = .ok (.aload_n 0, 1) := by decide +kernel
theorem dX4_init_168 : decode cX4_init 168 = .ok (.sipush 961, 3) := by decide +kernel
theorem dX4_init_171 : decode cX4_init 171 = .ok (.newarray .int, 2) := by decide +kernel
theorem dX4_init_173 : decode cX4_init 173 = .ok (.putfield 69, 3) := by decide +kernel
theorem dX4_init_176 : decode cX4_init 176 = .ok (.aload_n 0, 1) := by decide +kernel
theorem dX4_init_177 : decode cX4_init 177 = .ok (.sipush 512, 3) := by decide +kernel
theorem dX4_init_180 : decode cX4_init 180 = .ok (.newarray .int, 2) := by decide +kernel
theorem dX4_init_182 : decode cX4_init 182 = .ok (.putfield 72, 3) := by decide +kernel
theorem dX4_init_185 : decode cX4_init 185 = .ok (.aload_n 0, 1) := by decide +kernel
theorem dX4_init_186 : decode cX4_init 186 = .ok (.sipush 512, 3) := by decide +kernel
theorem dX4_init_189 : decode cX4_init 189 = .ok (.newarray .int, 2) := by decide +kernel
theorem dX4_init_191 : decode cX4_init 191 = .ok (.putfield 75, 3) := by decide +kernel
theorem dX4_init_194 : decode cX4_init 194 = .ok (.aload_n 0, 1) := by decide +kernel
theorem dX4_init_195 : decode cX4_init 195 = .ok (.sipush 512, 3) := by decide +kernel
theorem dX4_init_198 : decode cX4_init 198 = .ok (.newarray .int, 2) := by decide +kernel
theorem dX4_init_200 : decode cX4_init 200 = .ok (.putfield 78, 3) := by decide +kernel
theorem dX4_init_203 : decode cX4_init 203 = .ok (.aload_n 0, 1) := by decide +kernel
theorem dX4_init_204 : decode cX4_init 204 = .ok (.sipush 512, 3) := by decide +kernel
theorem dX4_init_207 : decode cX4_init 207 = .ok (.newarray .int, 2) := by decide +kernel
theorem dX4_init_209 : decode cX4_init 209 = .ok (.putfield 81, 3) := by decide +kernel
theorem dX4_init_212 : decode cX4_init 212 = .ok (.aload_n 0, 1) := by decide +kernel
theorem dX4_init_213 : decode cX4_init 213 = .ok (.sipush 512, 3) := by decide +kernel
theorem dX4_init_216 : decode cX4_init 216 = .ok (.newarray .int, 2) := by decide +kernel
theorem dX4_init_218 : decode cX4_init 218 = .ok (.putfield 84, 3) := by decide +kernel
theorem dX4_init_221 : decode cX4_init 221 = .ok (.aload_n 0, 1) := by decide +kernel
theorem dX4_init_222 : decode cX4_init 222 = .ok (.sipush 512, 3) := by decide +kernel
theorem dX4_init_225 : decode cX4_init 225 = .ok (.newarray .int, 2) := by decide +kernel
theorem dX4_init_227 : decode cX4_init 227 = .ok (.putfield 87, 3) := by decide +kernel
theorem dX4_init_230 : decode cX4_init 230 = .ok (.aload_n 0, 1) := by decide +kernel
theorem dX4_init_231 : decode cX4_init 231 = .ok (.sipush 512, 3) := by decide +kernel
theorem dX4_init_234 : decode cX4_init 234 = .ok (.newarray .int, 2) := by decide +kernel
theorem dX4_init_236 : decode cX4_init 236 = .ok (.putfield 90, 3) := by decide +kernel
theorem dX4_init_239 : decode cX4_init 239 = .ok (.aload_n 0, 1) := by decide +kernel
theorem dX4_init_240 : decode cX4_init 240 = .ok (.sipush 512, 3) := by decide +kernel
theorem dX4_init_243 : decode cX4_init 243 = .ok (.newarray .int, 2) := by decide +kernel
theorem dX4_init_245 : decode cX4_init 245 = .ok (.putfield 93, 3) := by decide +kernel
theorem dX4_init_248 : decode cX4_init 248 = .ok (.aload_n 0, 1) := by decide +kernel
theorem dX4_init_249 : decode cX4_init 249 = .ok (.sipush 512, 3) := by decide +kernel
theorem dX4_init_252 : decode cX4_init 252 = .ok (.newarray .int, 2) := by decide +kernel
theorem dX4_init_254 : decode cX4_init 254 = .ok (.putfield 96, 3) := by decide +kernel
theorem dX4_init_257 : decode cX4_init 257 = .ok (.aload_n 0, 1) := by decide +kernel
theorem dX4_init_258 : decode cX4_init 258 = .ok (.sipush 15872, 3) := by decide +kernel
theorem dX4_init_261 : decode cX4_init 261 = .ok (.newarray .int, 2) := by decide +kernel
theorem dX4_init_263 : decode cX4_init 263 = .ok (.putfield 99, 3) := by decide +kernel
theorem dX4_init_266 : decode cX4_init 266 = .ok (.aload_n 0, 1) := by decide +kernel
theorem dX4_init_267 : decode cX4_init 267 = .ok (.sipush 512, 3) := by decide +kernel
theorem dX4_init_270 : decode cX4_init 270 = .ok (.newarray .boolean, 2) := by decide +kernel
theorem dX4_init_272 : decode cX4_init 272 = .ok (.putfield 102, 3) := by decide +kernel
theorem dX4_init_275 : decode cX4_init 275 = .ok (.aload_n 0, 1) := by decide +kernel
theorem dX4_init_276 : decode cX4_init 276 = .ok (.sipush 512, 3) := by decide +kernel
theorem dX4_init_279 : decode cX4_init 279 = .ok (.newarray .int, 2) := by decide +kernel
theorem dX4_init_281 : decode cX4_init 281 = .ok (.putfield 105, 3) := by decide +kernel
theorem dX4_init_284 : decode cX4_init 284 = .ok (.aload_n 0, 1) := by decide +kernel
theorem dX4_init_285 : decode cX4_init 285 = .ok (.iload_n 1, 1) := by decide +kernel
theorem dX4_init_286 : decode cX4_init 286 = .ok (.iconst 3, 1) := by decide +kernel
theorem dX4_init_287 : decode cX4_init 287 = .ok (.if_icmp .lt 9, 3) := by decide +kernel
theorem dX4_init_290 : decode cX4_init 290 = .ok (.iload_n 1, 1) := by decide +kernel
theorem dX4_init_291 : decode cX4_init 291 = .ok (.bipush 31, 2) := by decide +kernel
theorem dX4_init_293 : decode cX4_init 293 = .ok (.if_icmp .le 7, 3) := by decide +kernel
theorem dX4_init_296 : decode cX4_init 296 = .ok (.iconst 3, 1) := by decide +kernel
theorem dX4_init_297 : decode cX4_init 297 = .ok (.goto 4, 3) := by decide +kernel
theorem dX4_init_300 : decode cX4_init 300 = .ok (.iload_n 1, 1) := by decide +kernel
theorem dX4_init_301 : decode cX4_init 301 = .ok (.putfield 108, 3) := by decide +kernel
theorem dX4_init_304 : decode cX4_init 304 = .ok (.return_, 1) := by decide +kernel
theorem dX4_thrown_0 : decode cX4_thrown 0 = .ok (.aload_n 0, 1) := by decide +kernel
theorem dX4_thrown_1 : decode cX4_thrown 1 = .ok (.getfield 112, 3) := by decide +kernel
theorem dX4_thrown_4 : decode cX4_thrown 4 = .ok (.ireturn, 1) := by decide +kernel
theorem dX4_isNode_0 : decode cX4_isNode 0 = .ok (.iload_n 1, 1) := by decide +kernel
theorem dX4_isNode_1 : decode cX4_isNode 1 = .ok (.ifCond .lt 15, 3) := by decide +kernel
theorem dX4_isNode_4 : decode cX4_isNode 4 = .ok (.iload_n 1, 1) := by decide +kernel
theorem dX4_isNode_5 : decode cX4_isNode 5 = .ok (.aload_n 0, 1) := by decide +kernel
theorem dX4_isNode_6 : decode cX4_isNode 6 = .ok (.getfield 108, 3) := by decide +kernel
theorem dX4_isNode_9 : decode cX4_isNode 9 = .ok (.if_icmp .ge 7, 3) := by decide +kernel
theorem dX4_isNode_12 : decode cX4_isNode 12 = .ok (.iconst 1, 1) := by decide +kernel
theorem dX4_isNode_13 : decode cX4_isNode 13 = .ok (.goto 4, 3) := by decide +kernel
theorem dX4_isNode_16 : decode cX4_isNode 16 = .ok (.iconst 0, 1) := by decide +kernel
theorem dX4_isNode_17 : decode cX4_isNode 17 = .ok (.ireturn, 1) := by decide +kernel
theorem dX4_hasRoom_0 : decode cX4_hasRoom 0 = .ok (.aload_n 0, 1) := by decide +kernel
theorem dX4_hasRoom_1 : decode cX4_hasRoom 1 = .ok (.getfield 115, 3) := by decide +kernel
theorem dX4_hasRoom_4 : decode cX4_hasRoom 4 = .ok (.iload_n 1, 1) := by decide +kernel
theorem dX4_hasRoom_5 : decode cX4_hasRoom 5 = .ok (.iadd, 1) := by decide +kernel
theorem dX4_hasRoom_6 : decode cX4_hasRoom 6 = .ok (.sipush 2000, 3) := by decide +kernel
theorem dX4_hasRoom_9 : decode cX4_hasRoom 9 = .ok (.if_icmp .gt 7, 3) := by decide +kernel
theorem dX4_hasRoom_12 : decode cX4_hasRoom 12 = .ok (.iconst 1, 1) := by decide +kernel
theorem dX4_hasRoom_13 : decode cX4_hasRoom 13 = .ok (.goto 4, 3) := by decide +kernel
theorem dX4_hasRoom_16 : decode cX4_hasRoom 16 = .ok (.iconst 0, 1) := by decide +kernel
theorem dX4_hasRoom_17 : decode cX4_hasRoom 17 = .ok (.ireturn, 1) := by decide +kernel
theorem dX4_send_0 : decode cX4_send 0 = .ok (.iconst 0, 1) := by decide +kernel
theorem dX4_send_1 : decode cX4_send 1 = .ok (.istore 5, 2) := by decide +kernel
theorem dX4_send_3 : decode cX4_send 3 = .ok (.aload_n 0, 1) := by decide +kernel
theorem dX4_send_4 : decode cX4_send 4 = .ok (.getfield 26, 3) := by decide +kernel
theorem dX4_send_7 : decode cX4_send 7 = .ok (.iload 5, 2) := by decide +kernel
theorem dX4_send_9 : decode cX4_send 9 = .ok (.baload, 1) := by decide +kernel
theorem dX4_send_10 : decode cX4_send 10 = .ok (.ifCond .eq 9, 3) := by decide +kernel
theorem dX4_send_13 : decode cX4_send 13 = .ok (.iinc 5 1, 3) := by decide +kernel
theorem dX4_send_16 : decode cX4_send 16 = .ok (.goto (-13), 3) := by decide +kernel
theorem dX4_send_19 : decode cX4_send 19 = .ok (.aload_n 0, 1) := by decide +kernel
theorem dX4_send_20 : decode cX4_send 20 = .ok (.getfield 26, 3) := by decide +kernel
theorem dX4_send_23 : decode cX4_send 23 = .ok (.iload 5, 2) := by decide +kernel
theorem dX4_send_25 : decode cX4_send 25 = .ok (.iconst 1, 1) := by decide +kernel
theorem dX4_send_26 : decode cX4_send 26 = .ok (.bastore, 1) := by decide +kernel
theorem dX4_send_27 : decode cX4_send 27 = .ok (.aload_n 0, 1) := by decide +kernel
theorem dX4_send_28 : decode cX4_send 28 = .ok (.getfield 7, 3) := by decide +kernel
theorem dX4_send_31 : decode cX4_send 31 = .ok (.iload 5, 2) := by decide +kernel
theorem dX4_send_33 : decode cX4_send 33 = .ok (.iload_n 1, 1) := by decide +kernel
theorem dX4_send_34 : decode cX4_send 34 = .ok (.iastore, 1) := by decide +kernel
theorem dX4_send_35 : decode cX4_send 35 = .ok (.aload_n 0, 1) := by decide +kernel
theorem dX4_send_36 : decode cX4_send 36 = .ok (.getfield 13, 3) := by decide +kernel
theorem dX4_send_39 : decode cX4_send 39 = .ok (.iload 5, 2) := by decide +kernel
theorem dX4_send_41 : decode cX4_send 41 = .ok (.iload_n 2, 1) := by decide +kernel
theorem dX4_send_42 : decode cX4_send 42 = .ok (.iastore, 1) := by decide +kernel
theorem dX4_send_43 : decode cX4_send 43 = .ok (.aload_n 0, 1) := by decide +kernel
theorem dX4_send_44 : decode cX4_send 44 = .ok (.getfield 16, 3) := by decide +kernel
theorem dX4_send_47 : decode cX4_send 47 = .ok (.iload 5, 2) := by decide +kernel
theorem dX4_send_49 : decode cX4_send 49 = .ok (.iload_n 3, 1) := by decide +kernel
theorem dX4_send_50 : decode cX4_send 50 = .ok (.iastore, 1) := by decide +kernel
theorem dX4_send_51 : decode cX4_send 51 = .ok (.aload_n 0, 1) := by decide +kernel
theorem dX4_send_52 : decode cX4_send 52 = .ok (.getfield 19, 3) := by decide +kernel
theorem dX4_send_55 : decode cX4_send 55 = .ok (.iload 5, 2) := by decide +kernel
theorem dX4_send_57 : decode cX4_send 57 = .ok (.iload 4, 2) := by decide +kernel
theorem dX4_send_59 : decode cX4_send 59 = .ok (.iastore, 1) := by decide +kernel
theorem dX4_send_60 : decode cX4_send 60 = .ok (.aload_n 0, 1) := by decide +kernel
theorem dX4_send_61 : decode cX4_send 61 = .ok (.getfield 30, 3) := by decide +kernel
theorem dX4_send_64 : decode cX4_send 64 = .ok (.aload_n 0, 1) := by decide +kernel
theorem dX4_send_65 : decode cX4_send 65 = .ok (.getfield 115, 3) := by decide +kernel
theorem dX4_send_68 : decode cX4_send 68 = .ok (.iload 5, 2) := by decide +kernel
theorem dX4_send_70 : decode cX4_send 70 = .ok (.iastore, 1) := by decide +kernel
theorem dX4_send_71 : decode cX4_send 71 = .ok (.aload_n 0, 1) := by decide +kernel
theorem dX4_send_72 : decode cX4_send 72 = .ok (.dup, 1) := by decide +kernel
theorem dX4_send_73 : decode cX4_send 73 = .ok (.getfield 115, 3) := by decide +kernel
theorem dX4_send_76 : decode cX4_send 76 = .ok (.iconst 1, 1) := by decide +kernel
theorem dX4_send_77 : decode cX4_send 77 = .ok (.iadd, 1) := by decide +kernel
theorem dX4_send_78 : decode cX4_send 78 = .ok (.putfield 115, 3) := by decide +kernel
theorem dX4_send_81 : decode cX4_send 81 = .ok (.aload_n 0, 1) := by decide +kernel
theorem dX4_send_82 : decode cX4_send 82 = .ok (.dup, 1) := by decide +kernel
theorem dX4_send_83 : decode cX4_send 83 = .ok (.getfield 118, 3) := by decide +kernel
theorem dX4_send_86 : decode cX4_send 86 = .ok (.iconst 1, 1) := by decide +kernel
theorem dX4_send_87 : decode cX4_send 87 = .ok (.iadd, 1) := by decide +kernel
theorem dX4_send_88 : decode cX4_send 88 = .ok (.putfield 118, 3) := by decide +kernel
theorem dX4_send_91 : decode cX4_send 91 = .ok (.iload 5, 2) := by decide +kernel
theorem dX4_send_93 : decode cX4_send 93 = .ok (.ireturn, 1) := by decide +kernel
theorem dX4_toAll_0 : decode cX4_toAll 0 = .ok (.aload_n 0, 1) := by decide +kernel
theorem dX4_toAll_1 : decode cX4_toAll 1 = .ok (.getfield 39, 3) := by decide +kernel
theorem dX4_toAll_4 : decode cX4_toAll 4 = .ok (.iload_n 1, 1) := by decide +kernel
theorem dX4_toAll_5 : decode cX4_toAll 5 = .ok (.dup2, 1) := by decide +kernel
theorem dX4_toAll_6 : decode cX4_toAll 6 = .ok (.iaload, 1) := by decide +kernel
theorem dX4_toAll_7 : decode cX4_toAll 7 = .ok (.iconst 1, 1) := by decide +kernel
theorem dX4_toAll_8 : decode cX4_toAll 8 = .ok (.iadd, 1) := by decide +kernel
theorem dX4_toAll_9 : decode cX4_toAll 9 = .ok (.iastore, 1) := by decide +kernel
theorem dX4_toAll_10 : decode cX4_toAll 10 = .ok (.aload_n 0, 1) := by decide +kernel
theorem dX4_toAll_11 : decode cX4_toAll 11 = .ok (.getfield 45, 3) := by decide +kernel
theorem dX4_toAll_14 : decode cX4_toAll 14 = .ok (.iload_n 1, 1) := by decide +kernel
theorem dX4_toAll_15 : decode cX4_toAll 15 = .ok (.iconst 0, 1) := by decide +kernel
theorem dX4_toAll_16 : decode cX4_toAll 16 = .ok (.iastore, 1) := by decide +kernel
theorem dX4_toAll_17 : decode cX4_toAll 17 = .ok (.iconst 0, 1) := by decide +kernel
theorem dX4_toAll_18 : decode cX4_toAll 18 = .ok (.istore 4, 2) := by decide +kernel
theorem dX4_toAll_20 : decode cX4_toAll 20 = .ok (.iload 4, 2) := by decide +kernel
theorem dX4_toAll_22 : decode cX4_toAll 22 = .ok (.aload_n 0, 1) := by decide +kernel
theorem dX4_toAll_23 : decode cX4_toAll 23 = .ok (.getfield 108, 3) := by decide +kernel
theorem dX4_toAll_26 : decode cX4_toAll 26 = .ok (.if_icmp .ge 70, 3) := by decide +kernel
theorem dX4_toAll_29 : decode cX4_toAll 29 = .ok (.aload_n 0, 1) := by decide +kernel
theorem dX4_toAll_30 : decode cX4_toAll 30 = .ok (.iload_n 2, 1) := by decide +kernel
theorem dX4_toAll_31 : decode cX4_toAll 31 = .ok (.iload_n 1, 1) := by decide +kernel
theorem dX4_toAll_32 : decode cX4_toAll 32 = .ok (.iload 4, 2) := by decide +kernel
theorem dX4_toAll_34 : decode cX4_toAll 34 = .ok (.aload_n 0, 1) := by decide +kernel
theorem dX4_toAll_35 : decode cX4_toAll 35 = .ok (.getfield 39, 3) := by decide +kernel
theorem dX4_toAll_38 : decode cX4_toAll 38 = .ok (.iload_n 1, 1) := by decide +kernel
theorem dX4_toAll_39 : decode cX4_toAll 39 = .ok (.iaload, 1) := by decide +kernel
theorem dX4_toAll_40 : decode cX4_toAll 40 = .ok (.invokevirtual 121, 3) := by decide +kernel
theorem dX4_toAll_43 : decode cX4_toAll 43 = .ok (.istore 5, 2) := by decide +kernel
theorem dX4_toAll_45 : decode cX4_toAll 45 = .ok (.iconst 0, 1) := by decide +kernel
theorem dX4_toAll_46 : decode cX4_toAll 46 = .ok (.istore 6, 2) := by decide +kernel
theorem dX4_toAll_48 : decode cX4_toAll 48 = .ok (.iload 6, 2) := by decide +kernel
theorem dX4_toAll_50 : decode cX4_toAll 50 = .ok (.aload_n 0, 1) := by decide +kernel
theorem dX4_toAll_51 : decode cX4_toAll 51 = .ok (.getfield 108, 3) := by decide +kernel
theorem dX4_toAll_54 : decode cX4_toAll 54 = .ok (.if_icmp .ge 36, 3) := by decide +kernel
theorem dX4_toAll_57 : decode cX4_toAll 57 = .ok (.iload_n 2, 1) := by decide +kernel
theorem dX4_toAll_58 : decode cX4_toAll 58 = .ok (.iconst 2, 1) := by decide +kernel
theorem dX4_toAll_59 : decode cX4_toAll 59 = .ok (.if_icmp .ne 31, 3) := by decide +kernel
theorem dX4_toAll_62 : decode cX4_toAll 62 = .ok (.aload_n 0, 1) := by decide +kernel
theorem dX4_toAll_63 : decode cX4_toAll 63 = .ok (.getfield 23, 3) := by decide +kernel
theorem dX4_toAll_66 : decode cX4_toAll 66 = .ok (.bipush 31, 2) := by decide +kernel
theorem dX4_toAll_68 : decode cX4_toAll 68 = .ok (.iload 5, 2) := by decide +kernel
theorem dX4_toAll_70 : decode cX4_toAll 70 = .ok (.imul, 1) := by decide +kernel
theorem dX4_toAll_71 : decode cX4_toAll 71 = .ok (.iload 6, 2) := by decide +kernel
theorem dX4_toAll_73 : decode cX4_toAll 73 = .ok (.iadd, 1) := by decide +kernel
theorem dX4_toAll_74 : decode cX4_toAll 74 = .ok (.aload_n 3, 1) := by decide +kernel
theorem dX4_toAll_75 : decode cX4_toAll 75 = .ok (.bipush 31, 2) := by decide +kernel
theorem dX4_toAll_77 : decode cX4_toAll 77 = .ok (.iload_n 1, 1) := by decide +kernel
theorem dX4_toAll_78 : decode cX4_toAll 78 = .ok (.imul, 1) := by decide +kernel
theorem dX4_toAll_79 : decode cX4_toAll 79 = .ok (.iload 6, 2) := by decide +kernel
theorem dX4_toAll_81 : decode cX4_toAll 81 = .ok (.iadd, 1) := by decide +kernel
theorem dX4_toAll_82 : decode cX4_toAll 82 = .ok (.iaload, 1) := by decide +kernel
theorem dX4_toAll_83 : decode cX4_toAll 83 = .ok (.iastore, 1) := by decide +kernel
theorem dX4_toAll_84 : decode cX4_toAll 84 = .ok (.iinc 6 1, 3) := by decide +kernel
theorem dX4_toAll_87 : decode cX4_toAll 87 = .ok (.goto (-39), 3) := by decide +kernel
theorem dX4_toAll_90 : decode cX4_toAll 90 = .ok (.iinc 4 1, 3) := by decide +kernel
theorem dX4_toAll_93 : decode cX4_toAll 93 = .ok (.goto (-73), 3) := by decide +kernel
theorem dX4_toAll_96 : decode cX4_toAll 96 = .ok (.return_, 1) := by decide +kernel
theorem dX4_collect_0 : decode cX4_collect 0 = .ok (.aload_n 0, 1) := by decide +kernel
theorem dX4_collect_1 : decode cX4_collect 1 = .ok (.getfield 36, 3) := by decide +kernel
theorem dX4_collect_4 : decode cX4_collect 4 = .ok (.iload_n 1, 1) := by decide +kernel
theorem dX4_collect_5 : decode cX4_collect 5 = .ok (.iconst 1, 1) := by decide +kernel
theorem dX4_collect_6 : decode cX4_collect 6 = .ok (.iastore, 1) := by decide +kernel
theorem dX4_collect_7 : decode cX4_collect 7 = .ok (.aload_n 0, 1) := by decide +kernel
theorem dX4_collect_8 : decode cX4_collect 8 = .ok (.getfield 90, 3) := by decide +kernel
theorem dX4_collect_11 : decode cX4_collect 11 = .ok (.aload_n 0, 1) := by decide +kernel
theorem dX4_collect_12 : decode cX4_collect 12 = .ok (.getfield 42, 3) := by decide +kernel
theorem dX4_collect_15 : decode cX4_collect 15 = .ok (.iload_n 1, 1) := by decide +kernel
theorem dX4_collect_16 : decode cX4_collect 16 = .ok (.iaload, 1) := by decide +kernel
theorem dX4_collect_17 : decode cX4_collect 17 = .ok (.dup2, 1) := by decide +kernel
theorem dX4_collect_18 : decode cX4_collect 18 = .ok (.iaload, 1) := by decide +kernel
theorem dX4_collect_19 : decode cX4_collect 19 = .ok (.iconst 1, 1) := by decide +kernel
theorem dX4_collect_20 : decode cX4_collect 20 = .ok (.iadd, 1) := by decide +kernel
theorem dX4_collect_21 : decode cX4_collect 21 = .ok (.iastore, 1) := by decide +kernel
theorem dX4_collect_22 : decode cX4_collect 22 = .ok (.iconst 0, 1) := by decide +kernel
theorem dX4_collect_23 : decode cX4_collect 23 = .ok (.istore_n 2, 1) := by decide +kernel
theorem dX4_collect_24 : decode cX4_collect 24 = .ok (.iload_n 2, 1) := by decide +kernel
theorem dX4_collect_25 : decode cX4_collect 25 = .ok (.aload_n 0, 1) := by decide +kernel
theorem dX4_collect_26 : decode cX4_collect 26 = .ok (.getfield 108, 3) := by decide +kernel
theorem dX4_collect_29 : decode cX4_collect 29 = .ok (.if_icmp .ge 21, 3) := by decide +kernel
theorem dX4_collect_32 : decode cX4_collect 32 = .ok (.aload_n 0, 1) := by decide +kernel
theorem dX4_collect_33 : decode cX4_collect 33 = .ok (.getfield 57, 3) := by decide +kernel
theorem dX4_collect_36 : decode cX4_collect 36 = .ok (.bipush 31, 2) := by decide +kernel
theorem dX4_collect_38 : decode cX4_collect 38 = .ok (.iload_n 1, 1) := by decide +kernel
theorem dX4_collect_39 : decode cX4_collect 39 = .ok (.imul, 1) := by decide +kernel
theorem dX4_collect_40 : decode cX4_collect 40 = .ok (.iload_n 2, 1) := by decide +kernel
theorem dX4_collect_41 : decode cX4_collect 41 = .ok (.iadd, 1) := by decide +kernel
theorem dX4_collect_42 : decode cX4_collect 42 = .ok (.iconst 0, 1) := by decide +kernel
theorem dX4_collect_43 : decode cX4_collect 43 = .ok (.iastore, 1) := by decide +kernel
theorem dX4_collect_44 : decode cX4_collect 44 = .ok (.iinc 2 1, 3) := by decide +kernel
theorem dX4_collect_47 : decode cX4_collect 47 = .ok (.goto (-23), 3) := by decide +kernel
theorem dX4_collect_50 : decode cX4_collect 50 = .ok (.aload_n 0, 1) := by decide +kernel
theorem dX4_collect_51 : decode cX4_collect 51 = .ok (.iload_n 1, 1) := by decide +kernel
theorem dX4_collect_52 : decode cX4_collect 52 = .ok (.iconst 0, 1) := by decide +kernel
theorem dX4_collect_53 : decode cX4_collect 53 = .ok (.aload_n 0, 1) := by decide +kernel
theorem dX4_collect_54 : decode cX4_collect 54 = .ok (.getfield 57, 3) := by decide +kernel
theorem dX4_collect_57 : decode cX4_collect 57 = .ok (.invokevirtual 125, 3) := by decide +kernel
theorem dX4_collect_60 : decode cX4_collect 60 = .ok (.return_, 1) := by decide +kernel
theorem dX4_begin_0 : decode cX4_begin 0 = .ok (.aload_n 0, 1) := by decide +kernel
theorem dX4_begin_1 : decode cX4_begin 1 = .ok (.getfield 33, 3) := by decide +kernel
theorem dX4_begin_4 : decode cX4_begin 4 = .ok (.iload_n 1, 1) := by decide +kernel
theorem dX4_begin_5 : decode cX4_begin 5 = .ok (.baload, 1) := by decide +kernel
theorem dX4_begin_6 : decode cX4_begin 6 = .ok (.ifCond .ne 33, 3) := by decide +kernel
theorem dX4_begin_9 : decode cX4_begin 9 = .ok (.aload_n 0, 1) := by decide +kernel
theorem dX4_begin_10 : decode cX4_begin 10 = .ok (.getfield 36, 3) := by decide +kernel
theorem dX4_begin_13 : decode cX4_begin 13 = .ok (.iload_n 1, 1) := by decide +kernel
theorem dX4_begin_14 : decode cX4_begin 14 = .ok (.iaload, 1) := by decide +kernel
theorem dX4_begin_15 : decode cX4_begin 15 = .ok (.ifCond .ne 24, 3) := by decide +kernel
theorem dX4_begin_18 : decode cX4_begin 18 = .ok (.aload_n 0, 1) := by decide +kernel
theorem dX4_begin_19 : decode cX4_begin 19 = .ok (.getfield 129, 3) := by decide +kernel
theorem dX4_begin_22 : decode cX4_begin 22 = .ok (.sipush 511, 3) := by decide +kernel
theorem dX4_begin_25 : decode cX4_begin 25 = .ok (.if_icmp .eq 14, 3) := by decide +kernel
theorem dX4_begin_28 : decode cX4_begin 28 = .ok (.aload_n 0, 1) := by decide +kernel
theorem dX4_begin_29 : decode cX4_begin 29 = .ok (.aload_n 0, 1) := by decide +kernel
theorem dX4_begin_30 : decode cX4_begin 30 = .ok (.getfield 108, 3) := by decide +kernel
theorem dX4_begin_33 : decode cX4_begin 33 = .ok (.invokevirtual 132, 3) := by decide +kernel
theorem dX4_begin_36 : decode cX4_begin 36 = .ok (.ifCond .ne 5, 3) := by decide +kernel
theorem dX4_begin_39 : decode cX4_begin 39 = .ok (.iconst (-1), 1) := by decide +kernel
theorem dX4_begin_40 : decode cX4_begin 40 = .ok (.ireturn, 1) := by decide +kernel
theorem dX4_begin_41 : decode cX4_begin 41 = .ok (.aload_n 0, 1) := by decide +kernel
theorem dX4_begin_42 : decode cX4_begin 42 = .ok (.dup, 1) := by decide +kernel
theorem dX4_begin_43 : decode cX4_begin 43 = .ok (.getfield 136, 3) := by decide +kernel
theorem dX4_begin_46 : decode cX4_begin 46 = .ok (.iconst 1, 1) := by decide +kernel
theorem dX4_begin_47 : decode cX4_begin 47 = .ok (.iadd, 1) := by decide +kernel
theorem dX4_begin_48 : decode cX4_begin 48 = .ok (.putfield 136, 3) := by decide +kernel
theorem dX4_begin_51 : decode cX4_begin 51 = .ok (.aload_n 0, 1) := by decide +kernel
theorem dX4_begin_52 : decode cX4_begin 52 = .ok (.dup, 1) := by decide +kernel
theorem dX4_begin_53 : decode cX4_begin 53 = .ok (.getfield 129, 3) := by decide +kernel
theorem dX4_begin_56 : decode cX4_begin 56 = .ok (.iconst 1, 1) := by decide +kernel
theorem dX4_begin_57 : decode cX4_begin 57 = .ok (.iadd, 1) := by decide +kernel
theorem dX4_begin_58 : decode cX4_begin 58 = .ok (.putfield 129, 3) := by decide +kernel
theorem dX4_begin_61 : decode cX4_begin 61 = .ok (.aload_n 0, 1) := by decide +kernel
theorem dX4_begin_62 : decode cX4_begin 62 = .ok (.getfield 129, 3) := by decide +kernel
theorem dX4_begin_65 : decode cX4_begin 65 = .ok (.istore 5, 2) := by decide +kernel
theorem dX4_begin_67 : decode cX4_begin 67 = .ok (.aload_n 0, 1) := by decide +kernel
theorem dX4_begin_68 : decode cX4_begin 68 = .ok (.getfield 72, 3) := by decide +kernel
theorem dX4_begin_71 : decode cX4_begin 71 = .ok (.iload 5, 2) := by decide +kernel
theorem dX4_begin_73 : decode cX4_begin 73 = .ok (.iload_n 1, 1) := by decide +kernel
theorem dX4_begin_74 : decode cX4_begin 74 = .ok (.iastore, 1) := by decide +kernel
theorem dX4_begin_75 : decode cX4_begin 75 = .ok (.aload_n 0, 1) := by decide +kernel
theorem dX4_begin_76 : decode cX4_begin 76 = .ok (.getfield 75, 3) := by decide +kernel
theorem dX4_begin_79 : decode cX4_begin 79 = .ok (.iload 5, 2) := by decide +kernel
theorem dX4_begin_81 : decode cX4_begin 81 = .ok (.iload_n 2, 1) := by decide +kernel
theorem dX4_begin_82 : decode cX4_begin 82 = .ok (.iastore, 1) := by decide +kernel
theorem dX4_begin_83 : decode cX4_begin 83 = .ok (.aload_n 0, 1) := by decide +kernel
theorem dX4_begin_84 : decode cX4_begin 84 = .ok (.getfield 78, 3) := by decide +kernel
theorem dX4_begin_87 : decode cX4_begin 87 = .ok (.iload 5, 2) := by decide +kernel
theorem dX4_begin_89 : decode cX4_begin 89 = .ok (.iload_n 3, 1) := by decide +kernel
theorem dX4_begin_90 : decode cX4_begin 90 = .ok (.iastore, 1) := by decide +kernel
theorem dX4_begin_91 : decode cX4_begin 91 = .ok (.aload_n 0, 1) := by decide +kernel
theorem dX4_begin_92 : decode cX4_begin 92 = .ok (.getfield 81, 3) := by decide +kernel
theorem dX4_begin_95 : decode cX4_begin 95 = .ok (.iload 5, 2) := by decide +kernel
theorem dX4_begin_97 : decode cX4_begin 97 = .ok (.iload 4, 2) := by decide +kernel
theorem dX4_begin_99 : decode cX4_begin 99 = .ok (.iastore, 1) := by decide +kernel
theorem dX4_begin_100 : decode cX4_begin 100 = .ok (.aload_n 0, 1) := by decide +kernel
theorem dX4_begin_101 : decode cX4_begin 101 = .ok (.getfield 84, 3) := by decide +kernel
theorem dX4_begin_104 : decode cX4_begin 104 = .ok (.iload 5, 2) := by decide +kernel
theorem dX4_begin_106 : decode cX4_begin 106 = .ok (.aload_n 0, 1) := by decide +kernel
theorem dX4_begin_107 : decode cX4_begin 107 = .ok (.getfield 136, 3) := by decide +kernel
theorem dX4_begin_110 : decode cX4_begin 110 = .ok (.iastore, 1) := by decide +kernel
theorem dX4_begin_111 : decode cX4_begin 111 = .ok (.aload_n 0, 1) := by decide +kernel
theorem dX4_begin_112 : decode cX4_begin 112 = .ok (.getfield 87, 3) := by decide +kernel
theorem dX4_begin_115 : decode cX4_begin 115 = .ok (.iload 5, 2) := by decide +kernel
theorem dX4_begin_117 : decode cX4_begin 117 = .ok (.iconst (-1), 1) := by decide +kernel
theorem dX4_begin_118 : decode cX4_begin 118 = .ok (.iastore, 1) := by decide +kernel
theorem dX4_begin_119 : decode cX4_begin 119 = .ok (.aload_n 0, 1) := by decide +kernel
theorem dX4_begin_120 : decode cX4_begin 120 = .ok (.getfield 93, 3) := by decide +kernel
theorem dX4_begin_123 : decode cX4_begin 123 = .ok (.iload 5, 2) := by decide +kernel
theorem dX4_begin_125 : decode cX4_begin 125 = .ok (.iconst (-1), 1) := by decide +kernel
theorem dX4_begin_126 : decode cX4_begin 126 = .ok (.iastore, 1) := by decide +kernel
theorem dX4_begin_127 : decode cX4_begin 127 = .ok (.aload_n 0, 1) := by decide +kernel
theorem dX4_begin_128 : decode cX4_begin 128 = .ok (.getfield 42, 3) := by decide +kernel
theorem dX4_begin_131 : decode cX4_begin 131 = .ok (.iload_n 1, 1) := by decide +kernel
theorem dX4_begin_132 : decode cX4_begin 132 = .ok (.iload 5, 2) := by decide +kernel
theorem dX4_begin_134 : decode cX4_begin 134 = .ok (.iastore, 1) := by decide +kernel
theorem dX4_begin_135 : decode cX4_begin 135 = .ok (.aload_n 0, 1) := by decide +kernel
theorem dX4_begin_136 : decode cX4_begin 136 = .ok (.getfield 66, 3) := by decide +kernel
theorem dX4_begin_139 : decode cX4_begin 139 = .ok (.iload_n 1, 1) := by decide +kernel
theorem dX4_begin_140 : decode cX4_begin 140 = .ok (.iconst 0, 1) := by decide +kernel
theorem dX4_begin_141 : decode cX4_begin 141 = .ok (.bastore, 1) := by decide +kernel
theorem dX4_begin_142 : decode cX4_begin 142 = .ok (.iconst 0, 1) := by decide +kernel
theorem dX4_begin_143 : decode cX4_begin 143 = .ok (.istore 6, 2) := by decide +kernel
theorem dX4_begin_145 : decode cX4_begin 145 = .ok (.iload 6, 2) := by decide +kernel
theorem dX4_begin_147 : decode cX4_begin 147 = .ok (.aload_n 0, 1) := by decide +kernel
theorem dX4_begin_148 : decode cX4_begin 148 = .ok (.getfield 108, 3) := by decide +kernel
theorem dX4_begin_151 : decode cX4_begin 151 = .ok (.if_icmp .ge 22, 3) := by decide +kernel
theorem dX4_begin_154 : decode cX4_begin 154 = .ok (.aload_n 0, 1) := by decide +kernel
theorem dX4_begin_155 : decode cX4_begin 155 = .ok (.getfield 69, 3) := by decide +kernel
theorem dX4_begin_158 : decode cX4_begin 158 = .ok (.bipush 31, 2) := by decide +kernel
theorem dX4_begin_160 : decode cX4_begin 160 = .ok (.iload_n 1, 1) := by decide +kernel
theorem dX4_begin_161 : decode cX4_begin 161 = .ok (.imul, 1) := by decide +kernel
theorem dX4_begin_162 : decode cX4_begin 162 = .ok (.iload 6, 2) := by decide +kernel
theorem dX4_begin_164 : decode cX4_begin 164 = .ok (.iadd, 1) := by decide +kernel
theorem dX4_begin_165 : decode cX4_begin 165 = .ok (.iconst 0, 1) := by decide +kernel
theorem dX4_begin_166 : decode cX4_begin 166 = .ok (.iastore, 1) := by decide +kernel
theorem dX4_begin_167 : decode cX4_begin 167 = .ok (.iinc 6 1, 3) := by decide +kernel
theorem dX4_begin_170 : decode cX4_begin 170 = .ok (.goto (-25), 3) := by decide +kernel
theorem dX4_begin_173 : decode cX4_begin 173 = .ok (.aload_n 0, 1) := by decide +kernel
theorem dX4_begin_174 : decode cX4_begin 174 = .ok (.iload_n 1, 1) := by decide +kernel
theorem dX4_begin_175 : decode cX4_begin 175 = .ok (.invokevirtual 139, 3) := by decide +kernel
theorem dX4_begin_178 : decode cX4_begin 178 = .ok (.iload 5, 2) := by decide +kernel
theorem dX4_begin_180 : decode cX4_begin 180 = .ok (.ireturn, 1) := by decide +kernel
theorem dX4_update_0 : decode cX4_update 0 = .ok (.aload_n 0, 1) := by decide +kernel
theorem dX4_update_1 : decode cX4_update 1 = .ok (.aload_n 0, 1) := by decide +kernel
theorem dX4_update_2 : decode cX4_update 2 = .ok (.iload_n 1, 1) := by decide +kernel
theorem dX4_update_3 : decode cX4_update 3 = .ok (.invokevirtual 143, 3) := by decide +kernel
theorem dX4_update_6 : decode cX4_update 6 = .ok (.ifCond .ne 7, 3) := by decide +kernel
theorem dX4_update_9 : decode cX4_update 9 = .ok (.iconst 1, 1) := by decide +kernel
theorem dX4_update_10 : decode cX4_update 10 = .ok (.goto 17, 3) := by decide +kernel
theorem dX4_update_13 : decode cX4_update 13 = .ok (.iload_n 2, 1) := by decide +kernel
theorem dX4_update_14 : decode cX4_update 14 = .ok (.ifCond .lt 8, 3) := by decide +kernel
theorem dX4_update_17 : decode cX4_update 17 = .ok (.iload_n 2, 1) := by decide +kernel
theorem dX4_update_18 : decode cX4_update 18 = .ok (.iconst 3, 1) := by decide +kernel
theorem dX4_update_19 : decode cX4_update 19 = .ok (.if_icmp .le 7, 3) := by decide +kernel
theorem dX4_update_22 : decode cX4_update 22 = .ok (.iconst 2, 1) := by decide +kernel
theorem dX4_update_23 : decode cX4_update 23 = .ok (.goto 4, 3) := by decide +kernel
theorem dX4_update_26 : decode cX4_update 26 = .ok (.iconst 0, 1) := by decide +kernel
theorem dX4_update_27 : decode cX4_update 27 = .ok (.putfield 112, 3) := by decide +kernel
theorem dX4_update_30 : decode cX4_update 30 = .ok (.aload_n 0, 1) := by decide +kernel
theorem dX4_update_31 : decode cX4_update 31 = .ok (.getfield 112, 3) := by decide +kernel
theorem dX4_update_34 : decode cX4_update 34 = .ok (.ifCond .le 7, 3) := by decide +kernel
theorem dX4_update_37 : decode cX4_update 37 = .ok (.iconst 0, 1) := by decide +kernel
theorem dX4_update_38 : decode cX4_update 38 = .ok (.goto 12, 3) := by decide +kernel
theorem dX4_update_41 : decode cX4_update 41 = .ok (.aload_n 0, 1) := by decide +kernel
theorem dX4_update_42 : decode cX4_update 42 = .ok (.iload_n 1, 1) := by decide +kernel
theorem dX4_update_43 : decode cX4_update 43 = .ok (.iload_n 2, 1) := by decide +kernel
theorem dX4_update_44 : decode cX4_update 44 = .ok (.iload_n 3, 1) := by decide +kernel
theorem dX4_update_45 : decode cX4_update 45 = .ok (.iload 4, 2) := by decide +kernel
theorem dX4_update_47 : decode cX4_update 47 = .ok (.invokevirtual 146, 3) := by decide +kernel
theorem dX4_update_50 : decode cX4_update 50 = .ok (.ireturn, 1) := by decide +kernel
theorem dX4_query_0 : decode cX4_query 0 = .ok (.aload_n 0, 1) := by decide +kernel
theorem dX4_query_1 : decode cX4_query 1 = .ok (.aload_n 0, 1) := by decide +kernel
theorem dX4_query_2 : decode cX4_query 2 = .ok (.iload_n 1, 1) := by decide +kernel
theorem dX4_query_3 : decode cX4_query 3 = .ok (.invokevirtual 143, 3) := by decide +kernel
theorem dX4_query_6 : decode cX4_query 6 = .ok (.ifCond .ne 7, 3) := by decide +kernel
theorem dX4_query_9 : decode cX4_query 9 = .ok (.iconst 1, 1) := by decide +kernel
theorem dX4_query_10 : decode cX4_query 10 = .ok (.goto 20, 3) := by decide +kernel
theorem dX4_query_13 : decode cX4_query 13 = .ok (.iload_n 2, 1) := by decide +kernel
theorem dX4_query_14 : decode cX4_query 14 = .ok (.bipush 10, 2) := by decide +kernel
theorem dX4_query_16 : decode cX4_query 16 = .ok (.if_icmp .lt 9, 3) := by decide +kernel
theorem dX4_query_19 : decode cX4_query 19 = .ok (.iload_n 2, 1) := by decide +kernel
theorem dX4_query_20 : decode cX4_query 20 = .ok (.bipush 15, 2) := by decide +kernel
theorem dX4_query_22 : decode cX4_query 22 = .ok (.if_icmp .le 7, 3) := by decide +kernel
theorem dX4_query_25 : decode cX4_query 25 = .ok (.iconst 2, 1) := by decide +kernel
theorem dX4_query_26 : decode cX4_query 26 = .ok (.goto 4, 3) := by decide +kernel
theorem dX4_query_29 : decode cX4_query 29 = .ok (.iconst 0, 1) := by decide +kernel
theorem dX4_query_30 : decode cX4_query 30 = .ok (.putfield 112, 3) := by decide +kernel
theorem dX4_query_33 : decode cX4_query 33 = .ok (.aload_n 0, 1) := by decide +kernel
theorem dX4_query_34 : decode cX4_query 34 = .ok (.getfield 112, 3) := by decide +kernel
theorem dX4_query_37 : decode cX4_query 37 = .ok (.ifCond .le 7, 3) := by decide +kernel
theorem dX4_query_40 : decode cX4_query 40 = .ok (.iconst 0, 1) := by decide +kernel
theorem dX4_query_41 : decode cX4_query 41 = .ok (.goto 11, 3) := by decide +kernel
theorem dX4_query_44 : decode cX4_query 44 = .ok (.aload_n 0, 1) := by decide +kernel
theorem dX4_query_45 : decode cX4_query 45 = .ok (.iload_n 1, 1) := by decide +kernel
theorem dX4_query_46 : decode cX4_query 46 = .ok (.iload_n 2, 1) := by decide +kernel
theorem dX4_query_47 : decode cX4_query 47 = .ok (.iload_n 3, 1) := by decide +kernel
theorem dX4_query_48 : decode cX4_query 48 = .ok (.iconst 0, 1) := by decide +kernel
theorem dX4_query_49 : decode cX4_query 49 = .ok (.invokevirtual 146, 3) := by decide +kernel
theorem dX4_query_52 : decode cX4_query 52 = .ok (.ireturn, 1) := by decide +kernel
theorem dX4_isSame_0 : decode cX4_isSame 0 = .ok (.iconst 0, 1) := by decide +kernel
theorem dX4_isSame_1 : decode cX4_isSame 1 = .ok (.istore_n 2, 1) := by decide +kernel
theorem dX4_isSame_2 : decode cX4_isSame 2 = .ok (.iload_n 2, 1) := by decide +kernel
theorem dX4_isSame_3 : decode cX4_isSame 3 = .ok (.aload_n 0, 1) := by decide +kernel
theorem dX4_isSame_4 : decode cX4_isSame 4 = .ok (.getfield 108, 3) := by decide +kernel
theorem dX4_isSame_7 : decode cX4_isSame 7 = .ok (.if_icmp .ge 36, 3) := by decide +kernel
theorem dX4_isSame_10 : decode cX4_isSame 10 = .ok (.aload_n 0, 1) := by decide +kernel
theorem dX4_isSame_11 : decode cX4_isSame 11 = .ok (.getfield 63, 3) := by decide +kernel
theorem dX4_isSame_14 : decode cX4_isSame 14 = .ok (.bipush 31, 2) := by decide +kernel
theorem dX4_isSame_16 : decode cX4_isSame 16 = .ok (.iload_n 1, 1) := by decide +kernel
theorem dX4_isSame_17 : decode cX4_isSame 17 = .ok (.imul, 1) := by decide +kernel
theorem dX4_isSame_18 : decode cX4_isSame 18 = .ok (.iload_n 2, 1) := by decide +kernel
theorem dX4_isSame_19 : decode cX4_isSame 19 = .ok (.iadd, 1) := by decide +kernel
theorem dX4_isSame_20 : decode cX4_isSame 20 = .ok (.iaload, 1) := by decide +kernel
theorem dX4_isSame_21 : decode cX4_isSame 21 = .ok (.aload_n 0, 1) := by decide +kernel
theorem dX4_isSame_22 : decode cX4_isSame 22 = .ok (.getfield 60, 3) := by decide +kernel
theorem dX4_isSame_25 : decode cX4_isSame 25 = .ok (.bipush 31, 2) := by decide +kernel
theorem dX4_isSame_27 : decode cX4_isSame 27 = .ok (.iload_n 1, 1) := by decide +kernel
theorem dX4_isSame_28 : decode cX4_isSame 28 = .ok (.imul, 1) := by decide +kernel
theorem dX4_isSame_29 : decode cX4_isSame 29 = .ok (.iload_n 2, 1) := by decide +kernel
theorem dX4_isSame_30 : decode cX4_isSame 30 = .ok (.iadd, 1) := by decide +kernel
theorem dX4_isSame_31 : decode cX4_isSame 31 = .ok (.iaload, 1) := by decide +kernel
theorem dX4_isSame_32 : decode cX4_isSame 32 = .ok (.if_icmp .eq 5, 3) := by decide +kernel
theorem dX4_isSame_35 : decode cX4_isSame 35 = .ok (.iconst 0, 1) := by decide +kernel
theorem dX4_isSame_36 : decode cX4_isSame 36 = .ok (.ireturn, 1) := by decide +kernel
theorem dX4_isSame_37 : decode cX4_isSame 37 = .ok (.iinc 2 1, 3) := by decide +kernel
theorem dX4_isSame_40 : decode cX4_isSame 40 = .ok (.goto (-38), 3) := by decide +kernel
theorem dX4_isSame_43 : decode cX4_isSame 43 = .ok (.iconst 1, 1) := by decide +kernel
theorem dX4_isSame_44 : decode cX4_isSame 44 = .ok (.ireturn, 1) := by decide +kernel
theorem dX4_movedTwice_0 : decode cX4_movedTwice 0 = .ok (.iconst 0, 1) := by decide +kernel
theorem dX4_movedTwice_1 : decode cX4_movedTwice 1 = .ok (.istore_n 2, 1) := by decide +kernel
theorem dX4_movedTwice_2 : decode cX4_movedTwice 2 = .ok (.iload_n 2, 1) := by decide +kernel
theorem dX4_movedTwice_3 : decode cX4_movedTwice 3 = .ok (.aload_n 0, 1) := by decide +kernel
theorem dX4_movedTwice_4 : decode cX4_movedTwice 4 = .ok (.getfield 108, 3) := by decide +kernel
theorem dX4_movedTwice_7 : decode cX4_movedTwice 7 = .ok (.if_icmp .ge 67, 3) := by decide +kernel
theorem dX4_movedTwice_10 : decode cX4_movedTwice 10 = .ok (.aload_n 0, 1) := by decide +kernel
theorem dX4_movedTwice_11 : decode cX4_movedTwice 11 = .ok (.getfield 63, 3) := by decide +kernel
theorem dX4_movedTwice_14 : decode cX4_movedTwice 14 = .ok (.bipush 31, 2) := by decide +kernel
theorem dX4_movedTwice_16 : decode cX4_movedTwice 16 = .ok (.iload_n 1, 1) := by decide +kernel
theorem dX4_movedTwice_17 : decode cX4_movedTwice 17 = .ok (.imul, 1) := by decide +kernel
theorem dX4_movedTwice_18 : decode cX4_movedTwice 18 = .ok (.iload_n 2, 1) := by decide +kernel
theorem dX4_movedTwice_19 : decode cX4_movedTwice 19 = .ok (.iadd, 1) := by decide +kernel
theorem dX4_movedTwice_20 : decode cX4_movedTwice 20 = .ok (.iaload, 1) := by decide +kernel
theorem dX4_movedTwice_21 : decode cX4_movedTwice 21 = .ok (.aload_n 0, 1) := by decide +kernel
theorem dX4_movedTwice_22 : decode cX4_movedTwice 22 = .ok (.getfield 60, 3) := by decide +kernel
theorem dX4_movedTwice_25 : decode cX4_movedTwice 25 = .ok (.bipush 31, 2) := by decide +kernel
theorem dX4_movedTwice_27 : decode cX4_movedTwice 27 = .ok (.iload_n 1, 1) := by decide +kernel
theorem dX4_movedTwice_28 : decode cX4_movedTwice 28 = .ok (.imul, 1) := by decide +kernel
theorem dX4_movedTwice_29 : decode cX4_movedTwice 29 = .ok (.iload_n 2, 1) := by decide +kernel
theorem dX4_movedTwice_30 : decode cX4_movedTwice 30 = .ok (.iadd, 1) := by decide +kernel
theorem dX4_movedTwice_31 : decode cX4_movedTwice 31 = .ok (.iaload, 1) := by decide +kernel
theorem dX4_movedTwice_32 : decode cX4_movedTwice 32 = .ok (.if_icmp .eq 7, 3) := by decide +kernel
theorem dX4_movedTwice_35 : decode cX4_movedTwice 35 = .ok (.iconst 1, 1) := by decide +kernel
theorem dX4_movedTwice_36 : decode cX4_movedTwice 36 = .ok (.goto 4, 3) := by decide +kernel
theorem dX4_movedTwice_39 : decode cX4_movedTwice 39 = .ok (.iconst 0, 1) := by decide +kernel
theorem dX4_movedTwice_40 : decode cX4_movedTwice 40 = .ok (.istore_n 3, 1) := by decide +kernel
theorem dX4_movedTwice_41 : decode cX4_movedTwice 41 = .ok (.aload_n 0, 1) := by decide +kernel
theorem dX4_movedTwice_42 : decode cX4_movedTwice 42 = .ok (.getfield 69, 3) := by decide +kernel
theorem dX4_movedTwice_45 : decode cX4_movedTwice 45 = .ok (.bipush 31, 2) := by decide +kernel
theorem dX4_movedTwice_47 : decode cX4_movedTwice 47 = .ok (.iload_n 1, 1) := by decide +kernel
theorem dX4_movedTwice_48 : decode cX4_movedTwice 48 = .ok (.imul, 1) := by decide +kernel
theorem dX4_movedTwice_49 : decode cX4_movedTwice 49 = .ok (.iload_n 2, 1) := by decide +kernel
theorem dX4_movedTwice_50 : decode cX4_movedTwice 50 = .ok (.iadd, 1) := by decide +kernel
theorem dX4_movedTwice_51 : decode cX4_movedTwice 51 = .ok (.iaload, 1) := by decide +kernel
theorem dX4_movedTwice_52 : decode cX4_movedTwice 52 = .ok (.iload_n 3, 1) := by decide +kernel
theorem dX4_movedTwice_53 : decode cX4_movedTwice 53 = .ok (.ifCond .eq 7, 3) := by decide +kernel
theorem dX4_movedTwice_56 : decode cX4_movedTwice 56 = .ok (.iconst 1, 1) := by decide +kernel
theorem dX4_movedTwice_57 : decode cX4_movedTwice 57 = .ok (.goto 4, 3) := by decide +kernel
theorem dX4_movedTwice_60 : decode cX4_movedTwice 60 = .ok (.iconst 0, 1) := by decide +kernel
theorem dX4_movedTwice_61 : decode cX4_movedTwice 61 = .ok (.iadd, 1) := by decide +kernel
theorem dX4_movedTwice_62 : decode cX4_movedTwice 62 = .ok (.iconst 2, 1) := by decide +kernel
theorem dX4_movedTwice_63 : decode cX4_movedTwice 63 = .ok (.if_icmp .lt 5, 3) := by decide +kernel
theorem dX4_movedTwice_66 : decode cX4_movedTwice 66 = .ok (.iload_n 2, 1) := by decide +kernel
theorem dX4_movedTwice_67 : decode cX4_movedTwice 67 = .ok (.ireturn, 1) := by decide +kernel
theorem dX4_movedTwice_68 : decode cX4_movedTwice 68 = .ok (.iinc 2 1, 3) := by decide +kernel
theorem dX4_movedTwice_71 : decode cX4_movedTwice 71 = .ok (.goto (-69), 3) := by decide +kernel
theorem dX4_movedTwice_74 : decode cX4_movedTwice 74 = .ok (.iconst (-1), 1) := by decide +kernel
theorem dX4_movedTwice_75 : decode cX4_movedTwice 75 = .ok (.ireturn, 1) := by decide +kernel
end
section
theorem dX4_isSeen_0 : decode cX4_isSeen 0 = .ok (.aload_n 0, 1) := by decide +kernel
theorem dX4_isSeen_1 : decode cX4_isSeen 1 = .ok (.getfield 66, 3) := by decide +kernel
theorem dX4_isSeen_4 : decode cX4_isSeen 4 = .ok (.iload_n 1, 1) := by decide +kernel
theorem dX4_isSeen_5 : decode cX4_isSeen 5 = .ok (.baload, 1) := by decide +kernel
theorem dX4_isSeen_6 : decode cX4_isSeen 6 = .ok (.ifCond .eq 24, 3) := by decide +kernel
theorem dX4_isSeen_9 : decode cX4_isSeen 9 = .ok (.aload_n 0, 1) := by decide +kernel
theorem dX4_isSeen_10 : decode cX4_isSeen 10 = .ok (.iload_n 1, 1) := by decide +kernel
theorem dX4_isSeen_11 : decode cX4_isSeen 11 = .ok (.invokevirtual 149, 3) := by decide +kernel
theorem dX4_isSeen_14 : decode cX4_isSeen 14 = .ok (.ifCond .ne 12, 3) := by decide +kernel
theorem dX4_isSeen_17 : decode cX4_isSeen 17 = .ok (.aload_n 0, 1) := by decide +kernel
theorem dX4_isSeen_18 : decode cX4_isSeen 18 = .ok (.iload_n 1, 1) := by decide +kernel
theorem dX4_isSeen_19 : decode cX4_isSeen 19 = .ok (.invokevirtual 152, 3) := by decide +kernel
theorem dX4_isSeen_22 : decode cX4_isSeen 22 = .ok (.iconst (-1), 1) := by decide +kernel
theorem dX4_isSeen_23 : decode cX4_isSeen 23 = .ok (.if_icmp .eq 7, 3) := by decide +kernel
theorem dX4_isSeen_26 : decode cX4_isSeen 26 = .ok (.iconst 1, 1) := by decide +kernel
theorem dX4_isSeen_27 : decode cX4_isSeen 27 = .ok (.goto 4, 3) := by decide +kernel
theorem dX4_isSeen_30 : decode cX4_isSeen 30 = .ok (.iconst 0, 1) := by decide +kernel
theorem dX4_isSeen_31 : decode cX4_isSeen 31 = .ok (.ireturn, 1) := by decide +kernel
theorem dX4_isQuery_0 : decode cX4_isQuery 0 = .ok (.aload_n 0, 1) := by decide +kernel
theorem dX4_isQuery_1 : decode cX4_isQuery 1 = .ok (.getfield 75, 3) := by decide +kernel
theorem dX4_isQuery_4 : decode cX4_isQuery 4 = .ok (.iload_n 1, 1) := by decide +kernel
theorem dX4_isQuery_5 : decode cX4_isQuery 5 = .ok (.iaload, 1) := by decide +kernel
theorem dX4_isQuery_6 : decode cX4_isQuery 6 = .ok (.bipush 10, 2) := by decide +kernel
theorem dX4_isQuery_8 : decode cX4_isQuery 8 = .ok (.if_icmp .lt 7, 3) := by decide +kernel
theorem dX4_isQuery_11 : decode cX4_isQuery 11 = .ok (.iconst 1, 1) := by decide +kernel
theorem dX4_isQuery_12 : decode cX4_isQuery 12 = .ok (.goto 4, 3) := by decide +kernel
theorem dX4_isQuery_15 : decode cX4_isQuery 15 = .ok (.iconst 0, 1) := by decide +kernel
theorem dX4_isQuery_16 : decode cX4_isQuery 16 = .ok (.ireturn, 1) := by decide +kernel
theorem dX4_ends_0 : decode cX4_ends 0 = .ok (.aload_n 0, 1) := by decide +kernel
theorem dX4_ends_1 : decode cX4_ends 1 = .ok (.getfield 87, 3) := by decide +kernel
theorem dX4_ends_4 : decode cX4_ends 4 = .ok (.aload_n 0, 1) := by decide +kernel
theorem dX4_ends_5 : decode cX4_ends 5 = .ok (.getfield 42, 3) := by decide +kernel
theorem dX4_ends_8 : decode cX4_ends 8 = .ok (.iload_n 1, 1) := by decide +kernel
theorem dX4_ends_9 : decode cX4_ends 9 = .ok (.iaload, 1) := by decide +kernel
theorem dX4_ends_10 : decode cX4_ends 10 = .ok (.aload_n 0, 1) := by decide +kernel
theorem dX4_ends_11 : decode cX4_ends 11 = .ok (.getfield 136, 3) := by decide +kernel
theorem dX4_ends_14 : decode cX4_ends 14 = .ok (.iastore, 1) := by decide +kernel
theorem dX4_ends_15 : decode cX4_ends 15 = .ok (.aload_n 0, 1) := by decide +kernel
theorem dX4_ends_16 : decode cX4_ends 16 = .ok (.getfield 36, 3) := by decide +kernel
theorem dX4_ends_19 : decode cX4_ends 19 = .ok (.iload_n 1, 1) := by decide +kernel
theorem dX4_ends_20 : decode cX4_ends 20 = .ok (.iconst 0, 1) := by decide +kernel
theorem dX4_ends_21 : decode cX4_ends 21 = .ok (.iastore, 1) := by decide +kernel
theorem dX4_ends_22 : decode cX4_ends 22 = .ok (.aload_n 0, 1) := by decide +kernel
theorem dX4_ends_23 : decode cX4_ends 23 = .ok (.getfield 45, 3) := by decide +kernel
theorem dX4_ends_26 : decode cX4_ends 26 = .ok (.iload_n 1, 1) := by decide +kernel
theorem dX4_ends_27 : decode cX4_ends 27 = .ok (.iconst 0, 1) := by decide +kernel
theorem dX4_ends_28 : decode cX4_ends 28 = .ok (.iastore, 1) := by decide +kernel
theorem dX4_ends_29 : decode cX4_ends 29 = .ok (.aload_n 0, 1) := by decide +kernel
theorem dX4_ends_30 : decode cX4_ends 30 = .ok (.getfield 42, 3) := by decide +kernel
theorem dX4_ends_33 : decode cX4_ends 33 = .ok (.iload_n 1, 1) := by decide +kernel
theorem dX4_ends_34 : decode cX4_ends 34 = .ok (.iconst 0, 1) := by decide +kernel
theorem dX4_ends_35 : decode cX4_ends 35 = .ok (.iastore, 1) := by decide +kernel
theorem dX4_ends_36 : decode cX4_ends 36 = .ok (.return_, 1) := by decide +kernel
theorem dX4_take_0 : decode cX4_take 0 = .ok (.aload_n 0, 1) := by decide +kernel
theorem dX4_take_1 : decode cX4_take 1 = .ok (.getfield 42, 3) := by decide +kernel
theorem dX4_take_4 : decode cX4_take 4 = .ok (.iload_n 1, 1) := by decide +kernel
theorem dX4_take_5 : decode cX4_take 5 = .ok (.iaload, 1) := by decide +kernel
theorem dX4_take_6 : decode cX4_take 6 = .ok (.istore_n 2, 1) := by decide +kernel
theorem dX4_take_7 : decode cX4_take 7 = .ok (.aload_n 0, 1) := by decide +kernel
theorem dX4_take_8 : decode cX4_take 8 = .ok (.iload_n 1, 1) := by decide +kernel
theorem dX4_take_9 : decode cX4_take 9 = .ok (.invokevirtual 149, 3) := by decide +kernel
theorem dX4_take_12 : decode cX4_take 12 = .ok (.ifCond .eq 7, 3) := by decide +kernel
theorem dX4_take_15 : decode cX4_take 15 = .ok (.iconst (-1), 1) := by decide +kernel
theorem dX4_take_16 : decode cX4_take 16 = .ok (.goto 8, 3) := by decide +kernel
theorem dX4_take_19 : decode cX4_take 19 = .ok (.aload_n 0, 1) := by decide +kernel
theorem dX4_take_20 : decode cX4_take 20 = .ok (.iload_n 1, 1) := by decide +kernel
theorem dX4_take_21 : decode cX4_take 21 = .ok (.invokevirtual 152, 3) := by decide +kernel
theorem dX4_take_24 : decode cX4_take 24 = .ok (.istore_n 3, 1) := by decide +kernel
theorem dX4_take_25 : decode cX4_take 25 = .ok (.iload_n 3, 1) := by decide +kernel
theorem dX4_take_26 : decode cX4_take 26 = .ok (.iconst (-1), 1) := by decide +kernel
theorem dX4_take_27 : decode cX4_take 27 = .ok (.if_icmp .ne 7, 3) := by decide +kernel
theorem dX4_take_30 : decode cX4_take 30 = .ok (.iconst 0, 1) := by decide +kernel
theorem dX4_take_31 : decode cX4_take 31 = .ok (.goto 27, 3) := by decide +kernel
theorem dX4_take_34 : decode cX4_take 34 = .ok (.aload_n 0, 1) := by decide +kernel
theorem dX4_take_35 : decode cX4_take 35 = .ok (.getfield 54, 3) := by decide +kernel
theorem dX4_take_38 : decode cX4_take 38 = .ok (.sipush 512, 3) := by decide +kernel
theorem dX4_take_41 : decode cX4_take 41 = .ok (.iload_n 3, 1) := by decide +kernel
theorem dX4_take_42 : decode cX4_take 42 = .ok (.imul, 1) := by decide +kernel
theorem dX4_take_43 : decode cX4_take 43 = .ok (.aload_n 0, 1) := by decide +kernel
theorem dX4_take_44 : decode cX4_take 44 = .ok (.getfield 60, 3) := by decide +kernel
theorem dX4_take_47 : decode cX4_take 47 = .ok (.bipush 31, 2) := by decide +kernel
theorem dX4_take_49 : decode cX4_take 49 = .ok (.iload_n 1, 1) := by decide +kernel
theorem dX4_take_50 : decode cX4_take 50 = .ok (.imul, 1) := by decide +kernel
theorem dX4_take_51 : decode cX4_take 51 = .ok (.iload_n 3, 1) := by decide +kernel
theorem dX4_take_52 : decode cX4_take 52 = .ok (.iadd, 1) := by decide +kernel
theorem dX4_take_53 : decode cX4_take 53 = .ok (.iaload, 1) := by decide +kernel
theorem dX4_take_54 : decode cX4_take 54 = .ok (.iadd, 1) := by decide +kernel
theorem dX4_take_55 : decode cX4_take 55 = .ok (.iconst 1, 1) := by decide +kernel
theorem dX4_take_56 : decode cX4_take 56 = .ok (.isub, 1) := by decide +kernel
theorem dX4_take_57 : decode cX4_take 57 = .ok (.iaload, 1) := by decide +kernel
theorem dX4_take_58 : decode cX4_take 58 = .ok (.istore 4, 2) := by decide +kernel
theorem dX4_take_60 : decode cX4_take 60 = .ok (.iconst 0, 1) := by decide +kernel
theorem dX4_take_61 : decode cX4_take 61 = .ok (.istore 5, 2) := by decide +kernel
theorem dX4_take_63 : decode cX4_take 63 = .ok (.iload 5, 2) := by decide +kernel
theorem dX4_take_65 : decode cX4_take 65 = .ok (.aload_n 0, 1) := by decide +kernel
theorem dX4_take_66 : decode cX4_take 66 = .ok (.getfield 108, 3) := by decide +kernel
theorem dX4_take_69 : decode cX4_take 69 = .ok (.if_icmp .ge 54, 3) := by decide +kernel
theorem dX4_take_72 : decode cX4_take 72 = .ok (.aload_n 0, 1) := by decide +kernel
theorem dX4_take_73 : decode cX4_take 73 = .ok (.getfield 99, 3) := by decide +kernel
theorem dX4_take_76 : decode cX4_take 76 = .ok (.bipush 31, 2) := by decide +kernel
theorem dX4_take_78 : decode cX4_take 78 = .ok (.iload_n 2, 1) := by decide +kernel
theorem dX4_take_79 : decode cX4_take 79 = .ok (.imul, 1) := by decide +kernel
theorem dX4_take_80 : decode cX4_take 80 = .ok (.iload 5, 2) := by decide +kernel
theorem dX4_take_82 : decode cX4_take 82 = .ok (.iadd, 1) := by decide +kernel
theorem dX4_take_83 : decode cX4_take 83 = .ok (.iload_n 3, 1) := by decide +kernel
theorem dX4_take_84 : decode cX4_take 84 = .ok (.iconst (-1), 1) := by decide +kernel
theorem dX4_take_85 : decode cX4_take 85 = .ok (.if_icmp .ne 18, 3) := by decide +kernel
theorem dX4_take_88 : decode cX4_take 88 = .ok (.aload_n 0, 1) := by decide +kernel
theorem dX4_take_89 : decode cX4_take 89 = .ok (.getfield 60, 3) := by decide +kernel
theorem dX4_take_92 : decode cX4_take 92 = .ok (.bipush 31, 2) := by decide +kernel
theorem dX4_take_94 : decode cX4_take 94 = .ok (.iload_n 1, 1) := by decide +kernel
theorem dX4_take_95 : decode cX4_take 95 = .ok (.imul, 1) := by decide +kernel
theorem dX4_take_96 : decode cX4_take 96 = .ok (.iload 5, 2) := by decide +kernel
theorem dX4_take_98 : decode cX4_take 98 = .ok (.iadd, 1) := by decide +kernel
theorem dX4_take_99 : decode cX4_take 99 = .ok (.iaload, 1) := by decide +kernel
theorem dX4_take_100 : decode cX4_take 100 = .ok (.goto 16, 3) := by decide +kernel
theorem dX4_take_103 : decode cX4_take 103 = .ok (.aload_n 0, 1) := by decide +kernel
theorem dX4_take_104 : decode cX4_take 104 = .ok (.getfield 99, 3) := by decide +kernel
theorem dX4_take_107 : decode cX4_take 107 = .ok (.bipush 31, 2) := by decide +kernel
theorem dX4_take_109 : decode cX4_take 109 = .ok (.iload 4, 2) := by decide +kernel
theorem dX4_take_111 : decode cX4_take 111 = .ok (.imul, 1) := by decide +kernel
theorem dX4_take_112 : decode cX4_take 112 = .ok (.iload 5, 2) := by decide +kernel
theorem dX4_take_114 : decode cX4_take 114 = .ok (.iadd, 1) := by decide +kernel
theorem dX4_take_115 : decode cX4_take 115 = .ok (.iaload, 1) := by decide +kernel
theorem dX4_take_116 : decode cX4_take 116 = .ok (.iastore, 1) := by decide +kernel
theorem dX4_take_117 : decode cX4_take 117 = .ok (.iinc 5 1, 3) := by decide +kernel
theorem dX4_take_120 : decode cX4_take 120 = .ok (.goto (-57), 3) := by decide +kernel
theorem dX4_take_123 : decode cX4_take 123 = .ok (.aload_n 0, 1) := by decide +kernel
theorem dX4_take_124 : decode cX4_take 124 = .ok (.getfield 102, 3) := by decide +kernel
theorem dX4_take_127 : decode cX4_take 127 = .ok (.iload_n 2, 1) := by decide +kernel
theorem dX4_take_128 : decode cX4_take 128 = .ok (.iconst 1, 1) := by decide +kernel
theorem dX4_take_129 : decode cX4_take 129 = .ok (.bastore, 1) := by decide +kernel
theorem dX4_take_130 : decode cX4_take 130 = .ok (.aload_n 0, 1) := by decide +kernel
theorem dX4_take_131 : decode cX4_take 131 = .ok (.getfield 93, 3) := by decide +kernel
theorem dX4_take_134 : decode cX4_take 134 = .ok (.iload_n 2, 1) := by decide +kernel
theorem dX4_take_135 : decode cX4_take 135 = .ok (.iload_n 3, 1) := by decide +kernel
theorem dX4_take_136 : decode cX4_take 136 = .ok (.iastore, 1) := by decide +kernel
theorem dX4_take_137 : decode cX4_take 137 = .ok (.aload_n 0, 1) := by decide +kernel
theorem dX4_take_138 : decode cX4_take 138 = .ok (.dup, 1) := by decide +kernel
theorem dX4_take_139 : decode cX4_take 139 = .ok (.getfield 156, 3) := by decide +kernel
theorem dX4_take_142 : decode cX4_take 142 = .ok (.iload_n 3, 1) := by decide +kernel
theorem dX4_take_143 : decode cX4_take 143 = .ok (.iconst (-1), 1) := by decide +kernel
theorem dX4_take_144 : decode cX4_take 144 = .ok (.if_icmp .ne 7, 3) := by decide +kernel
theorem dX4_take_147 : decode cX4_take 147 = .ok (.iconst 0, 1) := by decide +kernel
theorem dX4_take_148 : decode cX4_take 148 = .ok (.goto 4, 3) := by decide +kernel
theorem dX4_take_151 : decode cX4_take 151 = .ok (.iconst 1, 1) := by decide +kernel
theorem dX4_take_152 : decode cX4_take 152 = .ok (.iadd, 1) := by decide +kernel
theorem dX4_take_153 : decode cX4_take 153 = .ok (.putfield 156, 3) := by decide +kernel
theorem dX4_take_156 : decode cX4_take 156 = .ok (.aload_n 0, 1) := by decide +kernel
theorem dX4_take_157 : decode cX4_take 157 = .ok (.iload_n 2, 1) := by decide +kernel
theorem dX4_take_158 : decode cX4_take 158 = .ok (.invokevirtual 159, 3) := by decide +kernel
theorem dX4_take_161 : decode cX4_take 161 = .ok (.ifCond .eq 9, 3) := by decide +kernel
theorem dX4_take_164 : decode cX4_take 164 = .ok (.aload_n 0, 1) := by decide +kernel
theorem dX4_take_165 : decode cX4_take 165 = .ok (.iload_n 1, 1) := by decide +kernel
theorem dX4_take_166 : decode cX4_take 166 = .ok (.invokevirtual 162, 3) := by decide +kernel
theorem dX4_take_169 : decode cX4_take 169 = .ok (.return_, 1) := by decide +kernel
theorem dX4_take_170 : decode cX4_take 170 = .ok (.aload_n 0, 1) := by decide +kernel
theorem dX4_take_171 : decode cX4_take 171 = .ok (.getfield 54, 3) := by decide +kernel
theorem dX4_take_174 : decode cX4_take 174 = .ok (.sipush 512, 3) := by decide +kernel
theorem dX4_take_177 : decode cX4_take 177 = .ok (.iload_n 1, 1) := by decide +kernel
theorem dX4_take_178 : decode cX4_take 178 = .ok (.imul, 1) := by decide +kernel
theorem dX4_take_179 : decode cX4_take 179 = .ok (.aload_n 0, 1) := by decide +kernel
theorem dX4_take_180 : decode cX4_take 180 = .ok (.getfield 51, 3) := by decide +kernel
theorem dX4_take_183 : decode cX4_take 183 = .ok (.iload_n 1, 1) := by decide +kernel
theorem dX4_take_184 : decode cX4_take 184 = .ok (.iaload, 1) := by decide +kernel
theorem dX4_take_185 : decode cX4_take 185 = .ok (.iadd, 1) := by decide +kernel
theorem dX4_take_186 : decode cX4_take 186 = .ok (.iload_n 2, 1) := by decide +kernel
theorem dX4_take_187 : decode cX4_take 187 = .ok (.iastore, 1) := by decide +kernel
theorem dX4_take_188 : decode cX4_take 188 = .ok (.aload_n 0, 1) := by decide +kernel
theorem dX4_take_189 : decode cX4_take 189 = .ok (.getfield 51, 3) := by decide +kernel
theorem dX4_take_192 : decode cX4_take 192 = .ok (.iload_n 1, 1) := by decide +kernel
theorem dX4_take_193 : decode cX4_take 193 = .ok (.dup2, 1) := by decide +kernel
theorem dX4_take_194 : decode cX4_take 194 = .ok (.iaload, 1) := by decide +kernel
theorem dX4_take_195 : decode cX4_take 195 = .ok (.iconst 1, 1) := by decide +kernel
theorem dX4_take_196 : decode cX4_take 196 = .ok (.iadd, 1) := by decide +kernel
theorem dX4_take_197 : decode cX4_take 197 = .ok (.iastore, 1) := by decide +kernel
theorem dX4_take_198 : decode cX4_take 198 = .ok (.aload_n 0, 1) := by decide +kernel
theorem dX4_take_199 : decode cX4_take 199 = .ok (.getfield 96, 3) := by decide +kernel
theorem dX4_take_202 : decode cX4_take 202 = .ok (.iload_n 2, 1) := by decide +kernel
theorem dX4_take_203 : decode cX4_take 203 = .ok (.aload_n 0, 1) := by decide +kernel
theorem dX4_take_204 : decode cX4_take 204 = .ok (.getfield 51, 3) := by decide +kernel
theorem dX4_take_207 : decode cX4_take 207 = .ok (.iload_n 1, 1) := by decide +kernel
theorem dX4_take_208 : decode cX4_take 208 = .ok (.iaload, 1) := by decide +kernel
theorem dX4_take_209 : decode cX4_take 209 = .ok (.iastore, 1) := by decide +kernel
theorem dX4_take_210 : decode cX4_take 210 = .ok (.iconst 0, 1) := by decide +kernel
theorem dX4_take_211 : decode cX4_take 211 = .ok (.istore 5, 2) := by decide +kernel
theorem dX4_take_213 : decode cX4_take 213 = .ok (.iload 5, 2) := by decide +kernel
theorem dX4_take_215 : decode cX4_take 215 = .ok (.aload_n 0, 1) := by decide +kernel
theorem dX4_take_216 : decode cX4_take 216 = .ok (.getfield 108, 3) := by decide +kernel
theorem dX4_take_219 : decode cX4_take 219 = .ok (.if_icmp .ge 37, 3) := by decide +kernel
theorem dX4_take_222 : decode cX4_take 222 = .ok (.aload_n 0, 1) := by decide +kernel
theorem dX4_take_223 : decode cX4_take 223 = .ok (.getfield 57, 3) := by decide +kernel
theorem dX4_take_226 : decode cX4_take 226 = .ok (.bipush 31, 2) := by decide +kernel
theorem dX4_take_228 : decode cX4_take 228 = .ok (.iload_n 1, 1) := by decide +kernel
theorem dX4_take_229 : decode cX4_take 229 = .ok (.imul, 1) := by decide +kernel
theorem dX4_take_230 : decode cX4_take 230 = .ok (.iload 5, 2) := by decide +kernel
theorem dX4_take_232 : decode cX4_take 232 = .ok (.iadd, 1) := by decide +kernel
theorem dX4_take_233 : decode cX4_take 233 = .ok (.iload 5, 2) := by decide +kernel
theorem dX4_take_235 : decode cX4_take 235 = .ok (.iload_n 1, 1) := by decide +kernel
theorem dX4_take_236 : decode cX4_take 236 = .ok (.if_icmp .ne 12, 3) := by decide +kernel
theorem dX4_take_239 : decode cX4_take 239 = .ok (.aload_n 0, 1) := by decide +kernel
theorem dX4_take_240 : decode cX4_take 240 = .ok (.getfield 51, 3) := by decide +kernel
theorem dX4_take_243 : decode cX4_take 243 = .ok (.iload_n 1, 1) := by decide +kernel
theorem dX4_take_244 : decode cX4_take 244 = .ok (.iaload, 1) := by decide +kernel
theorem dX4_take_245 : decode cX4_take 245 = .ok (.goto 4, 3) := by decide +kernel
theorem dX4_take_248 : decode cX4_take 248 = .ok (.iconst 0, 1) := by decide +kernel
theorem dX4_take_249 : decode cX4_take 249 = .ok (.iastore, 1) := by decide +kernel
theorem dX4_take_250 : decode cX4_take 250 = .ok (.iinc 5 1, 3) := by decide +kernel
theorem dX4_take_253 : decode cX4_take 253 = .ok (.goto (-40), 3) := by decide +kernel
theorem dX4_take_256 : decode cX4_take 256 = .ok (.aload_n 0, 1) := by decide +kernel
theorem dX4_take_257 : decode cX4_take 257 = .ok (.getfield 36, 3) := by decide +kernel
theorem dX4_take_260 : decode cX4_take 260 = .ok (.iload_n 1, 1) := by decide +kernel
theorem dX4_take_261 : decode cX4_take 261 = .ok (.iconst 3, 1) := by decide +kernel
theorem dX4_take_262 : decode cX4_take 262 = .ok (.iastore, 1) := by decide +kernel
theorem dX4_take_263 : decode cX4_take 263 = .ok (.aload_n 0, 1) := by decide +kernel
theorem dX4_take_264 : decode cX4_take 264 = .ok (.iload_n 1, 1) := by decide +kernel
theorem dX4_take_265 : decode cX4_take 265 = .ok (.iconst 2, 1) := by decide +kernel
theorem dX4_take_266 : decode cX4_take 266 = .ok (.aload_n 0, 1) := by decide +kernel
theorem dX4_take_267 : decode cX4_take 267 = .ok (.getfield 57, 3) := by decide +kernel
theorem dX4_take_270 : decode cX4_take 270 = .ok (.invokevirtual 125, 3) := by decide +kernel
theorem dX4_take_273 : decode cX4_take 273 = .ok (.return_, 1) := by decide +kernel
theorem dX4_through_0 : decode cX4_through 0 = .ok (.aload_n 0, 1) := by decide +kernel
theorem dX4_through_1 : decode cX4_through 1 = .ok (.iload_n 1, 1) := by decide +kernel
theorem dX4_through_2 : decode cX4_through 2 = .ok (.invokevirtual 165, 3) := by decide +kernel
theorem dX4_through_5 : decode cX4_through 5 = .ok (.ifCond .eq 9, 3) := by decide +kernel
theorem dX4_through_8 : decode cX4_through 8 = .ok (.aload_n 0, 1) := by decide +kernel
theorem dX4_through_9 : decode cX4_through 9 = .ok (.iload_n 1, 1) := by decide +kernel
theorem dX4_through_10 : decode cX4_through 10 = .ok (.invokevirtual 168, 3) := by decide +kernel
theorem dX4_through_13 : decode cX4_through 13 = .ok (.return_, 1) := by decide +kernel
theorem dX4_through_14 : decode cX4_through 14 = .ok (.iconst 0, 1) := by decide +kernel
theorem dX4_through_15 : decode cX4_through 15 = .ok (.istore_n 2, 1) := by decide +kernel
theorem dX4_through_16 : decode cX4_through 16 = .ok (.iload_n 2, 1) := by decide +kernel
theorem dX4_through_17 : decode cX4_through 17 = .ok (.aload_n 0, 1) := by decide +kernel
theorem dX4_through_18 : decode cX4_through 18 = .ok (.getfield 108, 3) := by decide +kernel
theorem dX4_through_21 : decode cX4_through 21 = .ok (.if_icmp .ge 66, 3) := by decide +kernel
theorem dX4_through_24 : decode cX4_through 24 = .ok (.bipush 31, 2) := by decide +kernel
theorem dX4_through_26 : decode cX4_through 26 = .ok (.iload_n 1, 1) := by decide +kernel
theorem dX4_through_27 : decode cX4_through 27 = .ok (.imul, 1) := by decide +kernel
theorem dX4_through_28 : decode cX4_through 28 = .ok (.iload_n 2, 1) := by decide +kernel
theorem dX4_through_29 : decode cX4_through 29 = .ok (.iadd, 1) := by decide +kernel
theorem dX4_through_30 : decode cX4_through 30 = .ok (.istore_n 3, 1) := by decide +kernel
theorem dX4_through_31 : decode cX4_through 31 = .ok (.aload_n 0, 1) := by decide +kernel
theorem dX4_through_32 : decode cX4_through 32 = .ok (.getfield 69, 3) := by decide +kernel
theorem dX4_through_35 : decode cX4_through 35 = .ok (.iload_n 3, 1) := by decide +kernel
theorem dX4_through_36 : decode cX4_through 36 = .ok (.dup2, 1) := by decide +kernel
theorem dX4_through_37 : decode cX4_through 37 = .ok (.iaload, 1) := by decide +kernel
theorem dX4_through_38 : decode cX4_through 38 = .ok (.aload_n 0, 1) := by decide +kernel
theorem dX4_through_39 : decode cX4_through 39 = .ok (.getfield 66, 3) := by decide +kernel
theorem dX4_through_42 : decode cX4_through 42 = .ok (.iload_n 1, 1) := by decide +kernel
theorem dX4_through_43 : decode cX4_through 43 = .ok (.baload, 1) := by decide +kernel
theorem dX4_through_44 : decode cX4_through 44 = .ok (.ifCond .eq 22, 3) := by decide +kernel
theorem dX4_through_47 : decode cX4_through 47 = .ok (.aload_n 0, 1) := by decide +kernel
theorem dX4_through_48 : decode cX4_through 48 = .ok (.getfield 63, 3) := by decide +kernel
theorem dX4_through_51 : decode cX4_through 51 = .ok (.iload_n 3, 1) := by decide +kernel
theorem dX4_through_52 : decode cX4_through 52 = .ok (.iaload, 1) := by decide +kernel
theorem dX4_through_53 : decode cX4_through 53 = .ok (.aload_n 0, 1) := by decide +kernel
theorem dX4_through_54 : decode cX4_through 54 = .ok (.getfield 60, 3) := by decide +kernel
theorem dX4_through_57 : decode cX4_through 57 = .ok (.iload_n 3, 1) := by decide +kernel
theorem dX4_through_58 : decode cX4_through 58 = .ok (.iaload, 1) := by decide +kernel
theorem dX4_through_59 : decode cX4_through 59 = .ok (.if_icmp .eq 7, 3) := by decide +kernel
theorem dX4_through_62 : decode cX4_through 62 = .ok (.iconst 1, 1) := by decide +kernel
theorem dX4_through_63 : decode cX4_through 63 = .ok (.goto 4, 3) := by decide +kernel
theorem dX4_through_66 : decode cX4_through 66 = .ok (.iconst 0, 1) := by decide +kernel
theorem dX4_through_67 : decode cX4_through 67 = .ok (.iadd, 1) := by decide +kernel
theorem dX4_through_68 : decode cX4_through 68 = .ok (.iastore, 1) := by decide +kernel
theorem dX4_through_69 : decode cX4_through 69 = .ok (.aload_n 0, 1) := by decide +kernel
theorem dX4_through_70 : decode cX4_through 70 = .ok (.getfield 63, 3) := by decide +kernel
theorem dX4_through_73 : decode cX4_through 73 = .ok (.iload_n 3, 1) := by decide +kernel
theorem dX4_through_74 : decode cX4_through 74 = .ok (.aload_n 0, 1) := by decide +kernel
theorem dX4_through_75 : decode cX4_through 75 = .ok (.getfield 60, 3) := by decide +kernel
theorem dX4_through_78 : decode cX4_through 78 = .ok (.iload_n 3, 1) := by decide +kernel
theorem dX4_through_79 : decode cX4_through 79 = .ok (.iaload, 1) := by decide +kernel
theorem dX4_through_80 : decode cX4_through 80 = .ok (.iastore, 1) := by decide +kernel
theorem dX4_through_81 : decode cX4_through 81 = .ok (.iinc 2 1, 3) := by decide +kernel
theorem dX4_through_84 : decode cX4_through 84 = .ok (.goto (-68), 3) := by decide +kernel
theorem dX4_through_87 : decode cX4_through 87 = .ok (.aload_n 0, 1) := by decide +kernel
theorem dX4_through_88 : decode cX4_through 88 = .ok (.getfield 66, 3) := by decide +kernel
theorem dX4_through_91 : decode cX4_through 91 = .ok (.iload_n 1, 1) := by decide +kernel
theorem dX4_through_92 : decode cX4_through 92 = .ok (.iconst 1, 1) := by decide +kernel
theorem dX4_through_93 : decode cX4_through 93 = .ok (.bastore, 1) := by decide +kernel
theorem dX4_through_94 : decode cX4_through 94 = .ok (.aload_n 0, 1) := by decide +kernel
theorem dX4_through_95 : decode cX4_through 95 = .ok (.iload_n 1, 1) := by decide +kernel
theorem dX4_through_96 : decode cX4_through 96 = .ok (.invokevirtual 139, 3) := by decide +kernel
theorem dX4_through_99 : decode cX4_through 99 = .ok (.return_, 1) := by decide +kernel
theorem dX4_counts_0 : decode cX4_counts 0 = .ok (.aload_n 0, 1) := by decide +kernel
theorem dX4_counts_1 : decode cX4_counts 1 = .ok (.getfield 16, 3) := by decide +kernel
theorem dX4_counts_4 : decode cX4_counts 4 = .ok (.iload_n 1, 1) := by decide +kernel
theorem dX4_counts_5 : decode cX4_counts 5 = .ok (.iaload, 1) := by decide +kernel
theorem dX4_counts_6 : decode cX4_counts 6 = .ok (.istore_n 2, 1) := by decide +kernel
theorem dX4_counts_7 : decode cX4_counts 7 = .ok (.aload_n 0, 1) := by decide +kernel
theorem dX4_counts_8 : decode cX4_counts 8 = .ok (.getfield 33, 3) := by decide +kernel
theorem dX4_counts_11 : decode cX4_counts 11 = .ok (.iload_n 2, 1) := by decide +kernel
theorem dX4_counts_12 : decode cX4_counts 12 = .ok (.baload, 1) := by decide +kernel
theorem dX4_counts_13 : decode cX4_counts 13 = .ok (.ifCond .ne 18, 3) := by decide +kernel
theorem dX4_counts_16 : decode cX4_counts 16 = .ok (.aload_n 0, 1) := by decide +kernel
theorem dX4_counts_17 : decode cX4_counts 17 = .ok (.getfield 19, 3) := by decide +kernel
theorem dX4_counts_20 : decode cX4_counts 20 = .ok (.iload_n 1, 1) := by decide +kernel
theorem dX4_counts_21 : decode cX4_counts 21 = .ok (.iaload, 1) := by decide +kernel
theorem dX4_counts_22 : decode cX4_counts 22 = .ok (.aload_n 0, 1) := by decide +kernel
theorem dX4_counts_23 : decode cX4_counts 23 = .ok (.getfield 39, 3) := by decide +kernel
theorem dX4_counts_26 : decode cX4_counts 26 = .ok (.iload_n 2, 1) := by decide +kernel
theorem dX4_counts_27 : decode cX4_counts 27 = .ok (.iaload, 1) := by decide +kernel
theorem dX4_counts_28 : decode cX4_counts 28 = .ok (.if_icmp .eq 5, 3) := by decide +kernel
theorem dX4_counts_31 : decode cX4_counts 31 = .ok (.iconst 0, 1) := by decide +kernel
theorem dX4_counts_32 : decode cX4_counts 32 = .ok (.ireturn, 1) := by decide +kernel
theorem dX4_counts_33 : decode cX4_counts 33 = .ok (.aload_n 0, 1) := by decide +kernel
theorem dX4_counts_34 : decode cX4_counts 34 = .ok (.getfield 7, 3) := by decide +kernel
theorem dX4_counts_37 : decode cX4_counts 37 = .ok (.iload_n 1, 1) := by decide +kernel
theorem dX4_counts_38 : decode cX4_counts 38 = .ok (.iaload, 1) := by decide +kernel
theorem dX4_counts_39 : decode cX4_counts 39 = .ok (.iconst 1, 1) := by decide +kernel
theorem dX4_counts_40 : decode cX4_counts 40 = .ok (.if_icmp .ne 21, 3) := by decide +kernel
theorem dX4_counts_43 : decode cX4_counts 43 = .ok (.aload_n 0, 1) := by decide +kernel
theorem dX4_counts_44 : decode cX4_counts 44 = .ok (.getfield 36, 3) := by decide +kernel
theorem dX4_counts_47 : decode cX4_counts 47 = .ok (.iload_n 2, 1) := by decide +kernel
theorem dX4_counts_48 : decode cX4_counts 48 = .ok (.iaload, 1) := by decide +kernel
theorem dX4_counts_49 : decode cX4_counts 49 = .ok (.iconst 1, 1) := by decide +kernel
theorem dX4_counts_50 : decode cX4_counts 50 = .ok (.if_icmp .ne 7, 3) := by decide +kernel
theorem dX4_counts_53 : decode cX4_counts 53 = .ok (.iconst 1, 1) := by decide +kernel
theorem dX4_counts_54 : decode cX4_counts 54 = .ok (.goto 32, 3) := by decide +kernel
theorem dX4_counts_57 : decode cX4_counts 57 = .ok (.iconst 0, 1) := by decide +kernel
theorem dX4_counts_58 : decode cX4_counts 58 = .ok (.goto 28, 3) := by decide +kernel
theorem dX4_counts_61 : decode cX4_counts 61 = .ok (.aload_n 0, 1) := by decide +kernel
theorem dX4_counts_62 : decode cX4_counts 62 = .ok (.getfield 36, 3) := by decide +kernel
theorem dX4_counts_65 : decode cX4_counts 65 = .ok (.iload_n 2, 1) := by decide +kernel
theorem dX4_counts_66 : decode cX4_counts 66 = .ok (.iaload, 1) := by decide +kernel
theorem dX4_counts_67 : decode cX4_counts 67 = .ok (.iconst 2, 1) := by decide +kernel
theorem dX4_counts_68 : decode cX4_counts 68 = .ok (.if_icmp .eq 13, 3) := by decide +kernel
theorem dX4_counts_71 : decode cX4_counts 71 = .ok (.aload_n 0, 1) := by decide +kernel
theorem dX4_counts_72 : decode cX4_counts 72 = .ok (.getfield 36, 3) := by decide +kernel
theorem dX4_counts_75 : decode cX4_counts 75 = .ok (.iload_n 2, 1) := by decide +kernel
theorem dX4_counts_76 : decode cX4_counts 76 = .ok (.iaload, 1) := by decide +kernel
theorem dX4_counts_77 : decode cX4_counts 77 = .ok (.iconst 3, 1) := by decide +kernel
theorem dX4_counts_78 : decode cX4_counts 78 = .ok (.if_icmp .ne 7, 3) := by decide +kernel
theorem dX4_counts_81 : decode cX4_counts 81 = .ok (.iconst 1, 1) := by decide +kernel
theorem dX4_counts_82 : decode cX4_counts 82 = .ok (.goto 4, 3) := by decide +kernel
theorem dX4_counts_85 : decode cX4_counts 85 = .ok (.iconst 0, 1) := by decide +kernel
theorem dX4_counts_86 : decode cX4_counts 86 = .ok (.ireturn, 1) := by decide +kernel
theorem dX4_wanted_0 : decode cX4_wanted 0 = .ok (.aload_n 0, 1) := by decide +kernel
theorem dX4_wanted_1 : decode cX4_wanted 1 = .ok (.getfield 16, 3) := by decide +kernel
theorem dX4_wanted_4 : decode cX4_wanted 4 = .ok (.iload_n 1, 1) := by decide +kernel
theorem dX4_wanted_5 : decode cX4_wanted 5 = .ok (.iaload, 1) := by decide +kernel
theorem dX4_wanted_6 : decode cX4_wanted 6 = .ok (.istore_n 2, 1) := by decide +kernel
theorem dX4_wanted_7 : decode cX4_wanted 7 = .ok (.aload_n 0, 1) := by decide +kernel
theorem dX4_wanted_8 : decode cX4_wanted 8 = .ok (.getfield 33, 3) := by decide +kernel
theorem dX4_wanted_11 : decode cX4_wanted 11 = .ok (.iload_n 2, 1) := by decide +kernel
theorem dX4_wanted_12 : decode cX4_wanted 12 = .ok (.baload, 1) := by decide +kernel
theorem dX4_wanted_13 : decode cX4_wanted 13 = .ok (.ifCond .eq 5, 3) := by decide +kernel
theorem dX4_wanted_16 : decode cX4_wanted 16 = .ok (.iconst 0, 1) := by decide +kernel
theorem dX4_wanted_17 : decode cX4_wanted 17 = .ok (.ireturn, 1) := by decide +kernel
theorem dX4_wanted_18 : decode cX4_wanted 18 = .ok (.aload_n 0, 1) := by decide +kernel
theorem dX4_wanted_19 : decode cX4_wanted 19 = .ok (.getfield 7, 3) := by decide +kernel
theorem dX4_wanted_22 : decode cX4_wanted 22 = .ok (.iload_n 1, 1) := by decide +kernel
theorem dX4_wanted_23 : decode cX4_wanted 23 = .ok (.iaload, 1) := by decide +kernel
theorem dX4_wanted_24 : decode cX4_wanted 24 = .ok (.ifCond .eq 13, 3) := by decide +kernel
theorem dX4_wanted_27 : decode cX4_wanted 27 = .ok (.aload_n 0, 1) := by decide +kernel
theorem dX4_wanted_28 : decode cX4_wanted 28 = .ok (.getfield 7, 3) := by decide +kernel
theorem dX4_wanted_31 : decode cX4_wanted 31 = .ok (.iload_n 1, 1) := by decide +kernel
theorem dX4_wanted_32 : decode cX4_wanted 32 = .ok (.iaload, 1) := by decide +kernel
theorem dX4_wanted_33 : decode cX4_wanted 33 = .ok (.iconst 2, 1) := by decide +kernel
theorem dX4_wanted_34 : decode cX4_wanted 34 = .ok (.if_icmp .ne 5, 3) := by decide +kernel
theorem dX4_wanted_37 : decode cX4_wanted 37 = .ok (.iconst 1, 1) := by decide +kernel
theorem dX4_wanted_38 : decode cX4_wanted 38 = .ok (.ireturn, 1) := by decide +kernel
theorem dX4_wanted_39 : decode cX4_wanted 39 = .ok (.aload_n 0, 1) := by decide +kernel
theorem dX4_wanted_40 : decode cX4_wanted 40 = .ok (.iload_n 1, 1) := by decide +kernel
theorem dX4_wanted_41 : decode cX4_wanted 41 = .ok (.invokevirtual 171, 3) := by decide +kernel
theorem dX4_wanted_44 : decode cX4_wanted 44 = .ok (.ifCond .eq 30, 3) := by decide +kernel
theorem dX4_wanted_47 : decode cX4_wanted 47 = .ok (.iconst 2, 1) := by decide +kernel
theorem dX4_wanted_48 : decode cX4_wanted 48 = .ok (.aload_n 0, 1) := by decide +kernel
theorem dX4_wanted_49 : decode cX4_wanted 49 = .ok (.getfield 45, 3) := by decide +kernel
theorem dX4_wanted_52 : decode cX4_wanted 52 = .ok (.iload_n 2, 1) := by decide +kernel
theorem dX4_wanted_53 : decode cX4_wanted 53 = .ok (.iaload, 1) := by decide +kernel
theorem dX4_wanted_54 : decode cX4_wanted 54 = .ok (.iconst 1, 1) := by decide +kernel
theorem dX4_wanted_55 : decode cX4_wanted 55 = .ok (.iadd, 1) := by decide +kernel
theorem dX4_wanted_56 : decode cX4_wanted 56 = .ok (.imul, 1) := by decide +kernel
theorem dX4_wanted_57 : decode cX4_wanted 57 = .ok (.aload_n 0, 1) := by decide +kernel
theorem dX4_wanted_58 : decode cX4_wanted 58 = .ok (.getfield 108, 3) := by decide +kernel
theorem dX4_wanted_61 : decode cX4_wanted 61 = .ok (.if_icmp .le 13, 3) := by decide +kernel
theorem dX4_wanted_64 : decode cX4_wanted 64 = .ok (.aload_n 0, 1) := by decide +kernel
theorem dX4_wanted_65 : decode cX4_wanted 65 = .ok (.getfield 36, 3) := by decide +kernel
theorem dX4_wanted_68 : decode cX4_wanted 68 = .ok (.iload_n 2, 1) := by decide +kernel
theorem dX4_wanted_69 : decode cX4_wanted 69 = .ok (.iaload, 1) := by decide +kernel
theorem dX4_wanted_70 : decode cX4_wanted 70 = .ok (.iconst 3, 1) := by decide +kernel
theorem dX4_wanted_71 : decode cX4_wanted 71 = .ok (.if_icmp .ne 5, 3) := by decide +kernel
theorem dX4_wanted_74 : decode cX4_wanted 74 = .ok (.iconst 0, 1) := by decide +kernel
theorem dX4_wanted_75 : decode cX4_wanted 75 = .ok (.ireturn, 1) := by decide +kernel
theorem dX4_wanted_76 : decode cX4_wanted 76 = .ok (.aload_n 0, 1) := by decide +kernel
theorem dX4_wanted_77 : decode cX4_wanted 77 = .ok (.getfield 36, 3) := by decide +kernel
theorem dX4_wanted_80 : decode cX4_wanted 80 = .ok (.iload_n 2, 1) := by decide +kernel
theorem dX4_wanted_81 : decode cX4_wanted 81 = .ok (.iaload, 1) := by decide +kernel
theorem dX4_wanted_82 : decode cX4_wanted 82 = .ok (.iconst 2, 1) := by decide +kernel
theorem dX4_wanted_83 : decode cX4_wanted 83 = .ok (.if_icmp .ne 28, 3) := by decide +kernel
theorem dX4_wanted_86 : decode cX4_wanted 86 = .ok (.aload_n 0, 1) := by decide +kernel
theorem dX4_wanted_87 : decode cX4_wanted 87 = .ok (.iload_n 2, 1) := by decide +kernel
theorem dX4_wanted_88 : decode cX4_wanted 88 = .ok (.invokevirtual 165, 3) := by decide +kernel
theorem dX4_wanted_91 : decode cX4_wanted 91 = .ok (.ifCond .eq 20, 3) := by decide +kernel
theorem dX4_wanted_94 : decode cX4_wanted 94 = .ok (.aload_n 0, 1) := by decide +kernel
theorem dX4_wanted_95 : decode cX4_wanted 95 = .ok (.aload_n 0, 1) := by decide +kernel
theorem dX4_wanted_96 : decode cX4_wanted 96 = .ok (.getfield 42, 3) := by decide +kernel
theorem dX4_wanted_99 : decode cX4_wanted 99 = .ok (.iload_n 2, 1) := by decide +kernel
theorem dX4_wanted_100 : decode cX4_wanted 100 = .ok (.iaload, 1) := by decide +kernel
theorem dX4_wanted_101 : decode cX4_wanted 101 = .ok (.invokevirtual 159, 3) := by decide +kernel
theorem dX4_wanted_104 : decode cX4_wanted 104 = .ok (.ifCond .eq 7, 3) := by decide +kernel
theorem dX4_wanted_107 : decode cX4_wanted 107 = .ok (.iconst 0, 1) := by decide +kernel
theorem dX4_wanted_108 : decode cX4_wanted 108 = .ok (.goto 7, 3) := by decide +kernel
theorem dX4_wanted_111 : decode cX4_wanted 111 = .ok (.aload_n 0, 1) := by decide +kernel
theorem dX4_wanted_112 : decode cX4_wanted 112 = .ok (.getfield 108, 3) := by decide +kernel
theorem dX4_wanted_115 : decode cX4_wanted 115 = .ok (.ireturn, 1) := by decide +kernel
theorem dX4_replies_0 : decode cX4_replies 0 = .ok (.aload_n 0, 1) := by decide +kernel
theorem dX4_replies_1 : decode cX4_replies 1 = .ok (.getfield 16, 3) := by decide +kernel
theorem dX4_replies_4 : decode cX4_replies 4 = .ok (.iload_n 1, 1) := by decide +kernel
theorem dX4_replies_5 : decode cX4_replies 5 = .ok (.iaload, 1) := by decide +kernel
theorem dX4_replies_6 : decode cX4_replies 6 = .ok (.istore_n 2, 1) := by decide +kernel
theorem dX4_replies_7 : decode cX4_replies 7 = .ok (.aload_n 0, 1) := by decide +kernel
theorem dX4_replies_8 : decode cX4_replies 8 = .ok (.getfield 7, 3) := by decide +kernel
theorem dX4_replies_11 : decode cX4_replies 11 = .ok (.iload_n 1, 1) := by decide +kernel
theorem dX4_replies_12 : decode cX4_replies 12 = .ok (.iaload, 1) := by decide +kernel
theorem dX4_replies_13 : decode cX4_replies 13 = .ok (.istore_n 3, 1) := by decide +kernel
theorem dX4_replies_14 : decode cX4_replies 14 = .ok (.aload_n 0, 1) := by decide +kernel
theorem dX4_replies_15 : decode cX4_replies 15 = .ok (.getfield 13, 3) := by decide +kernel
theorem dX4_replies_18 : decode cX4_replies 18 = .ok (.iload_n 1, 1) := by decide +kernel
theorem dX4_replies_19 : decode cX4_replies 19 = .ok (.iaload, 1) := by decide +kernel
theorem dX4_replies_20 : decode cX4_replies 20 = .ok (.istore 4, 2) := by decide +kernel
theorem dX4_replies_22 : decode cX4_replies 22 = .ok (.aload_n 0, 1) := by decide +kernel
theorem dX4_replies_23 : decode cX4_replies 23 = .ok (.getfield 19, 3) := by decide +kernel
theorem dX4_replies_26 : decode cX4_replies 26 = .ok (.iload_n 1, 1) := by decide +kernel
theorem dX4_replies_27 : decode cX4_replies 27 = .ok (.iaload, 1) := by decide +kernel
theorem dX4_replies_28 : decode cX4_replies 28 = .ok (.istore 5, 2) := by decide +kernel
theorem dX4_replies_30 : decode cX4_replies 30 = .ok (.iconst 0, 1) := by decide +kernel
theorem dX4_replies_31 : decode cX4_replies 31 = .ok (.istore 6, 2) := by decide +kernel
theorem dX4_replies_33 : decode cX4_replies 33 = .ok (.iload 6, 2) := by decide +kernel
theorem dX4_replies_35 : decode cX4_replies 35 = .ok (.aload_n 0, 1) := by decide +kernel
theorem dX4_replies_36 : decode cX4_replies 36 = .ok (.getfield 108, 3) := by decide +kernel
theorem dX4_replies_39 : decode cX4_replies 39 = .ok (.if_icmp .ge 52, 3) := by decide +kernel
theorem dX4_replies_42 : decode cX4_replies 42 = .ok (.iload_n 3, 1) := by decide +kernel
theorem dX4_replies_43 : decode cX4_replies 43 = .ok (.iconst 2, 1) := by decide +kernel
theorem dX4_replies_44 : decode cX4_replies 44 = .ok (.if_icmp .ne 47, 3) := by decide +kernel
theorem dX4_replies_47 : decode cX4_replies 47 = .ok (.bipush 31, 2) := by decide +kernel
theorem dX4_replies_49 : decode cX4_replies 49 = .ok (.iload_n 2, 1) := by decide +kernel
theorem dX4_replies_50 : decode cX4_replies 50 = .ok (.imul, 1) := by decide +kernel
theorem dX4_replies_51 : decode cX4_replies 51 = .ok (.iload 6, 2) := by decide +kernel
theorem dX4_replies_53 : decode cX4_replies 53 = .ok (.iadd, 1) := by decide +kernel
theorem dX4_replies_54 : decode cX4_replies 54 = .ok (.istore 7, 2) := by decide +kernel
theorem dX4_replies_56 : decode cX4_replies 56 = .ok (.aload_n 0, 1) := by decide +kernel
theorem dX4_replies_57 : decode cX4_replies 57 = .ok (.getfield 48, 3) := by decide +kernel
theorem dX4_replies_60 : decode cX4_replies 60 = .ok (.iload 7, 2) := by decide +kernel
theorem dX4_replies_62 : decode cX4_replies 62 = .ok (.aload_n 0, 1) := by decide +kernel
theorem dX4_replies_63 : decode cX4_replies 63 = .ok (.getfield 48, 3) := by decide +kernel
theorem dX4_replies_66 : decode cX4_replies 66 = .ok (.iload 7, 2) := by decide +kernel
theorem dX4_replies_68 : decode cX4_replies 68 = .ok (.iaload, 1) := by decide +kernel
theorem dX4_replies_69 : decode cX4_replies 69 = .ok (.aload_n 0, 1) := by decide +kernel
theorem dX4_replies_70 : decode cX4_replies 70 = .ok (.getfield 23, 3) := by decide +kernel
theorem dX4_replies_73 : decode cX4_replies 73 = .ok (.bipush 31, 2) := by decide +kernel
theorem dX4_replies_75 : decode cX4_replies 75 = .ok (.iload_n 1, 1) := by decide +kernel
theorem dX4_replies_76 : decode cX4_replies 76 = .ok (.imul, 1) := by decide +kernel
theorem dX4_replies_77 : decode cX4_replies 77 = .ok (.iload 6, 2) := by decide +kernel
theorem dX4_replies_79 : decode cX4_replies 79 = .ok (.iadd, 1) := by decide +kernel
theorem dX4_replies_80 : decode cX4_replies 80 = .ok (.iaload, 1) := by decide +kernel
theorem dX4_replies_81 : decode cX4_replies 81 = .ok (.invokestatic 174, 3) := by decide +kernel
theorem dX4_replies_84 : decode cX4_replies 84 = .ok (.iastore, 1) := by decide +kernel
theorem dX4_replies_85 : decode cX4_replies 85 = .ok (.iinc 6 1, 3) := by decide +kernel
theorem dX4_replies_88 : decode cX4_replies 88 = .ok (.goto (-55), 3) := by decide +kernel
theorem dX4_replies_91 : decode cX4_replies 91 = .ok (.aload_n 0, 1) := by decide +kernel
theorem dX4_replies_92 : decode cX4_replies 92 = .ok (.iload_n 3, 1) := by decide +kernel
theorem dX4_replies_93 : decode cX4_replies 93 = .ok (.iconst 2, 1) := by decide +kernel
theorem dX4_replies_94 : decode cX4_replies 94 = .ok (.if_icmp .ne 7, 3) := by decide +kernel
theorem dX4_replies_97 : decode cX4_replies 97 = .ok (.iconst 3, 1) := by decide +kernel
theorem dX4_replies_98 : decode cX4_replies 98 = .ok (.goto 4, 3) := by decide +kernel
theorem dX4_replies_101 : decode cX4_replies 101 = .ok (.iconst 1, 1) := by decide +kernel
theorem dX4_replies_102 : decode cX4_replies 102 = .ok (.iload_n 2, 1) := by decide +kernel
theorem dX4_replies_103 : decode cX4_replies 103 = .ok (.iload 4, 2) := by decide +kernel
theorem dX4_replies_105 : decode cX4_replies 105 = .ok (.iload 5, 2) := by decide +kernel
theorem dX4_replies_107 : decode cX4_replies 107 = .ok (.invokevirtual 121, 3) := by decide +kernel
theorem dX4_replies_110 : decode cX4_replies 110 = .ok (.istore 6, 2) := by decide +kernel
theorem dX4_replies_112 : decode cX4_replies 112 = .ok (.iconst 0, 1) := by decide +kernel
theorem dX4_replies_113 : decode cX4_replies 113 = .ok (.istore 7, 2) := by decide +kernel
theorem dX4_replies_115 : decode cX4_replies 115 = .ok (.iload 7, 2) := by decide +kernel
theorem dX4_replies_117 : decode cX4_replies 117 = .ok (.aload_n 0, 1) := by decide +kernel
theorem dX4_replies_118 : decode cX4_replies 118 = .ok (.getfield 108, 3) := by decide +kernel
theorem dX4_replies_121 : decode cX4_replies 121 = .ok (.if_icmp .ge 38, 3) := by decide +kernel
theorem dX4_replies_124 : decode cX4_replies 124 = .ok (.iload_n 3, 1) := by decide +kernel
theorem dX4_replies_125 : decode cX4_replies 125 = .ok (.ifCond .ne 34, 3) := by decide +kernel
theorem dX4_replies_128 : decode cX4_replies 128 = .ok (.aload_n 0, 1) := by decide +kernel
theorem dX4_replies_129 : decode cX4_replies 129 = .ok (.getfield 23, 3) := by decide +kernel
theorem dX4_replies_132 : decode cX4_replies 132 = .ok (.bipush 31, 2) := by decide +kernel
theorem dX4_replies_134 : decode cX4_replies 134 = .ok (.iload 6, 2) := by decide +kernel
theorem dX4_replies_136 : decode cX4_replies 136 = .ok (.imul, 1) := by decide +kernel
theorem dX4_replies_137 : decode cX4_replies 137 = .ok (.iload 7, 2) := by decide +kernel
theorem dX4_replies_139 : decode cX4_replies 139 = .ok (.iadd, 1) := by decide +kernel
theorem dX4_replies_140 : decode cX4_replies 140 = .ok (.aload_n 0, 1) := by decide +kernel
theorem dX4_replies_141 : decode cX4_replies 141 = .ok (.getfield 48, 3) := by decide +kernel
theorem dX4_replies_144 : decode cX4_replies 144 = .ok (.bipush 31, 2) := by decide +kernel
theorem dX4_replies_146 : decode cX4_replies 146 = .ok (.iload_n 2, 1) := by decide +kernel
theorem dX4_replies_147 : decode cX4_replies 147 = .ok (.imul, 1) := by decide +kernel
theorem dX4_replies_148 : decode cX4_replies 148 = .ok (.iload 7, 2) := by decide +kernel
theorem dX4_replies_150 : decode cX4_replies 150 = .ok (.iadd, 1) := by decide +kernel
theorem dX4_replies_151 : decode cX4_replies 151 = .ok (.iaload, 1) := by decide +kernel
theorem dX4_replies_152 : decode cX4_replies 152 = .ok (.iastore, 1) := by decide +kernel
theorem dX4_replies_153 : decode cX4_replies 153 = .ok (.iinc 7 1, 3) := by decide +kernel
theorem dX4_replies_156 : decode cX4_replies 156 = .ok (.goto (-41), 3) := by decide +kernel
theorem dX4_replies_159 : decode cX4_replies 159 = .ok (.return_, 1) := by decide +kernel
theorem dX4_hears_0 : decode cX4_hears 0 = .ok (.aload_n 0, 1) := by decide +kernel
theorem dX4_hears_1 : decode cX4_hears 1 = .ok (.getfield 16, 3) := by decide +kernel
theorem dX4_hears_4 : decode cX4_hears 4 = .ok (.iload_n 1, 1) := by decide +kernel
theorem dX4_hears_5 : decode cX4_hears 5 = .ok (.iaload, 1) := by decide +kernel
theorem dX4_hears_6 : decode cX4_hears 6 = .ok (.istore_n 2, 1) := by decide +kernel
theorem dX4_hears_7 : decode cX4_hears 7 = .ok (.aload_n 0, 1) := by decide +kernel
theorem dX4_hears_8 : decode cX4_hears 8 = .ok (.getfield 45, 3) := by decide +kernel
theorem dX4_hears_11 : decode cX4_hears 11 = .ok (.iload_n 2, 1) := by decide +kernel
theorem dX4_hears_12 : decode cX4_hears 12 = .ok (.dup2, 1) := by decide +kernel
theorem dX4_hears_13 : decode cX4_hears 13 = .ok (.iaload, 1) := by decide +kernel
theorem dX4_hears_14 : decode cX4_hears 14 = .ok (.iconst 1, 1) := by decide +kernel
theorem dX4_hears_15 : decode cX4_hears 15 = .ok (.iadd, 1) := by decide +kernel
theorem dX4_hears_16 : decode cX4_hears 16 = .ok (.iastore, 1) := by decide +kernel
theorem dX4_hears_17 : decode cX4_hears 17 = .ok (.iconst 0, 1) := by decide +kernel
theorem dX4_hears_18 : decode cX4_hears 18 = .ok (.istore_n 3, 1) := by decide +kernel
theorem dX4_hears_19 : decode cX4_hears 19 = .ok (.iload_n 3, 1) := by decide +kernel
theorem dX4_hears_20 : decode cX4_hears 20 = .ok (.aload_n 0, 1) := by decide +kernel
theorem dX4_hears_21 : decode cX4_hears 21 = .ok (.getfield 108, 3) := by decide +kernel
theorem dX4_hears_24 : decode cX4_hears 24 = .ok (.if_icmp .ge 55, 3) := by decide +kernel
theorem dX4_hears_27 : decode cX4_hears 27 = .ok (.aload_n 0, 1) := by decide +kernel
theorem dX4_hears_28 : decode cX4_hears 28 = .ok (.getfield 7, 3) := by decide +kernel
theorem dX4_hears_31 : decode cX4_hears 31 = .ok (.iload_n 1, 1) := by decide +kernel
theorem dX4_hears_32 : decode cX4_hears 32 = .ok (.iaload, 1) := by decide +kernel
theorem dX4_hears_33 : decode cX4_hears 33 = .ok (.iconst 1, 1) := by decide +kernel
theorem dX4_hears_34 : decode cX4_hears 34 = .ok (.if_icmp .ne 45, 3) := by decide +kernel
theorem dX4_hears_37 : decode cX4_hears 37 = .ok (.bipush 31, 2) := by decide +kernel
theorem dX4_hears_39 : decode cX4_hears 39 = .ok (.iload_n 2, 1) := by decide +kernel
theorem dX4_hears_40 : decode cX4_hears 40 = .ok (.imul, 1) := by decide +kernel
theorem dX4_hears_41 : decode cX4_hears 41 = .ok (.iload_n 3, 1) := by decide +kernel
theorem dX4_hears_42 : decode cX4_hears 42 = .ok (.iadd, 1) := by decide +kernel
theorem dX4_hears_43 : decode cX4_hears 43 = .ok (.istore 4, 2) := by decide +kernel
theorem dX4_hears_45 : decode cX4_hears 45 = .ok (.aload_n 0, 1) := by decide +kernel
theorem dX4_hears_46 : decode cX4_hears 46 = .ok (.getfield 57, 3) := by decide +kernel
theorem dX4_hears_49 : decode cX4_hears 49 = .ok (.iload 4, 2) := by decide +kernel
theorem dX4_hears_51 : decode cX4_hears 51 = .ok (.aload_n 0, 1) := by decide +kernel
theorem dX4_hears_52 : decode cX4_hears 52 = .ok (.getfield 57, 3) := by decide +kernel
theorem dX4_hears_55 : decode cX4_hears 55 = .ok (.iload 4, 2) := by decide +kernel
theorem dX4_hears_57 : decode cX4_hears 57 = .ok (.iaload, 1) := by decide +kernel
theorem dX4_hears_58 : decode cX4_hears 58 = .ok (.aload_n 0, 1) := by decide +kernel
theorem dX4_hears_59 : decode cX4_hears 59 = .ok (.getfield 23, 3) := by decide +kernel
theorem dX4_hears_62 : decode cX4_hears 62 = .ok (.bipush 31, 2) := by decide +kernel
theorem dX4_hears_64 : decode cX4_hears 64 = .ok (.iload_n 1, 1) := by decide +kernel
theorem dX4_hears_65 : decode cX4_hears 65 = .ok (.imul, 1) := by decide +kernel
theorem dX4_hears_66 : decode cX4_hears 66 = .ok (.iload_n 3, 1) := by decide +kernel
theorem dX4_hears_67 : decode cX4_hears 67 = .ok (.iadd, 1) := by decide +kernel
theorem dX4_hears_68 : decode cX4_hears 68 = .ok (.iaload, 1) := by decide +kernel
theorem dX4_hears_69 : decode cX4_hears 69 = .ok (.invokestatic 174, 3) := by decide +kernel
theorem dX4_hears_72 : decode cX4_hears 72 = .ok (.iastore, 1) := by decide +kernel
theorem dX4_hears_73 : decode cX4_hears 73 = .ok (.iinc 3 1, 3) := by decide +kernel
theorem dX4_hears_76 : decode cX4_hears 76 = .ok (.goto (-57), 3) := by decide +kernel
theorem dX4_hears_79 : decode cX4_hears 79 = .ok (.iconst 2, 1) := by decide +kernel
theorem dX4_hears_80 : decode cX4_hears 80 = .ok (.aload_n 0, 1) := by decide +kernel
theorem dX4_hears_81 : decode cX4_hears 81 = .ok (.getfield 45, 3) := by decide +kernel
theorem dX4_hears_84 : decode cX4_hears 84 = .ok (.iload_n 2, 1) := by decide +kernel
theorem dX4_hears_85 : decode cX4_hears 85 = .ok (.iaload, 1) := by decide +kernel
theorem dX4_hears_86 : decode cX4_hears 86 = .ok (.imul, 1) := by decide +kernel
theorem dX4_hears_87 : decode cX4_hears 87 = .ok (.aload_n 0, 1) := by decide +kernel
theorem dX4_hears_88 : decode cX4_hears 88 = .ok (.getfield 108, 3) := by decide +kernel
theorem dX4_hears_91 : decode cX4_hears 91 = .ok (.if_icmp .gt 4, 3) := by decide +kernel
theorem dX4_hears_94 : decode cX4_hears 94 = .ok (.return_, 1) := by decide +kernel
theorem dX4_hears_95 : decode cX4_hears 95 = .ok (.aload_n 0, 1) := by decide +kernel
theorem dX4_hears_96 : decode cX4_hears 96 = .ok (.getfield 36, 3) := by decide +kernel
theorem dX4_hears_99 : decode cX4_hears 99 = .ok (.iload_n 2, 1) := by decide +kernel
theorem dX4_hears_100 : decode cX4_hears 100 = .ok (.iaload, 1) := by decide +kernel
theorem dX4_hears_101 : decode cX4_hears 101 = .ok (.iconst 1, 1) := by decide +kernel
theorem dX4_hears_102 : decode cX4_hears 102 = .ok (.if_icmp .ne 61, 3) := by decide +kernel
theorem dX4_hears_105 : decode cX4_hears 105 = .ok (.iconst 0, 1) := by decide +kernel
theorem dX4_hears_106 : decode cX4_hears 106 = .ok (.istore_n 3, 1) := by decide +kernel
theorem dX4_hears_107 : decode cX4_hears 107 = .ok (.iload_n 3, 1) := by decide +kernel
theorem dX4_hears_108 : decode cX4_hears 108 = .ok (.aload_n 0, 1) := by decide +kernel
theorem dX4_hears_109 : decode cX4_hears 109 = .ok (.getfield 108, 3) := by decide +kernel
theorem dX4_hears_112 : decode cX4_hears 112 = .ok (.if_icmp .ge 31, 3) := by decide +kernel
theorem dX4_hears_115 : decode cX4_hears 115 = .ok (.aload_n 0, 1) := by decide +kernel
theorem dX4_hears_116 : decode cX4_hears 116 = .ok (.getfield 60, 3) := by decide +kernel
theorem dX4_hears_119 : decode cX4_hears 119 = .ok (.bipush 31, 2) := by decide +kernel
theorem dX4_hears_121 : decode cX4_hears 121 = .ok (.iload_n 2, 1) := by decide +kernel
theorem dX4_hears_122 : decode cX4_hears 122 = .ok (.imul, 1) := by decide +kernel
theorem dX4_hears_123 : decode cX4_hears 123 = .ok (.iload_n 3, 1) := by decide +kernel
theorem dX4_hears_124 : decode cX4_hears 124 = .ok (.iadd, 1) := by decide +kernel
theorem dX4_hears_125 : decode cX4_hears 125 = .ok (.aload_n 0, 1) := by decide +kernel
theorem dX4_hears_126 : decode cX4_hears 126 = .ok (.getfield 57, 3) := by decide +kernel
theorem dX4_hears_129 : decode cX4_hears 129 = .ok (.bipush 31, 2) := by decide +kernel
theorem dX4_hears_131 : decode cX4_hears 131 = .ok (.iload_n 2, 1) := by decide +kernel
theorem dX4_hears_132 : decode cX4_hears 132 = .ok (.imul, 1) := by decide +kernel
theorem dX4_hears_133 : decode cX4_hears 133 = .ok (.iload_n 3, 1) := by decide +kernel
theorem dX4_hears_134 : decode cX4_hears 134 = .ok (.iadd, 1) := by decide +kernel
theorem dX4_hears_135 : decode cX4_hears 135 = .ok (.iaload, 1) := by decide +kernel
theorem dX4_hears_136 : decode cX4_hears 136 = .ok (.iastore, 1) := by decide +kernel
theorem dX4_hears_137 : decode cX4_hears 137 = .ok (.iinc 3 1, 3) := by decide +kernel
theorem dX4_hears_140 : decode cX4_hears 140 = .ok (.goto (-33), 3) := by decide +kernel
theorem dX4_hears_143 : decode cX4_hears 143 = .ok (.aload_n 0, 1) := by decide +kernel
theorem dX4_hears_144 : decode cX4_hears 144 = .ok (.getfield 36, 3) := by decide +kernel
theorem dX4_hears_147 : decode cX4_hears 147 = .ok (.iload_n 2, 1) := by decide +kernel
theorem dX4_hears_148 : decode cX4_hears 148 = .ok (.iconst 2, 1) := by decide +kernel
theorem dX4_hears_149 : decode cX4_hears 149 = .ok (.iastore, 1) := by decide +kernel
theorem dX4_hears_150 : decode cX4_hears 150 = .ok (.aload_n 0, 1) := by decide +kernel
theorem dX4_hears_151 : decode cX4_hears 151 = .ok (.iload_n 2, 1) := by decide +kernel
theorem dX4_hears_152 : decode cX4_hears 152 = .ok (.iconst 2, 1) := by decide +kernel
theorem dX4_hears_153 : decode cX4_hears 153 = .ok (.aload_n 0, 1) := by decide +kernel
theorem dX4_hears_154 : decode cX4_hears 154 = .ok (.getfield 60, 3) := by decide +kernel
theorem dX4_hears_157 : decode cX4_hears 157 = .ok (.invokevirtual 125, 3) := by decide +kernel
theorem dX4_hears_160 : decode cX4_hears 160 = .ok (.goto 26, 3) := by decide +kernel
theorem dX4_hears_163 : decode cX4_hears 163 = .ok (.aload_n 0, 1) := by decide +kernel
theorem dX4_hears_164 : decode cX4_hears 164 = .ok (.getfield 36, 3) := by decide +kernel
theorem dX4_hears_167 : decode cX4_hears 167 = .ok (.iload_n 2, 1) := by decide +kernel
theorem dX4_hears_168 : decode cX4_hears 168 = .ok (.iaload, 1) := by decide +kernel
theorem dX4_hears_169 : decode cX4_hears 169 = .ok (.iconst 2, 1) := by decide +kernel
theorem dX4_hears_170 : decode cX4_hears 170 = .ok (.if_icmp .ne 11, 3) := by decide +kernel
theorem dX4_hears_173 : decode cX4_hears 173 = .ok (.aload_n 0, 1) := by decide +kernel
theorem dX4_hears_174 : decode cX4_hears 174 = .ok (.iload_n 2, 1) := by decide +kernel
theorem dX4_hears_175 : decode cX4_hears 175 = .ok (.invokevirtual 180, 3) := by decide +kernel
theorem dX4_hears_178 : decode cX4_hears 178 = .ok (.goto 8, 3) := by decide +kernel
theorem dX4_hears_181 : decode cX4_hears 181 = .ok (.aload_n 0, 1) := by decide +kernel
theorem dX4_hears_182 : decode cX4_hears 182 = .ok (.iload_n 2, 1) := by decide +kernel
theorem dX4_hears_183 : decode cX4_hears 183 = .ok (.invokevirtual 162, 3) := by decide +kernel
theorem dX4_hears_186 : decode cX4_hears 186 = .ok (.return_, 1) := by decide +kernel
theorem dX4_come_0 : decode cX4_come 0 = .ok (.aload_n 0, 1) := by decide +kernel
theorem dX4_come_1 : decode cX4_come 1 = .ok (.getfield 30, 3) := by decide +kernel
theorem dX4_come_4 : decode cX4_come 4 = .ok (.iload_n 1, 1) := by decide +kernel
theorem dX4_come_5 : decode cX4_come 5 = .ok (.iaload, 1) := by decide +kernel
theorem dX4_come_6 : decode cX4_come 6 = .ok (.istore_n 2, 1) := by decide +kernel
theorem dX4_come_7 : decode cX4_come 7 = .ok (.aload_n 0, 1) := by decide +kernel
theorem dX4_come_8 : decode cX4_come 8 = .ok (.aload_n 0, 1) := by decide +kernel
theorem dX4_come_9 : decode cX4_come 9 = .ok (.iload_n 2, 1) := by decide +kernel
theorem dX4_come_10 : decode cX4_come 10 = .ok (.invokevirtual 183, 3) := by decide +kernel
theorem dX4_come_13 : decode cX4_come 13 = .ok (.iconst 1, 1) := by decide +kernel
theorem dX4_come_14 : decode cX4_come 14 = .ok (.isub, 1) := by decide +kernel
theorem dX4_come_15 : decode cX4_come 15 = .ok (.invokevirtual 132, 3) := by decide +kernel
theorem dX4_come_18 : decode cX4_come 18 = .ok (.ifCond .ne 5, 3) := by decide +kernel
theorem dX4_come_21 : decode cX4_come 21 = .ok (.iconst (-1), 1) := by decide +kernel
theorem dX4_come_22 : decode cX4_come 22 = .ok (.ireturn, 1) := by decide +kernel
theorem dX4_come_23 : decode cX4_come 23 = .ok (.iload_n 1, 1) := by decide +kernel
theorem dX4_come_24 : decode cX4_come 24 = .ok (.iconst 1, 1) := by decide +kernel
theorem dX4_come_25 : decode cX4_come 25 = .ok (.iadd, 1) := by decide +kernel
theorem dX4_come_26 : decode cX4_come 26 = .ok (.istore_n 3, 1) := by decide +kernel
theorem dX4_come_27 : decode cX4_come 27 = .ok (.iload_n 3, 1) := by decide +kernel
theorem dX4_come_28 : decode cX4_come 28 = .ok (.aload_n 0, 1) := by decide +kernel
theorem dX4_come_29 : decode cX4_come 29 = .ok (.getfield 115, 3) := by decide +kernel
theorem dX4_come_32 : decode cX4_come 32 = .ok (.if_icmp .ge 23, 3) := by decide +kernel
theorem dX4_come_35 : decode cX4_come 35 = .ok (.aload_n 0, 1) := by decide +kernel
theorem dX4_come_36 : decode cX4_come 36 = .ok (.getfield 30, 3) := by decide +kernel
theorem dX4_come_39 : decode cX4_come 39 = .ok (.iload_n 3, 1) := by decide +kernel
theorem dX4_come_40 : decode cX4_come 40 = .ok (.iconst 1, 1) := by decide +kernel
theorem dX4_come_41 : decode cX4_come 41 = .ok (.isub, 1) := by decide +kernel
theorem dX4_come_42 : decode cX4_come 42 = .ok (.aload_n 0, 1) := by decide +kernel
theorem dX4_come_43 : decode cX4_come 43 = .ok (.getfield 30, 3) := by decide +kernel
theorem dX4_come_46 : decode cX4_come 46 = .ok (.iload_n 3, 1) := by decide +kernel
theorem dX4_come_47 : decode cX4_come 47 = .ok (.iaload, 1) := by decide +kernel
theorem dX4_come_48 : decode cX4_come 48 = .ok (.iastore, 1) := by decide +kernel
theorem dX4_come_49 : decode cX4_come 49 = .ok (.iinc 3 1, 3) := by decide +kernel
theorem dX4_come_52 : decode cX4_come 52 = .ok (.goto (-25), 3) := by decide +kernel
theorem dX4_come_55 : decode cX4_come 55 = .ok (.aload_n 0, 1) := by decide +kernel
theorem dX4_come_56 : decode cX4_come 56 = .ok (.dup, 1) := by decide +kernel
theorem dX4_come_57 : decode cX4_come 57 = .ok (.getfield 115, 3) := by decide +kernel
theorem dX4_come_60 : decode cX4_come 60 = .ok (.iconst 1, 1) := by decide +kernel
theorem dX4_come_61 : decode cX4_come 61 = .ok (.isub, 1) := by decide +kernel
theorem dX4_come_62 : decode cX4_come 62 = .ok (.putfield 115, 3) := by decide +kernel
theorem dX4_come_65 : decode cX4_come 65 = .ok (.aload_n 0, 1) := by decide +kernel
theorem dX4_come_66 : decode cX4_come 66 = .ok (.dup, 1) := by decide +kernel
theorem dX4_come_67 : decode cX4_come 67 = .ok (.getfield 186, 3) := by decide +kernel
theorem dX4_come_70 : decode cX4_come 70 = .ok (.iconst 1, 1) := by decide +kernel
theorem dX4_come_71 : decode cX4_come 71 = .ok (.iadd, 1) := by decide +kernel
theorem dX4_come_72 : decode cX4_come 72 = .ok (.putfield 186, 3) := by decide +kernel
theorem dX4_come_75 : decode cX4_come 75 = .ok (.aload_n 0, 1) := by decide +kernel
theorem dX4_come_76 : decode cX4_come 76 = .ok (.dup, 1) := by decide +kernel
theorem dX4_come_77 : decode cX4_come 77 = .ok (.getfield 136, 3) := by decide +kernel
theorem dX4_come_80 : decode cX4_come 80 = .ok (.iconst 1, 1) := by decide +kernel
theorem dX4_come_81 : decode cX4_come 81 = .ok (.iadd, 1) := by decide +kernel
theorem dX4_come_82 : decode cX4_come 82 = .ok (.putfield 136, 3) := by decide +kernel
theorem dX4_come_85 : decode cX4_come 85 = .ok (.aload_n 0, 1) := by decide +kernel
theorem dX4_come_86 : decode cX4_come 86 = .ok (.getfield 33, 3) := by decide +kernel
theorem dX4_come_89 : decode cX4_come 89 = .ok (.aload_n 0, 1) := by decide +kernel
theorem dX4_come_90 : decode cX4_come 90 = .ok (.getfield 16, 3) := by decide +kernel
theorem dX4_come_93 : decode cX4_come 93 = .ok (.iload_n 2, 1) := by decide +kernel
theorem dX4_come_94 : decode cX4_come 94 = .ok (.iaload, 1) := by decide +kernel
theorem dX4_come_95 : decode cX4_come 95 = .ok (.baload, 1) := by decide +kernel
theorem dX4_come_96 : decode cX4_come 96 = .ok (.ifCond .ne 7, 3) := by decide +kernel
theorem dX4_come_99 : decode cX4_come 99 = .ok (.iconst 1, 1) := by decide +kernel
theorem dX4_come_100 : decode cX4_come 100 = .ok (.goto 4, 3) := by decide +kernel
theorem dX4_come_103 : decode cX4_come 103 = .ok (.iconst 0, 1) := by decide +kernel
theorem dX4_come_104 : decode cX4_come 104 = .ok (.istore_n 3, 1) := by decide +kernel
theorem dX4_come_105 : decode cX4_come 105 = .ok (.iload_n 3, 1) := by decide +kernel
theorem dX4_come_106 : decode cX4_come 106 = .ok (.ifCond .eq 30, 3) := by decide +kernel
theorem dX4_come_109 : decode cX4_come 109 = .ok (.aload_n 0, 1) := by decide +kernel
theorem dX4_come_110 : decode cX4_come 110 = .ok (.getfield 7, 3) := by decide +kernel
theorem dX4_come_113 : decode cX4_come 113 = .ok (.iload_n 2, 1) := by decide +kernel
theorem dX4_come_114 : decode cX4_come 114 = .ok (.iaload, 1) := by decide +kernel
theorem dX4_come_115 : decode cX4_come 115 = .ok (.ifCond .eq 13, 3) := by decide +kernel
theorem dX4_come_118 : decode cX4_come 118 = .ok (.aload_n 0, 1) := by decide +kernel
theorem dX4_come_119 : decode cX4_come 119 = .ok (.getfield 7, 3) := by decide +kernel
theorem dX4_come_122 : decode cX4_come 122 = .ok (.iload_n 2, 1) := by decide +kernel
theorem dX4_come_123 : decode cX4_come 123 = .ok (.iaload, 1) := by decide +kernel
theorem dX4_come_124 : decode cX4_come 124 = .ok (.iconst 2, 1) := by decide +kernel
theorem dX4_come_125 : decode cX4_come 125 = .ok (.if_icmp .ne 11, 3) := by decide +kernel
theorem dX4_come_128 : decode cX4_come 128 = .ok (.aload_n 0, 1) := by decide +kernel
theorem dX4_come_129 : decode cX4_come 129 = .ok (.iload_n 2, 1) := by decide +kernel
theorem dX4_come_130 : decode cX4_come 130 = .ok (.invokevirtual 189, 3) := by decide +kernel
theorem dX4_come_133 : decode cX4_come 133 = .ok (.goto 20, 3) := by decide +kernel
theorem dX4_come_136 : decode cX4_come 136 = .ok (.iload_n 3, 1) := by decide +kernel
theorem dX4_come_137 : decode cX4_come 137 = .ok (.ifCond .eq 16, 3) := by decide +kernel
theorem dX4_come_140 : decode cX4_come 140 = .ok (.aload_n 0, 1) := by decide +kernel
theorem dX4_come_141 : decode cX4_come 141 = .ok (.iload_n 2, 1) := by decide +kernel
theorem dX4_come_142 : decode cX4_come 142 = .ok (.invokevirtual 171, 3) := by decide +kernel
theorem dX4_come_145 : decode cX4_come 145 = .ok (.ifCond .eq 8, 3) := by decide +kernel
theorem dX4_come_148 : decode cX4_come 148 = .ok (.aload_n 0, 1) := by decide +kernel
theorem dX4_come_149 : decode cX4_come 149 = .ok (.iload_n 2, 1) := by decide +kernel
theorem dX4_come_150 : decode cX4_come 150 = .ok (.invokevirtual 192, 3) := by decide +kernel
theorem dX4_come_153 : decode cX4_come 153 = .ok (.aload_n 0, 1) := by decide +kernel
theorem dX4_come_154 : decode cX4_come 154 = .ok (.getfield 26, 3) := by decide +kernel
theorem dX4_come_157 : decode cX4_come 157 = .ok (.iload_n 2, 1) := by decide +kernel
theorem dX4_come_158 : decode cX4_come 158 = .ok (.iconst 0, 1) := by decide +kernel
theorem dX4_come_159 : decode cX4_come 159 = .ok (.bastore, 1) := by decide +kernel
theorem dX4_come_160 : decode cX4_come 160 = .ok (.aload_n 0, 1) := by decide +kernel
theorem dX4_come_161 : decode cX4_come 161 = .ok (.getfield 7, 3) := by decide +kernel
theorem dX4_come_164 : decode cX4_come 164 = .ok (.iload_n 2, 1) := by decide +kernel
theorem dX4_come_165 : decode cX4_come 165 = .ok (.iaload, 1) := by decide +kernel
theorem dX4_come_166 : decode cX4_come 166 = .ok (.ireturn, 1) := by decide +kernel
theorem dX4_deliver_0 : decode cX4_deliver 0 = .ok (.aload_n 0, 1) := by decide +kernel
theorem dX4_deliver_1 : decode cX4_deliver 1 = .ok (.iload_n 1, 1) := by decide +kernel
theorem dX4_deliver_2 : decode cX4_deliver 2 = .ok (.ifCond .lt 11, 3) := by decide +kernel
theorem dX4_deliver_5 : decode cX4_deliver 5 = .ok (.iload_n 1, 1) := by decide +kernel
theorem dX4_deliver_6 : decode cX4_deliver 6 = .ok (.aload_n 0, 1) := by decide +kernel
theorem dX4_deliver_7 : decode cX4_deliver 7 = .ok (.getfield 115, 3) := by decide +kernel
theorem dX4_deliver_10 : decode cX4_deliver 10 = .ok (.if_icmp .lt 7, 3) := by decide +kernel
theorem dX4_deliver_13 : decode cX4_deliver 13 = .ok (.iconst 1, 1) := by decide +kernel
theorem dX4_deliver_14 : decode cX4_deliver 14 = .ok (.goto 4, 3) := by decide +kernel
theorem dX4_deliver_17 : decode cX4_deliver 17 = .ok (.iconst 0, 1) := by decide +kernel
theorem dX4_deliver_18 : decode cX4_deliver 18 = .ok (.putfield 112, 3) := by decide +kernel
theorem dX4_deliver_21 : decode cX4_deliver 21 = .ok (.aload_n 0, 1) := by decide +kernel
theorem dX4_deliver_22 : decode cX4_deliver 22 = .ok (.getfield 112, 3) := by decide +kernel
theorem dX4_deliver_25 : decode cX4_deliver 25 = .ok (.ifCond .le 7, 3) := by decide +kernel
theorem dX4_deliver_28 : decode cX4_deliver 28 = .ok (.iconst 0, 1) := by decide +kernel
theorem dX4_deliver_29 : decode cX4_deliver 29 = .ok (.goto 8, 3) := by decide +kernel
theorem dX4_deliver_32 : decode cX4_deliver 32 = .ok (.aload_n 0, 1) := by decide +kernel
theorem dX4_deliver_33 : decode cX4_deliver 33 = .ok (.iload_n 1, 1) := by decide +kernel
theorem dX4_deliver_34 : decode cX4_deliver 34 = .ok (.invokevirtual 195, 3) := by decide +kernel
theorem dX4_deliver_37 : decode cX4_deliver 37 = .ok (.ireturn, 1) := by decide +kernel
theorem dX4_calm_0 : decode cX4_calm 0 = .ok (.aload_n 0, 1) := by decide +kernel
theorem dX4_calm_1 : decode cX4_calm 1 = .ok (.iload_n 1, 1) := by decide +kernel
theorem dX4_calm_2 : decode cX4_calm 2 = .ok (.ifCond .lt 10, 3) := by decide +kernel
theorem dX4_calm_5 : decode cX4_calm 5 = .ok (.iload_n 1, 1) := by decide +kernel
theorem dX4_calm_6 : decode cX4_calm 6 = .ok (.sipush 2000, 3) := by decide +kernel
theorem dX4_calm_9 : decode cX4_calm 9 = .ok (.if_icmp .le 7, 3) := by decide +kernel
theorem dX4_calm_12 : decode cX4_calm 12 = .ok (.iconst 1, 1) := by decide +kernel
theorem dX4_calm_13 : decode cX4_calm 13 = .ok (.goto 4, 3) := by decide +kernel
theorem dX4_calm_16 : decode cX4_calm 16 = .ok (.iconst 0, 1) := by decide +kernel
theorem dX4_calm_17 : decode cX4_calm 17 = .ok (.putfield 112, 3) := by decide +kernel
theorem dX4_calm_20 : decode cX4_calm 20 = .ok (.iconst 0, 1) := by decide +kernel
theorem dX4_calm_21 : decode cX4_calm 21 = .ok (.istore_n 2, 1) := by decide +kernel
theorem dX4_calm_22 : decode cX4_calm 22 = .ok (.aload_n 0, 1) := by decide +kernel
theorem dX4_calm_23 : decode cX4_calm 23 = .ok (.getfield 112, 3) := by decide +kernel
theorem dX4_calm_26 : decode cX4_calm 26 = .ok (.ifCond .ne 30, 3) := by decide +kernel
theorem dX4_calm_29 : decode cX4_calm 29 = .ok (.iload_n 2, 1) := by decide +kernel
theorem dX4_calm_30 : decode cX4_calm 30 = .ok (.iload_n 1, 1) := by decide +kernel
theorem dX4_calm_31 : decode cX4_calm 31 = .ok (.if_icmp .ge 25, 3) := by decide +kernel
theorem dX4_calm_34 : decode cX4_calm 34 = .ok (.aload_n 0, 1) := by decide +kernel
theorem dX4_calm_35 : decode cX4_calm 35 = .ok (.getfield 115, 3) := by decide +kernel
theorem dX4_calm_38 : decode cX4_calm 38 = .ok (.ifCond .le 18, 3) := by decide +kernel
theorem dX4_calm_41 : decode cX4_calm 41 = .ok (.aload_n 0, 1) := by decide +kernel
theorem dX4_calm_42 : decode cX4_calm 42 = .ok (.iconst 0, 1) := by decide +kernel
theorem dX4_calm_43 : decode cX4_calm 43 = .ok (.invokevirtual 195, 3) := by decide +kernel
theorem dX4_calm_46 : decode cX4_calm 46 = .ok (.iconst (-1), 1) := by decide +kernel
theorem dX4_calm_47 : decode cX4_calm 47 = .ok (.if_icmp .eq 9, 3) := by decide +kernel
theorem dX4_calm_50 : decode cX4_calm 50 = .ok (.iinc 2 1, 3) := by decide +kernel
theorem dX4_calm_53 : decode cX4_calm 53 = .ok (.goto (-31), 3) := by decide +kernel
theorem dX4_calm_56 : decode cX4_calm 56 = .ok (.iload_n 2, 1) := by decide +kernel
theorem dX4_calm_57 : decode cX4_calm 57 = .ok (.ireturn, 1) := by decide +kernel
theorem dX4_crash_0 : decode cX4_crash 0 = .ok (.aload_n 0, 1) := by decide +kernel
theorem dX4_crash_1 : decode cX4_crash 1 = .ok (.aload_n 0, 1) := by decide +kernel
theorem dX4_crash_2 : decode cX4_crash 2 = .ok (.iload_n 1, 1) := by decide +kernel
theorem dX4_crash_3 : decode cX4_crash 3 = .ok (.invokevirtual 143, 3) := by decide +kernel
theorem dX4_crash_6 : decode cX4_crash 6 = .ok (.ifCond .eq 7, 3) := by decide +kernel
theorem dX4_crash_9 : decode cX4_crash 9 = .ok (.iconst 0, 1) := by decide +kernel
theorem dX4_crash_10 : decode cX4_crash 10 = .ok (.goto 4, 3) := by decide +kernel
theorem dX4_crash_13 : decode cX4_crash 13 = .ok (.iconst 1, 1) := by decide +kernel
theorem dX4_crash_14 : decode cX4_crash 14 = .ok (.putfield 112, 3) := by decide +kernel
theorem dX4_crash_17 : decode cX4_crash 17 = .ok (.aload_n 0, 1) := by decide +kernel
theorem dX4_crash_18 : decode cX4_crash 18 = .ok (.getfield 112, 3) := by decide +kernel
theorem dX4_crash_21 : decode cX4_crash 21 = .ok (.ifCond .gt 12, 3) := by decide +kernel
theorem dX4_crash_24 : decode cX4_crash 24 = .ok (.aload_n 0, 1) := by decide +kernel
theorem dX4_crash_25 : decode cX4_crash 25 = .ok (.getfield 33, 3) := by decide +kernel
theorem dX4_crash_28 : decode cX4_crash 28 = .ok (.iload_n 1, 1) := by decide +kernel
theorem dX4_crash_29 : decode cX4_crash 29 = .ok (.baload, 1) := by decide +kernel
theorem dX4_crash_30 : decode cX4_crash 30 = .ok (.ifCond .eq 5, 3) := by decide +kernel
theorem dX4_crash_33 : decode cX4_crash 33 = .ok (.iconst 0, 1) := by decide +kernel
theorem dX4_crash_34 : decode cX4_crash 34 = .ok (.ireturn, 1) := by decide +kernel
theorem dX4_crash_35 : decode cX4_crash 35 = .ok (.aload_n 0, 1) := by decide +kernel
theorem dX4_crash_36 : decode cX4_crash 36 = .ok (.getfield 33, 3) := by decide +kernel
theorem dX4_crash_39 : decode cX4_crash 39 = .ok (.iload_n 1, 1) := by decide +kernel
theorem dX4_crash_40 : decode cX4_crash 40 = .ok (.iconst 1, 1) := by decide +kernel
theorem dX4_crash_41 : decode cX4_crash 41 = .ok (.bastore, 1) := by decide +kernel
theorem dX4_crash_42 : decode cX4_crash 42 = .ok (.aload_n 0, 1) := by decide +kernel
theorem dX4_crash_43 : decode cX4_crash 43 = .ok (.dup, 1) := by decide +kernel
theorem dX4_crash_44 : decode cX4_crash 44 = .ok (.getfield 136, 3) := by decide +kernel
theorem dX4_crash_47 : decode cX4_crash 47 = .ok (.iconst 1, 1) := by decide +kernel
theorem dX4_crash_48 : decode cX4_crash 48 = .ok (.iadd, 1) := by decide +kernel
theorem dX4_crash_49 : decode cX4_crash 49 = .ok (.putfield 136, 3) := by decide +kernel
theorem dX4_crash_52 : decode cX4_crash 52 = .ok (.iconst 1, 1) := by decide +kernel
theorem dX4_crash_53 : decode cX4_crash 53 = .ok (.ireturn, 1) := by decide +kernel
theorem dX4_isOperation_0 : decode cX4_isOperation 0 = .ok (.iload_n 1, 1) := by decide +kernel
theorem dX4_isOperation_1 : decode cX4_isOperation 1 = .ok (.iconst 1, 1) := by decide +kernel
theorem dX4_isOperation_2 : decode cX4_isOperation 2 = .ok (.if_icmp .lt 15, 3) := by decide +kernel
theorem dX4_isOperation_5 : decode cX4_isOperation 5 = .ok (.iload_n 1, 1) := by decide +kernel
theorem dX4_isOperation_6 : decode cX4_isOperation 6 = .ok (.aload_n 0, 1) := by decide +kernel
theorem dX4_isOperation_7 : decode cX4_isOperation 7 = .ok (.getfield 129, 3) := by decide +kernel
theorem dX4_isOperation_10 : decode cX4_isOperation 10 = .ok (.if_icmp .gt 7, 3) := by decide +kernel
theorem dX4_isOperation_13 : decode cX4_isOperation 13 = .ok (.iconst 1, 1) := by decide +kernel
theorem dX4_isOperation_14 : decode cX4_isOperation 14 = .ok (.goto 4, 3) := by decide +kernel
theorem dX4_isOperation_17 : decode cX4_isOperation 17 = .ok (.iconst 0, 1) := by decide +kernel
theorem dX4_isOperation_18 : decode cX4_isOperation 18 = .ok (.ireturn, 1) := by decide +kernel
end
section
theorem dX4_told_0 : decode cX4_told 0 = .ok (.aload_n 0, 1) := by decide +kernel
theorem dX4_told_1 : decode cX4_told 1 = .ok (.iconst 0, 1) := by decide +kernel
theorem dX4_told_2 : decode cX4_told 2 = .ok (.putfield 112, 3) := by decide +kernel
theorem dX4_told_5 : decode cX4_told 5 = .ok (.aload_n 0, 1) := by decide +kernel
theorem dX4_told_6 : decode cX4_told 6 = .ok (.iload_n 1, 1) := by decide +kernel
theorem dX4_told_7 : decode cX4_told 7 = .ok (.invokevirtual 198, 3) := by decide +kernel
theorem dX4_told_10 : decode cX4_told 10 = .ok (.ifCond .ne 5, 3) := by decide +kernel
theorem dX4_told_13 : decode cX4_told 13 = .ok (.iconst (-1), 1) := by decide +kernel
theorem dX4_told_14 : decode cX4_told 14 = .ok (.ireturn, 1) := by decide +kernel
theorem dX4_told_15 : decode cX4_told 15 = .ok (.iload_n 2, 1) := by decide +kernel
theorem dX4_told_16 : decode cX4_told 16 = .ok (.tableswitch 135 0 9 #[56, 63, 70, 77, 84, 100, 107, 114, 121, 128], 56) := by decide +kernel
theorem dX4_told_72 : decode cX4_told 72 = .ok (.aload_n 0, 1) := by decide +kernel
theorem dX4_told_73 : decode cX4_told 73 = .ok (.getfield 72, 3) := by decide +kernel
theorem dX4_told_76 : decode cX4_told 76 = .ok (.iload_n 1, 1) := by decide +kernel
theorem dX4_told_77 : decode cX4_told 77 = .ok (.iaload, 1) := by decide +kernel
theorem dX4_told_78 : decode cX4_told 78 = .ok (.ireturn, 1) := by decide +kernel
theorem dX4_told_79 : decode cX4_told 79 = .ok (.aload_n 0, 1) := by decide +kernel
theorem dX4_told_80 : decode cX4_told 80 = .ok (.getfield 75, 3) := by decide +kernel
theorem dX4_told_83 : decode cX4_told 83 = .ok (.iload_n 1, 1) := by decide +kernel
theorem dX4_told_84 : decode cX4_told 84 = .ok (.iaload, 1) := by decide +kernel
theorem dX4_told_85 : decode cX4_told 85 = .ok (.ireturn, 1) := by decide +kernel
theorem dX4_told_86 : decode cX4_told 86 = .ok (.aload_n 0, 1) := by decide +kernel
theorem dX4_told_87 : decode cX4_told 87 = .ok (.getfield 78, 3) := by decide +kernel
theorem dX4_told_90 : decode cX4_told 90 = .ok (.iload_n 1, 1) := by decide +kernel
theorem dX4_told_91 : decode cX4_told 91 = .ok (.iaload, 1) := by decide +kernel
theorem dX4_told_92 : decode cX4_told 92 = .ok (.ireturn, 1) := by decide +kernel
theorem dX4_told_93 : decode cX4_told 93 = .ok (.aload_n 0, 1) := by decide +kernel
theorem dX4_told_94 : decode cX4_told 94 = .ok (.getfield 81, 3) := by decide +kernel
theorem dX4_told_97 : decode cX4_told 97 = .ok (.iload_n 1, 1) := by decide +kernel
theorem dX4_told_98 : decode cX4_told 98 = .ok (.iaload, 1) := by decide +kernel
theorem dX4_told_99 : decode cX4_told 99 = .ok (.ireturn, 1) := by decide +kernel
theorem dX4_told_100 : decode cX4_told 100 = .ok (.aload_n 0, 1) := by decide +kernel
theorem dX4_told_101 : decode cX4_told 101 = .ok (.getfield 87, 3) := by decide +kernel
theorem dX4_told_104 : decode cX4_told 104 = .ok (.iload_n 1, 1) := by decide +kernel
theorem dX4_told_105 : decode cX4_told 105 = .ok (.iaload, 1) := by decide +kernel
theorem dX4_told_106 : decode cX4_told 106 = .ok (.iconst (-1), 1) := by decide +kernel
theorem dX4_told_107 : decode cX4_told 107 = .ok (.if_icmp .ne 7, 3) := by decide +kernel
theorem dX4_told_110 : decode cX4_told 110 = .ok (.iconst 0, 1) := by decide +kernel
theorem dX4_told_111 : decode cX4_told 111 = .ok (.goto 4, 3) := by decide +kernel
theorem dX4_told_114 : decode cX4_told 114 = .ok (.iconst 1, 1) := by decide +kernel
theorem dX4_told_115 : decode cX4_told 115 = .ok (.ireturn, 1) := by decide +kernel
theorem dX4_told_116 : decode cX4_told 116 = .ok (.aload_n 0, 1) := by decide +kernel
theorem dX4_told_117 : decode cX4_told 117 = .ok (.getfield 84, 3) := by decide +kernel
theorem dX4_told_120 : decode cX4_told 120 = .ok (.iload_n 1, 1) := by decide +kernel
theorem dX4_told_121 : decode cX4_told 121 = .ok (.iaload, 1) := by decide +kernel
theorem dX4_told_122 : decode cX4_told 122 = .ok (.ireturn, 1) := by decide +kernel
theorem dX4_told_123 : decode cX4_told 123 = .ok (.aload_n 0, 1) := by decide +kernel
theorem dX4_told_124 : decode cX4_told 124 = .ok (.getfield 87, 3) := by decide +kernel
theorem dX4_told_127 : decode cX4_told 127 = .ok (.iload_n 1, 1) := by decide +kernel
theorem dX4_told_128 : decode cX4_told 128 = .ok (.iaload, 1) := by decide +kernel
theorem dX4_told_129 : decode cX4_told 129 = .ok (.ireturn, 1) := by decide +kernel
theorem dX4_told_130 : decode cX4_told 130 = .ok (.aload_n 0, 1) := by decide +kernel
theorem dX4_told_131 : decode cX4_told 131 = .ok (.getfield 90, 3) := by decide +kernel
theorem dX4_told_134 : decode cX4_told 134 = .ok (.iload_n 1, 1) := by decide +kernel
theorem dX4_told_135 : decode cX4_told 135 = .ok (.iaload, 1) := by decide +kernel
theorem dX4_told_136 : decode cX4_told 136 = .ok (.ireturn, 1) := by decide +kernel
theorem dX4_told_137 : decode cX4_told 137 = .ok (.aload_n 0, 1) := by decide +kernel
theorem dX4_told_138 : decode cX4_told 138 = .ok (.getfield 93, 3) := by decide +kernel
theorem dX4_told_141 : decode cX4_told 141 = .ok (.iload_n 1, 1) := by decide +kernel
theorem dX4_told_142 : decode cX4_told 142 = .ok (.iaload, 1) := by decide +kernel
theorem dX4_told_143 : decode cX4_told 143 = .ok (.ireturn, 1) := by decide +kernel
theorem dX4_told_144 : decode cX4_told 144 = .ok (.aload_n 0, 1) := by decide +kernel
theorem dX4_told_145 : decode cX4_told 145 = .ok (.getfield 96, 3) := by decide +kernel
theorem dX4_told_148 : decode cX4_told 148 = .ok (.iload_n 1, 1) := by decide +kernel
theorem dX4_told_149 : decode cX4_told 149 = .ok (.iaload, 1) := by decide +kernel
theorem dX4_told_150 : decode cX4_told 150 = .ok (.ireturn, 1) := by decide +kernel
theorem dX4_told_151 : decode cX4_told 151 = .ok (.iconst (-1), 1) := by decide +kernel
theorem dX4_told_152 : decode cX4_told 152 = .ok (.ireturn, 1) := by decide +kernel
theorem dX4_gather_0 : decode cX4_gather 0 = .ok (.aload_n 0, 1) := by decide +kernel
theorem dX4_gather_1 : decode cX4_gather 1 = .ok (.iconst 0, 1) := by decide +kernel
theorem dX4_gather_2 : decode cX4_gather 2 = .ok (.putfield 201, 3) := by decide +kernel
theorem dX4_gather_5 : decode cX4_gather 5 = .ok (.iconst 0, 1) := by decide +kernel
theorem dX4_gather_6 : decode cX4_gather 6 = .ok (.istore_n 3, 1) := by decide +kernel
theorem dX4_gather_7 : decode cX4_gather 7 = .ok (.iload_n 3, 1) := by decide +kernel
theorem dX4_gather_8 : decode cX4_gather 8 = .ok (.aload_n 0, 1) := by decide +kernel
theorem dX4_gather_9 : decode cX4_gather 9 = .ok (.getfield 108, 3) := by decide +kernel
theorem dX4_gather_12 : decode cX4_gather 12 = .ok (.if_icmp .ge 81, 3) := by decide +kernel
theorem dX4_gather_15 : decode cX4_gather 15 = .ok (.iconst 0, 1) := by decide +kernel
theorem dX4_gather_16 : decode cX4_gather 16 = .ok (.istore 4, 2) := by decide +kernel
theorem dX4_gather_18 : decode cX4_gather 18 = .ok (.iload 4, 2) := by decide +kernel
theorem dX4_gather_20 : decode cX4_gather 20 = .ok (.aload_n 0, 1) := by decide +kernel
theorem dX4_gather_21 : decode cX4_gather 21 = .ok (.getfield 99, 3) := by decide +kernel
theorem dX4_gather_24 : decode cX4_gather 24 = .ok (.bipush 31, 2) := by decide +kernel
theorem dX4_gather_26 : decode cX4_gather 26 = .ok (.iload_n 1, 1) := by decide +kernel
theorem dX4_gather_27 : decode cX4_gather 27 = .ok (.imul, 1) := by decide +kernel
theorem dX4_gather_28 : decode cX4_gather 28 = .ok (.iload_n 3, 1) := by decide +kernel
theorem dX4_gather_29 : decode cX4_gather 29 = .ok (.iadd, 1) := by decide +kernel
theorem dX4_gather_30 : decode cX4_gather 30 = .ok (.iaload, 1) := by decide +kernel
theorem dX4_gather_31 : decode cX4_gather 31 = .ok (.if_icmp .ge 56, 3) := by decide +kernel
theorem dX4_gather_34 : decode cX4_gather 34 = .ok (.aload_n 0, 1) := by decide +kernel
theorem dX4_gather_35 : decode cX4_gather 35 = .ok (.getfield 54, 3) := by decide +kernel
theorem dX4_gather_38 : decode cX4_gather 38 = .ok (.sipush 512, 3) := by decide +kernel
theorem dX4_gather_41 : decode cX4_gather 41 = .ok (.iload_n 3, 1) := by decide +kernel
theorem dX4_gather_42 : decode cX4_gather 42 = .ok (.imul, 1) := by decide +kernel
theorem dX4_gather_43 : decode cX4_gather 43 = .ok (.iload 4, 2) := by decide +kernel
theorem dX4_gather_45 : decode cX4_gather 45 = .ok (.iadd, 1) := by decide +kernel
theorem dX4_gather_46 : decode cX4_gather 46 = .ok (.iaload, 1) := by decide +kernel
theorem dX4_gather_47 : decode cX4_gather 47 = .ok (.istore 5, 2) := by decide +kernel
theorem dX4_gather_49 : decode cX4_gather 49 = .ok (.aload_n 0, 1) := by decide +kernel
theorem dX4_gather_50 : decode cX4_gather 50 = .ok (.getfield 75, 3) := by decide +kernel
theorem dX4_gather_53 : decode cX4_gather 53 = .ok (.iload 5, 2) := by decide +kernel
theorem dX4_gather_55 : decode cX4_gather 55 = .ok (.iaload, 1) := by decide +kernel
theorem dX4_gather_56 : decode cX4_gather 56 = .ok (.iload_n 2, 1) := by decide +kernel
theorem dX4_gather_57 : decode cX4_gather 57 = .ok (.if_icmp .ne 24, 3) := by decide +kernel
theorem dX4_gather_60 : decode cX4_gather 60 = .ok (.aload_n 0, 1) := by decide +kernel
theorem dX4_gather_61 : decode cX4_gather 61 = .ok (.getfield 105, 3) := by decide +kernel
theorem dX4_gather_64 : decode cX4_gather 64 = .ok (.aload_n 0, 1) := by decide +kernel
theorem dX4_gather_65 : decode cX4_gather 65 = .ok (.getfield 201, 3) := by decide +kernel
theorem dX4_gather_68 : decode cX4_gather 68 = .ok (.iload 5, 2) := by decide +kernel
theorem dX4_gather_70 : decode cX4_gather 70 = .ok (.iastore, 1) := by decide +kernel
theorem dX4_gather_71 : decode cX4_gather 71 = .ok (.aload_n 0, 1) := by decide +kernel
theorem dX4_gather_72 : decode cX4_gather 72 = .ok (.dup, 1) := by decide +kernel
theorem dX4_gather_73 : decode cX4_gather 73 = .ok (.getfield 201, 3) := by decide +kernel
theorem dX4_gather_76 : decode cX4_gather 76 = .ok (.iconst 1, 1) := by decide +kernel
theorem dX4_gather_77 : decode cX4_gather 77 = .ok (.iadd, 1) := by decide +kernel
theorem dX4_gather_78 : decode cX4_gather 78 = .ok (.putfield 201, 3) := by decide +kernel
theorem dX4_gather_81 : decode cX4_gather 81 = .ok (.iinc 4 1, 3) := by decide +kernel
theorem dX4_gather_84 : decode cX4_gather 84 = .ok (.goto (-66), 3) := by decide +kernel
theorem dX4_gather_87 : decode cX4_gather 87 = .ok (.iinc 3 1, 3) := by decide +kernel
theorem dX4_gather_90 : decode cX4_gather 90 = .ok (.goto (-83), 3) := by decide +kernel
theorem dX4_gather_93 : decode cX4_gather 93 = .ok (.return_, 1) := by decide +kernel
theorem dX4_different_0 : decode cX4_different 0 = .ok (.iconst 0, 1) := by decide +kernel
theorem dX4_different_1 : decode cX4_different 1 = .ok (.istore_n 1, 1) := by decide +kernel
theorem dX4_different_2 : decode cX4_different 2 = .ok (.iconst 0, 1) := by decide +kernel
theorem dX4_different_3 : decode cX4_different 3 = .ok (.istore_n 2, 1) := by decide +kernel
theorem dX4_different_4 : decode cX4_different 4 = .ok (.iload_n 2, 1) := by decide +kernel
theorem dX4_different_5 : decode cX4_different 5 = .ok (.aload_n 0, 1) := by decide +kernel
theorem dX4_different_6 : decode cX4_different 6 = .ok (.getfield 201, 3) := by decide +kernel
theorem dX4_different_9 : decode cX4_different 9 = .ok (.if_icmp .ge 74, 3) := by decide +kernel
theorem dX4_different_12 : decode cX4_different 12 = .ok (.iconst 1, 1) := by decide +kernel
theorem dX4_different_13 : decode cX4_different 13 = .ok (.istore_n 3, 1) := by decide +kernel
theorem dX4_different_14 : decode cX4_different 14 = .ok (.iconst 0, 1) := by decide +kernel
theorem dX4_different_15 : decode cX4_different 15 = .ok (.istore 4, 2) := by decide +kernel
theorem dX4_different_17 : decode cX4_different 17 = .ok (.iload 4, 2) := by decide +kernel
theorem dX4_different_19 : decode cX4_different 19 = .ok (.iload_n 2, 1) := by decide +kernel
theorem dX4_different_20 : decode cX4_different 20 = .ok (.if_icmp .ge 45, 3) := by decide +kernel
theorem dX4_different_23 : decode cX4_different 23 = .ok (.iload_n 3, 1) := by decide +kernel
theorem dX4_different_24 : decode cX4_different 24 = .ok (.ifCond .eq 33, 3) := by decide +kernel
theorem dX4_different_27 : decode cX4_different 27 = .ok (.aload_n 0, 1) := by decide +kernel
theorem dX4_different_28 : decode cX4_different 28 = .ok (.getfield 78, 3) := by decide +kernel
theorem dX4_different_31 : decode cX4_different 31 = .ok (.aload_n 0, 1) := by decide +kernel
theorem dX4_different_32 : decode cX4_different 32 = .ok (.getfield 105, 3) := by decide +kernel
theorem dX4_different_35 : decode cX4_different 35 = .ok (.iload 4, 2) := by decide +kernel
theorem dX4_different_37 : decode cX4_different 37 = .ok (.iaload, 1) := by decide +kernel
theorem dX4_different_38 : decode cX4_different 38 = .ok (.iaload, 1) := by decide +kernel
theorem dX4_different_39 : decode cX4_different 39 = .ok (.aload_n 0, 1) := by decide +kernel
theorem dX4_different_40 : decode cX4_different 40 = .ok (.getfield 78, 3) := by decide +kernel
theorem dX4_different_43 : decode cX4_different 43 = .ok (.aload_n 0, 1) := by decide +kernel
theorem dX4_different_44 : decode cX4_different 44 = .ok (.getfield 105, 3) := by decide +kernel
theorem dX4_different_47 : decode cX4_different 47 = .ok (.iload_n 2, 1) := by decide +kernel
theorem dX4_different_48 : decode cX4_different 48 = .ok (.iaload, 1) := by decide +kernel
theorem dX4_different_49 : decode cX4_different 49 = .ok (.iaload, 1) := by decide +kernel
theorem dX4_different_50 : decode cX4_different 50 = .ok (.if_icmp .eq 7, 3) := by decide +kernel
theorem dX4_different_53 : decode cX4_different 53 = .ok (.iconst 1, 1) := by decide +kernel
theorem dX4_different_54 : decode cX4_different 54 = .ok (.goto 4, 3) := by decide +kernel
theorem dX4_different_57 : decode cX4_different 57 = .ok (.iconst 0, 1) := by decide +kernel
theorem dX4_different_58 : decode cX4_different 58 = .ok (.istore_n 3, 1) := by decide +kernel
theorem dX4_different_59 : decode cX4_different 59 = .ok (.iinc 4 1, 3) := by decide +kernel
theorem dX4_different_62 : decode cX4_different 62 = .ok (.goto (-45), 3) := by decide +kernel
theorem dX4_different_65 : decode cX4_different 65 = .ok (.iload_n 1, 1) := by decide +kernel
theorem dX4_different_66 : decode cX4_different 66 = .ok (.iload_n 3, 1) := by decide +kernel
theorem dX4_different_67 : decode cX4_different 67 = .ok (.ifCond .eq 7, 3) := by decide +kernel
theorem dX4_different_70 : decode cX4_different 70 = .ok (.iconst 1, 1) := by decide +kernel
theorem dX4_different_71 : decode cX4_different 71 = .ok (.goto 4, 3) := by decide +kernel
theorem dX4_different_74 : decode cX4_different 74 = .ok (.iconst 0, 1) := by decide +kernel
theorem dX4_different_75 : decode cX4_different 75 = .ok (.iadd, 1) := by decide +kernel
theorem dX4_different_76 : decode cX4_different 76 = .ok (.istore_n 1, 1) := by decide +kernel
theorem dX4_different_77 : decode cX4_different 77 = .ok (.iinc 2 1, 3) := by decide +kernel
theorem dX4_different_80 : decode cX4_different 80 = .ok (.goto (-76), 3) := by decide +kernel
theorem dX4_different_83 : decode cX4_different 83 = .ok (.iload_n 1, 1) := by decide +kernel
theorem dX4_different_84 : decode cX4_different 84 = .ok (.ireturn, 1) := by decide +kernel
theorem dX4_answer_0 : decode cX4_answer 0 = .ok (.aload_n 0, 1) := by decide +kernel
theorem dX4_answer_1 : decode cX4_answer 1 = .ok (.iconst 0, 1) := by decide +kernel
theorem dX4_answer_2 : decode cX4_answer 2 = .ok (.putfield 112, 3) := by decide +kernel
theorem dX4_answer_5 : decode cX4_answer 5 = .ok (.aload_n 0, 1) := by decide +kernel
theorem dX4_answer_6 : decode cX4_answer 6 = .ok (.iload_n 1, 1) := by decide +kernel
theorem dX4_answer_7 : decode cX4_answer 7 = .ok (.invokevirtual 198, 3) := by decide +kernel
theorem dX4_answer_10 : decode cX4_answer 10 = .ok (.ifCond .eq 21, 3) := by decide +kernel
theorem dX4_answer_13 : decode cX4_answer 13 = .ok (.aload_n 0, 1) := by decide +kernel
theorem dX4_answer_14 : decode cX4_answer 14 = .ok (.getfield 87, 3) := by decide +kernel
theorem dX4_answer_17 : decode cX4_answer 17 = .ok (.iload_n 1, 1) := by decide +kernel
theorem dX4_answer_18 : decode cX4_answer 18 = .ok (.iaload, 1) := by decide +kernel
theorem dX4_answer_19 : decode cX4_answer 19 = .ok (.iconst (-1), 1) := by decide +kernel
theorem dX4_answer_20 : decode cX4_answer 20 = .ok (.if_icmp .eq 11, 3) := by decide +kernel
theorem dX4_answer_23 : decode cX4_answer 23 = .ok (.aload_n 0, 1) := by decide +kernel
theorem dX4_answer_24 : decode cX4_answer 24 = .ok (.iload_n 1, 1) := by decide +kernel
theorem dX4_answer_25 : decode cX4_answer 25 = .ok (.invokevirtual 159, 3) := by decide +kernel
theorem dX4_answer_28 : decode cX4_answer 28 = .ok (.ifCond .ne 5, 3) := by decide +kernel
theorem dX4_answer_31 : decode cX4_answer 31 = .ok (.lconst 0, 1) := by decide +kernel
theorem dX4_answer_32 : decode cX4_answer 32 = .ok (.lreturn, 1) := by decide +kernel
theorem dX4_answer_33 : decode cX4_answer 33 = .ok (.aload_n 0, 1) := by decide +kernel
theorem dX4_answer_34 : decode cX4_answer 34 = .ok (.getfield 75, 3) := by decide +kernel
theorem dX4_answer_37 : decode cX4_answer 37 = .ok (.iload_n 1, 1) := by decide +kernel
theorem dX4_answer_38 : decode cX4_answer 38 = .ok (.iaload, 1) := by decide +kernel
theorem dX4_answer_39 : decode cX4_answer 39 = .ok (.istore_n 2, 1) := by decide +kernel
theorem dX4_answer_40 : decode cX4_answer 40 = .ok (.aload_n 0, 1) := by decide +kernel
theorem dX4_answer_41 : decode cX4_answer 41 = .ok (.iload_n 1, 1) := by decide +kernel
theorem dX4_answer_42 : decode cX4_answer 42 = .ok (.iload_n 2, 1) := by decide +kernel
theorem dX4_answer_43 : decode cX4_answer 43 = .ok (.bipush 10, 2) := by decide +kernel
theorem dX4_answer_45 : decode cX4_answer 45 = .ok (.if_icmp .ne 7, 3) := by decide +kernel
theorem dX4_answer_48 : decode cX4_answer 48 = .ok (.iconst 0, 1) := by decide +kernel
theorem dX4_answer_49 : decode cX4_answer 49 = .ok (.goto 24, 3) := by decide +kernel
theorem dX4_answer_52 : decode cX4_answer 52 = .ok (.iload_n 2, 1) := by decide +kernel
theorem dX4_answer_53 : decode cX4_answer 53 = .ok (.bipush 11, 2) := by decide +kernel
theorem dX4_answer_55 : decode cX4_answer 55 = .ok (.if_icmp .ne 7, 3) := by decide +kernel
theorem dX4_answer_58 : decode cX4_answer 58 = .ok (.iconst 1, 1) := by decide +kernel
theorem dX4_answer_59 : decode cX4_answer 59 = .ok (.goto 14, 3) := by decide +kernel
theorem dX4_answer_62 : decode cX4_answer 62 = .ok (.iload_n 2, 1) := by decide +kernel
theorem dX4_answer_63 : decode cX4_answer 63 = .ok (.bipush 14, 2) := by decide +kernel
theorem dX4_answer_65 : decode cX4_answer 65 = .ok (.if_icmp .ge 7, 3) := by decide +kernel
theorem dX4_answer_68 : decode cX4_answer 68 = .ok (.iconst 2, 1) := by decide +kernel
theorem dX4_answer_69 : decode cX4_answer 69 = .ok (.goto 4, 3) := by decide +kernel
theorem dX4_answer_72 : decode cX4_answer 72 = .ok (.iconst 3, 1) := by decide +kernel
theorem dX4_answer_73 : decode cX4_answer 73 = .ok (.invokevirtual 204, 3) := by decide +kernel
theorem dX4_answer_76 : decode cX4_answer 76 = .ok (.iload_n 2, 1) := by decide +kernel
theorem dX4_answer_77 : decode cX4_answer 77 = .ok (.bipush 13, 2) := by decide +kernel
theorem dX4_answer_79 : decode cX4_answer 79 = .ok (.if_icmp .eq 9, 3) := by decide +kernel
theorem dX4_answer_82 : decode cX4_answer 82 = .ok (.iload_n 2, 1) := by decide +kernel
theorem dX4_answer_83 : decode cX4_answer 83 = .ok (.bipush 15, 2) := by decide +kernel
theorem dX4_answer_85 : decode cX4_answer 85 = .ok (.if_icmp .ne 9, 3) := by decide +kernel
theorem dX4_answer_88 : decode cX4_answer 88 = .ok (.aload_n 0, 1) := by decide +kernel
theorem dX4_answer_89 : decode cX4_answer 89 = .ok (.invokevirtual 208, 3) := by decide +kernel
theorem dX4_answer_92 : decode cX4_answer 92 = .ok (.i2l, 1) := by decide +kernel
theorem dX4_answer_93 : decode cX4_answer 93 = .ok (.lreturn, 1) := by decide +kernel
theorem dX4_answer_94 : decode cX4_answer 94 = .ok (.lconst 0, 1) := by decide +kernel
theorem dX4_answer_95 : decode cX4_answer 95 = .ok (.lstore_n 3, 1) := by decide +kernel
theorem dX4_answer_96 : decode cX4_answer 96 = .ok (.ldc2_w 214, 3) := by decide +kernel
theorem dX4_answer_99 : decode cX4_answer 99 = .ok (.lstore 5, 2) := by decide +kernel
theorem dX4_answer_101 : decode cX4_answer 101 = .ok (.iconst 0, 1) := by decide +kernel
theorem dX4_answer_102 : decode cX4_answer 102 = .ok (.istore 7, 2) := by decide +kernel
theorem dX4_answer_104 : decode cX4_answer 104 = .ok (.iconst 0, 1) := by decide +kernel
theorem dX4_answer_105 : decode cX4_answer 105 = .ok (.istore 8, 2) := by decide +kernel
theorem dX4_answer_107 : decode cX4_answer 107 = .ok (.iload 8, 2) := by decide +kernel
theorem dX4_answer_109 : decode cX4_answer 109 = .ok (.aload_n 0, 1) := by decide +kernel
theorem dX4_answer_110 : decode cX4_answer 110 = .ok (.getfield 201, 3) := by decide +kernel
theorem dX4_answer_113 : decode cX4_answer 113 = .ok (.if_icmp .ge 124, 3) := by decide +kernel
theorem dX4_answer_116 : decode cX4_answer 116 = .ok (.aload_n 0, 1) := by decide +kernel
theorem dX4_answer_117 : decode cX4_answer 117 = .ok (.getfield 105, 3) := by decide +kernel
theorem dX4_answer_120 : decode cX4_answer 120 = .ok (.iload 8, 2) := by decide +kernel
theorem dX4_answer_122 : decode cX4_answer 122 = .ok (.iaload, 1) := by decide +kernel
theorem dX4_answer_123 : decode cX4_answer 123 = .ok (.istore 9, 2) := by decide +kernel
theorem dX4_answer_125 : decode cX4_answer 125 = .ok (.aload_n 0, 1) := by decide +kernel
theorem dX4_answer_126 : decode cX4_answer 126 = .ok (.getfield 78, 3) := by decide +kernel
theorem dX4_answer_129 : decode cX4_answer 129 = .ok (.iload 9, 2) := by decide +kernel
theorem dX4_answer_131 : decode cX4_answer 131 = .ok (.iaload, 1) := by decide +kernel
theorem dX4_answer_132 : decode cX4_answer 132 = .ok (.aload_n 0, 1) := by decide +kernel
theorem dX4_answer_133 : decode cX4_answer 133 = .ok (.getfield 78, 3) := by decide +kernel
theorem dX4_answer_136 : decode cX4_answer 136 = .ok (.iload_n 1, 1) := by decide +kernel
theorem dX4_answer_137 : decode cX4_answer 137 = .ok (.iaload, 1) := by decide +kernel
theorem dX4_answer_138 : decode cX4_answer 138 = .ok (.if_icmp .ne 7, 3) := by decide +kernel
theorem dX4_answer_141 : decode cX4_answer 141 = .ok (.iconst 1, 1) := by decide +kernel
theorem dX4_answer_142 : decode cX4_answer 142 = .ok (.goto 4, 3) := by decide +kernel
theorem dX4_answer_145 : decode cX4_answer 145 = .ok (.iconst 0, 1) := by decide +kernel
theorem dX4_answer_146 : decode cX4_answer 146 = .ok (.istore 10, 2) := by decide +kernel
theorem dX4_answer_148 : decode cX4_answer 148 = .ok (.lload_n 3, 1) := by decide +kernel
theorem dX4_answer_149 : decode cX4_answer 149 = .ok (.aload_n 0, 1) := by decide +kernel
theorem dX4_answer_150 : decode cX4_answer 150 = .ok (.getfield 78, 3) := by decide +kernel
theorem dX4_answer_153 : decode cX4_answer 153 = .ok (.iload 9, 2) := by decide +kernel
theorem dX4_answer_155 : decode cX4_answer 155 = .ok (.iaload, 1) := by decide +kernel
theorem dX4_answer_156 : decode cX4_answer 156 = .ok (.i2l, 1) := by decide +kernel
theorem dX4_answer_157 : decode cX4_answer 157 = .ok (.ladd, 1) := by decide +kernel
theorem dX4_answer_158 : decode cX4_answer 158 = .ok (.lstore_n 3, 1) := by decide +kernel
theorem dX4_answer_159 : decode cX4_answer 159 = .ok (.iload 7, 2) := by decide +kernel
theorem dX4_answer_161 : decode cX4_answer 161 = .ok (.ifCond .ne 8, 3) := by decide +kernel
theorem dX4_answer_164 : decode cX4_answer 164 = .ok (.iload 10, 2) := by decide +kernel
theorem dX4_answer_166 : decode cX4_answer 166 = .ok (.ifCond .eq 7, 3) := by decide +kernel
theorem dX4_answer_169 : decode cX4_answer 169 = .ok (.iconst 1, 1) := by decide +kernel
theorem dX4_answer_170 : decode cX4_answer 170 = .ok (.goto 4, 3) := by decide +kernel
theorem dX4_answer_173 : decode cX4_answer 173 = .ok (.iconst 0, 1) := by decide +kernel
theorem dX4_answer_174 : decode cX4_answer 174 = .ok (.istore 7, 2) := by decide +kernel
theorem dX4_answer_176 : decode cX4_answer 176 = .ok (.iload_n 2, 1) := by decide +kernel
theorem dX4_answer_177 : decode cX4_answer 177 = .ok (.bipush 11, 2) := by decide +kernel
theorem dX4_answer_179 : decode cX4_answer 179 = .ok (.if_icmp .ne 14, 3) := by decide +kernel
theorem dX4_answer_182 : decode cX4_answer 182 = .ok (.aload_n 0, 1) := by decide +kernel
theorem dX4_answer_183 : decode cX4_answer 183 = .ok (.getfield 78, 3) := by decide +kernel
theorem dX4_answer_186 : decode cX4_answer 186 = .ok (.iload 9, 2) := by decide +kernel
theorem dX4_answer_188 : decode cX4_answer 188 = .ok (.iaload, 1) := by decide +kernel
theorem dX4_answer_189 : decode cX4_answer 189 = .ok (.i2l, 1) := by decide +kernel
theorem dX4_answer_190 : decode cX4_answer 190 = .ok (.goto 11, 3) := by decide +kernel
theorem dX4_answer_193 : decode cX4_answer 193 = .ok (.aload_n 0, 1) := by decide +kernel
theorem dX4_answer_194 : decode cX4_answer 194 = .ok (.getfield 81, 3) := by decide +kernel
theorem dX4_answer_197 : decode cX4_answer 197 = .ok (.iload 9, 2) := by decide +kernel
theorem dX4_answer_199 : decode cX4_answer 199 = .ok (.iaload, 1) := by decide +kernel
theorem dX4_answer_200 : decode cX4_answer 200 = .ok (.i2l, 1) := by decide +kernel
theorem dX4_answer_201 : decode cX4_answer 201 = .ok (.lstore 11, 2) := by decide +kernel
theorem dX4_answer_203 : decode cX4_answer 203 = .ok (.iload_n 2, 1) := by decide +kernel
theorem dX4_answer_204 : decode cX4_answer 204 = .ok (.bipush 11, 2) := by decide +kernel
theorem dX4_answer_206 : decode cX4_answer 206 = .ok (.if_icmp .eq 8, 3) := by decide +kernel
theorem dX4_answer_209 : decode cX4_answer 209 = .ok (.iload 10, 2) := by decide +kernel
theorem dX4_answer_211 : decode cX4_answer 211 = .ok (.ifCond .eq 16, 3) := by decide +kernel
theorem dX4_answer_214 : decode cX4_answer 214 = .ok (.lload 11, 2) := by decide +kernel
theorem dX4_answer_216 : decode cX4_answer 216 = .ok (.lload 5, 2) := by decide +kernel
theorem dX4_answer_218 : decode cX4_answer 218 = .ok (.lcmp, 1) := by decide +kernel
theorem dX4_answer_219 : decode cX4_answer 219 = .ok (.ifCond .le 8, 3) := by decide +kernel
theorem dX4_answer_222 : decode cX4_answer 222 = .ok (.lload 11, 2) := by decide +kernel
theorem dX4_answer_224 : decode cX4_answer 224 = .ok (.goto 5, 3) := by decide +kernel
theorem dX4_answer_227 : decode cX4_answer 227 = .ok (.lload 5, 2) := by decide +kernel
theorem dX4_answer_229 : decode cX4_answer 229 = .ok (.lstore 5, 2) := by decide +kernel
theorem dX4_answer_231 : decode cX4_answer 231 = .ok (.iinc 8 1, 3) := by decide +kernel
theorem dX4_answer_234 : decode cX4_answer 234 = .ok (.goto (-127), 3) := by decide +kernel
theorem dX4_answer_237 : decode cX4_answer 237 = .ok (.iload_n 2, 1) := by decide +kernel
theorem dX4_answer_238 : decode cX4_answer 238 = .ok (.bipush 10, 2) := by decide +kernel
theorem dX4_answer_240 : decode cX4_answer 240 = .ok (.if_icmp .ne 7, 3) := by decide +kernel
theorem dX4_answer_243 : decode cX4_answer 243 = .ok (.lload_n 3, 1) := by decide +kernel
theorem dX4_answer_244 : decode cX4_answer 244 = .ok (.goto 24, 3) := by decide +kernel
theorem dX4_answer_247 : decode cX4_answer 247 = .ok (.iload_n 2, 1) := by decide +kernel
theorem dX4_answer_248 : decode cX4_answer 248 = .ok (.bipush 12, 2) := by decide +kernel
theorem dX4_answer_250 : decode cX4_answer 250 = .ok (.if_icmp .ne 16, 3) := by decide +kernel
theorem dX4_answer_253 : decode cX4_answer 253 = .ok (.iload 7, 2) := by decide +kernel
theorem dX4_answer_255 : decode cX4_answer 255 = .ok (.ifCond .eq 7, 3) := by decide +kernel
theorem dX4_answer_258 : decode cX4_answer 258 = .ok (.lconst 1, 1) := by decide +kernel
theorem dX4_answer_259 : decode cX4_answer 259 = .ok (.goto 9, 3) := by decide +kernel
theorem dX4_answer_262 : decode cX4_answer 262 = .ok (.lconst 0, 1) := by decide +kernel
theorem dX4_answer_263 : decode cX4_answer 263 = .ok (.goto 5, 3) := by decide +kernel
theorem dX4_answer_266 : decode cX4_answer 266 = .ok (.lload 5, 2) := by decide +kernel
theorem dX4_answer_268 : decode cX4_answer 268 = .ok (.lreturn, 1) := by decide +kernel
theorem dX4_view_0 : decode cX4_view 0 = .ok (.aload_n 0, 1) := by decide +kernel
theorem dX4_view_1 : decode cX4_view 1 = .ok (.iconst 0, 1) := by decide +kernel
theorem dX4_view_2 : decode cX4_view 2 = .ok (.putfield 112, 3) := by decide +kernel
theorem dX4_view_5 : decode cX4_view 5 = .ok (.aload_n 0, 1) := by decide +kernel
theorem dX4_view_6 : decode cX4_view 6 = .ok (.iload_n 1, 1) := by decide +kernel
theorem dX4_view_7 : decode cX4_view 7 = .ok (.invokevirtual 198, 3) := by decide +kernel
theorem dX4_view_10 : decode cX4_view 10 = .ok (.ifCond .eq 34, 3) := by decide +kernel
theorem dX4_view_13 : decode cX4_view 13 = .ok (.aload_n 0, 1) := by decide +kernel
theorem dX4_view_14 : decode cX4_view 14 = .ok (.getfield 102, 3) := by decide +kernel
theorem dX4_view_17 : decode cX4_view 17 = .ok (.iload_n 1, 1) := by decide +kernel
theorem dX4_view_18 : decode cX4_view 18 = .ok (.baload, 1) := by decide +kernel
theorem dX4_view_19 : decode cX4_view 19 = .ok (.ifCond .eq 25, 3) := by decide +kernel
theorem dX4_view_22 : decode cX4_view 22 = .ok (.aload_n 0, 1) := by decide +kernel
theorem dX4_view_23 : decode cX4_view 23 = .ok (.iload_n 2, 1) := by decide +kernel
theorem dX4_view_24 : decode cX4_view 24 = .ok (.invokevirtual 143, 3) := by decide +kernel
theorem dX4_view_27 : decode cX4_view 27 = .ok (.ifCond .eq 17, 3) := by decide +kernel
theorem dX4_view_30 : decode cX4_view 30 = .ok (.aload_n 0, 1) := by decide +kernel
theorem dX4_view_31 : decode cX4_view 31 = .ok (.getfield 99, 3) := by decide +kernel
theorem dX4_view_34 : decode cX4_view 34 = .ok (.bipush 31, 2) := by decide +kernel
theorem dX4_view_36 : decode cX4_view 36 = .ok (.iload_n 1, 1) := by decide +kernel
theorem dX4_view_37 : decode cX4_view 37 = .ok (.imul, 1) := by decide +kernel
theorem dX4_view_38 : decode cX4_view 38 = .ok (.iload_n 2, 1) := by decide +kernel
theorem dX4_view_39 : decode cX4_view 39 = .ok (.iadd, 1) := by decide +kernel
theorem dX4_view_40 : decode cX4_view 40 = .ok (.iaload, 1) := by decide +kernel
theorem dX4_view_41 : decode cX4_view 41 = .ok (.goto 4, 3) := by decide +kernel
theorem dX4_view_44 : decode cX4_view 44 = .ok (.iconst (-1), 1) := by decide +kernel
theorem dX4_view_45 : decode cX4_view 45 = .ok (.ireturn, 1) := by decide +kernel
theorem dX4_node_0 : decode cX4_node 0 = .ok (.aload_n 0, 1) := by decide +kernel
theorem dX4_node_1 : decode cX4_node 1 = .ok (.iconst 0, 1) := by decide +kernel
theorem dX4_node_2 : decode cX4_node 2 = .ok (.putfield 112, 3) := by decide +kernel
theorem dX4_node_5 : decode cX4_node 5 = .ok (.aload_n 0, 1) := by decide +kernel
theorem dX4_node_6 : decode cX4_node 6 = .ok (.iload_n 1, 1) := by decide +kernel
theorem dX4_node_7 : decode cX4_node 7 = .ok (.invokevirtual 143, 3) := by decide +kernel
theorem dX4_node_10 : decode cX4_node 10 = .ok (.ifCond .ne 5, 3) := by decide +kernel
theorem dX4_node_13 : decode cX4_node 13 = .ok (.iconst (-1), 1) := by decide +kernel
theorem dX4_node_14 : decode cX4_node 14 = .ok (.ireturn, 1) := by decide +kernel
theorem dX4_node_15 : decode cX4_node 15 = .ok (.iload_n 2, 1) := by decide +kernel
theorem dX4_node_16 : decode cX4_node 16 = .ok (.tableswitch 103 0 5 #[40, 55, 62, 69, 76, 96], 40) := by decide +kernel
theorem dX4_node_56 : decode cX4_node 56 = .ok (.aload_n 0, 1) := by decide +kernel
theorem dX4_node_57 : decode cX4_node 57 = .ok (.getfield 33, 3) := by decide +kernel
theorem dX4_node_60 : decode cX4_node 60 = .ok (.iload_n 1, 1) := by decide +kernel
theorem dX4_node_61 : decode cX4_node 61 = .ok (.baload, 1) := by decide +kernel
theorem dX4_node_62 : decode cX4_node 62 = .ok (.ifCond .eq 7, 3) := by decide +kernel
theorem dX4_node_65 : decode cX4_node 65 = .ok (.iconst 0, 1) := by decide +kernel
theorem dX4_node_66 : decode cX4_node 66 = .ok (.goto 4, 3) := by decide +kernel
theorem dX4_node_69 : decode cX4_node 69 = .ok (.iconst 1, 1) := by decide +kernel
theorem dX4_node_70 : decode cX4_node 70 = .ok (.ireturn, 1) := by decide +kernel
theorem dX4_node_71 : decode cX4_node 71 = .ok (.aload_n 0, 1) := by decide +kernel
theorem dX4_node_72 : decode cX4_node 72 = .ok (.getfield 36, 3) := by decide +kernel
theorem dX4_node_75 : decode cX4_node 75 = .ok (.iload_n 1, 1) := by decide +kernel
theorem dX4_node_76 : decode cX4_node 76 = .ok (.iaload, 1) := by decide +kernel
theorem dX4_node_77 : decode cX4_node 77 = .ok (.ireturn, 1) := by decide +kernel
theorem dX4_node_78 : decode cX4_node 78 = .ok (.aload_n 0, 1) := by decide +kernel
theorem dX4_node_79 : decode cX4_node 79 = .ok (.getfield 39, 3) := by decide +kernel
theorem dX4_node_82 : decode cX4_node 82 = .ok (.iload_n 1, 1) := by decide +kernel
theorem dX4_node_83 : decode cX4_node 83 = .ok (.iaload, 1) := by decide +kernel
theorem dX4_node_84 : decode cX4_node 84 = .ok (.ireturn, 1) := by decide +kernel
theorem dX4_node_85 : decode cX4_node 85 = .ok (.aload_n 0, 1) := by decide +kernel
theorem dX4_node_86 : decode cX4_node 86 = .ok (.getfield 42, 3) := by decide +kernel
theorem dX4_node_89 : decode cX4_node 89 = .ok (.iload_n 1, 1) := by decide +kernel
theorem dX4_node_90 : decode cX4_node 90 = .ok (.iaload, 1) := by decide +kernel
theorem dX4_node_91 : decode cX4_node 91 = .ok (.ireturn, 1) := by decide +kernel
theorem dX4_node_92 : decode cX4_node 92 = .ok (.aload_n 0, 1) := by decide +kernel
theorem dX4_node_93 : decode cX4_node 93 = .ok (.getfield 36, 3) := by decide +kernel
theorem dX4_node_96 : decode cX4_node 96 = .ok (.iload_n 1, 1) := by decide +kernel
theorem dX4_node_97 : decode cX4_node 97 = .ok (.iaload, 1) := by decide +kernel
theorem dX4_node_98 : decode cX4_node 98 = .ok (.ifCond .ne 7, 3) := by decide +kernel
theorem dX4_node_101 : decode cX4_node 101 = .ok (.iconst 0, 1) := by decide +kernel
theorem dX4_node_102 : decode cX4_node 102 = .ok (.goto 9, 3) := by decide +kernel
theorem dX4_node_105 : decode cX4_node 105 = .ok (.aload_n 0, 1) := by decide +kernel
theorem dX4_node_106 : decode cX4_node 106 = .ok (.getfield 45, 3) := by decide +kernel
theorem dX4_node_109 : decode cX4_node 109 = .ok (.iload_n 1, 1) := by decide +kernel
theorem dX4_node_110 : decode cX4_node 110 = .ok (.iaload, 1) := by decide +kernel
theorem dX4_node_111 : decode cX4_node 111 = .ok (.ireturn, 1) := by decide +kernel
theorem dX4_node_112 : decode cX4_node 112 = .ok (.aload_n 0, 1) := by decide +kernel
theorem dX4_node_113 : decode cX4_node 113 = .ok (.getfield 51, 3) := by decide +kernel
theorem dX4_node_116 : decode cX4_node 116 = .ok (.iload_n 1, 1) := by decide +kernel
theorem dX4_node_117 : decode cX4_node 117 = .ok (.iaload, 1) := by decide +kernel
theorem dX4_node_118 : decode cX4_node 118 = .ok (.ireturn, 1) := by decide +kernel
theorem dX4_node_119 : decode cX4_node 119 = .ok (.iconst (-1), 1) := by decide +kernel
theorem dX4_node_120 : decode cX4_node 120 = .ok (.ireturn, 1) := by decide +kernel
theorem dX4_kept_0 : decode cX4_kept 0 = .ok (.aload_n 0, 1) := by decide +kernel
theorem dX4_kept_1 : decode cX4_kept 1 = .ok (.iconst 0, 1) := by decide +kernel
theorem dX4_kept_2 : decode cX4_kept 2 = .ok (.putfield 112, 3) := by decide +kernel
theorem dX4_kept_5 : decode cX4_kept 5 = .ok (.aload_n 0, 1) := by decide +kernel
theorem dX4_kept_6 : decode cX4_kept 6 = .ok (.iload_n 1, 1) := by decide +kernel
theorem dX4_kept_7 : decode cX4_kept 7 = .ok (.invokevirtual 143, 3) := by decide +kernel
theorem dX4_kept_10 : decode cX4_kept 10 = .ok (.ifCond .eq 25, 3) := by decide +kernel
theorem dX4_kept_13 : decode cX4_kept 13 = .ok (.aload_n 0, 1) := by decide +kernel
theorem dX4_kept_14 : decode cX4_kept 14 = .ok (.iload_n 2, 1) := by decide +kernel
theorem dX4_kept_15 : decode cX4_kept 15 = .ok (.invokevirtual 143, 3) := by decide +kernel
theorem dX4_kept_18 : decode cX4_kept 18 = .ok (.ifCond .eq 17, 3) := by decide +kernel
theorem dX4_kept_21 : decode cX4_kept 21 = .ok (.aload_n 0, 1) := by decide +kernel
theorem dX4_kept_22 : decode cX4_kept 22 = .ok (.getfield 48, 3) := by decide +kernel
theorem dX4_kept_25 : decode cX4_kept 25 = .ok (.bipush 31, 2) := by decide +kernel
theorem dX4_kept_27 : decode cX4_kept 27 = .ok (.iload_n 1, 1) := by decide +kernel
theorem dX4_kept_28 : decode cX4_kept 28 = .ok (.imul, 1) := by decide +kernel
theorem dX4_kept_29 : decode cX4_kept 29 = .ok (.iload_n 2, 1) := by decide +kernel
theorem dX4_kept_30 : decode cX4_kept 30 = .ok (.iadd, 1) := by decide +kernel
theorem dX4_kept_31 : decode cX4_kept 31 = .ok (.iaload, 1) := by decide +kernel
theorem dX4_kept_32 : decode cX4_kept 32 = .ok (.goto 4, 3) := by decide +kernel
theorem dX4_kept_35 : decode cX4_kept 35 = .ok (.iconst (-1), 1) := by decide +kernel
theorem dX4_kept_36 : decode cX4_kept 36 = .ok (.ireturn, 1) := by decide +kernel
theorem dX4_message_0 : decode cX4_message 0 = .ok (.aload_n 0, 1) := by decide +kernel
theorem dX4_message_1 : decode cX4_message 1 = .ok (.iconst 0, 1) := by decide +kernel
theorem dX4_message_2 : decode cX4_message 2 = .ok (.putfield 112, 3) := by decide +kernel
theorem dX4_message_5 : decode cX4_message 5 = .ok (.iload_n 1, 1) := by decide +kernel
theorem dX4_message_6 : decode cX4_message 6 = .ok (.ifCond .lt 11, 3) := by decide +kernel
theorem dX4_message_9 : decode cX4_message 9 = .ok (.iload_n 1, 1) := by decide +kernel
theorem dX4_message_10 : decode cX4_message 10 = .ok (.aload_n 0, 1) := by decide +kernel
theorem dX4_message_11 : decode cX4_message 11 = .ok (.getfield 115, 3) := by decide +kernel
theorem dX4_message_14 : decode cX4_message 14 = .ok (.if_icmp .lt 5, 3) := by decide +kernel
theorem dX4_message_17 : decode cX4_message 17 = .ok (.iconst (-1), 1) := by decide +kernel
theorem dX4_message_18 : decode cX4_message 18 = .ok (.ireturn, 1) := by decide +kernel
theorem dX4_message_19 : decode cX4_message 19 = .ok (.aload_n 0, 1) := by decide +kernel
theorem dX4_message_20 : decode cX4_message 20 = .ok (.getfield 30, 3) := by decide +kernel
theorem dX4_message_23 : decode cX4_message 23 = .ok (.iload_n 1, 1) := by decide +kernel
theorem dX4_message_24 : decode cX4_message 24 = .ok (.iaload, 1) := by decide +kernel
theorem dX4_message_25 : decode cX4_message 25 = .ok (.istore_n 3, 1) := by decide +kernel
theorem dX4_message_26 : decode cX4_message 26 = .ok (.iload_n 2, 1) := by decide +kernel
theorem dX4_message_27 : decode cX4_message 27 = .ok (.ifCond .ne 12, 3) := by decide +kernel
theorem dX4_message_30 : decode cX4_message 30 = .ok (.aload_n 0, 1) := by decide +kernel
theorem dX4_message_31 : decode cX4_message 31 = .ok (.getfield 7, 3) := by decide +kernel
theorem dX4_message_34 : decode cX4_message 34 = .ok (.iload_n 3, 1) := by decide +kernel
theorem dX4_message_35 : decode cX4_message 35 = .ok (.iaload, 1) := by decide +kernel
theorem dX4_message_36 : decode cX4_message 36 = .ok (.goto 46, 3) := by decide +kernel
theorem dX4_message_39 : decode cX4_message 39 = .ok (.iload_n 2, 1) := by decide +kernel
theorem dX4_message_40 : decode cX4_message 40 = .ok (.iconst 1, 1) := by decide +kernel
theorem dX4_message_41 : decode cX4_message 41 = .ok (.if_icmp .ne 12, 3) := by decide +kernel
theorem dX4_message_44 : decode cX4_message 44 = .ok (.aload_n 0, 1) := by decide +kernel
theorem dX4_message_45 : decode cX4_message 45 = .ok (.getfield 13, 3) := by decide +kernel
theorem dX4_message_48 : decode cX4_message 48 = .ok (.iload_n 3, 1) := by decide +kernel
theorem dX4_message_49 : decode cX4_message 49 = .ok (.iaload, 1) := by decide +kernel
theorem dX4_message_50 : decode cX4_message 50 = .ok (.goto 32, 3) := by decide +kernel
theorem dX4_message_53 : decode cX4_message 53 = .ok (.iload_n 2, 1) := by decide +kernel
theorem dX4_message_54 : decode cX4_message 54 = .ok (.iconst 2, 1) := by decide +kernel
theorem dX4_message_55 : decode cX4_message 55 = .ok (.if_icmp .ne 12, 3) := by decide +kernel
theorem dX4_message_58 : decode cX4_message 58 = .ok (.aload_n 0, 1) := by decide +kernel
theorem dX4_message_59 : decode cX4_message 59 = .ok (.getfield 16, 3) := by decide +kernel
theorem dX4_message_62 : decode cX4_message 62 = .ok (.iload_n 3, 1) := by decide +kernel
theorem dX4_message_63 : decode cX4_message 63 = .ok (.iaload, 1) := by decide +kernel
theorem dX4_message_64 : decode cX4_message 64 = .ok (.goto 18, 3) := by decide +kernel
theorem dX4_message_67 : decode cX4_message 67 = .ok (.iload_n 2, 1) := by decide +kernel
theorem dX4_message_68 : decode cX4_message 68 = .ok (.iconst 3, 1) := by decide +kernel
theorem dX4_message_69 : decode cX4_message 69 = .ok (.if_icmp .ne 12, 3) := by decide +kernel
theorem dX4_message_72 : decode cX4_message 72 = .ok (.aload_n 0, 1) := by decide +kernel
theorem dX4_message_73 : decode cX4_message 73 = .ok (.getfield 19, 3) := by decide +kernel
theorem dX4_message_76 : decode cX4_message 76 = .ok (.iload_n 3, 1) := by decide +kernel
theorem dX4_message_77 : decode cX4_message 77 = .ok (.iaload, 1) := by decide +kernel
theorem dX4_message_78 : decode cX4_message 78 = .ok (.goto 4, 3) := by decide +kernel
theorem dX4_message_81 : decode cX4_message 81 = .ok (.iconst (-1), 1) := by decide +kernel
theorem dX4_message_82 : decode cX4_message 82 = .ok (.ireturn, 1) := by decide +kernel
theorem dX4_vector_0 : decode cX4_vector 0 = .ok (.aload_n 0, 1) := by decide +kernel
theorem dX4_vector_1 : decode cX4_vector 1 = .ok (.iconst 0, 1) := by decide +kernel
theorem dX4_vector_2 : decode cX4_vector 2 = .ok (.putfield 112, 3) := by decide +kernel
theorem dX4_vector_5 : decode cX4_vector 5 = .ok (.iload_n 1, 1) := by decide +kernel
theorem dX4_vector_6 : decode cX4_vector 6 = .ok (.ifCond .lt 19, 3) := by decide +kernel
theorem dX4_vector_9 : decode cX4_vector 9 = .ok (.iload_n 1, 1) := by decide +kernel
theorem dX4_vector_10 : decode cX4_vector 10 = .ok (.aload_n 0, 1) := by decide +kernel
theorem dX4_vector_11 : decode cX4_vector 11 = .ok (.getfield 115, 3) := by decide +kernel
theorem dX4_vector_14 : decode cX4_vector 14 = .ok (.if_icmp .ge 11, 3) := by decide +kernel
theorem dX4_vector_17 : decode cX4_vector 17 = .ok (.aload_n 0, 1) := by decide +kernel
theorem dX4_vector_18 : decode cX4_vector 18 = .ok (.iload_n 2, 1) := by decide +kernel
theorem dX4_vector_19 : decode cX4_vector 19 = .ok (.invokevirtual 143, 3) := by decide +kernel
theorem dX4_vector_22 : decode cX4_vector 22 = .ok (.ifCond .ne 5, 3) := by decide +kernel
theorem dX4_vector_25 : decode cX4_vector 25 = .ok (.iconst (-1), 1) := by decide +kernel
theorem dX4_vector_26 : decode cX4_vector 26 = .ok (.ireturn, 1) := by decide +kernel
theorem dX4_vector_27 : decode cX4_vector 27 = .ok (.aload_n 0, 1) := by decide +kernel
theorem dX4_vector_28 : decode cX4_vector 28 = .ok (.getfield 30, 3) := by decide +kernel
theorem dX4_vector_31 : decode cX4_vector 31 = .ok (.iload_n 1, 1) := by decide +kernel
theorem dX4_vector_32 : decode cX4_vector 32 = .ok (.iaload, 1) := by decide +kernel
theorem dX4_vector_33 : decode cX4_vector 33 = .ok (.istore_n 3, 1) := by decide +kernel
theorem dX4_vector_34 : decode cX4_vector 34 = .ok (.aload_n 0, 1) := by decide +kernel
theorem dX4_vector_35 : decode cX4_vector 35 = .ok (.getfield 7, 3) := by decide +kernel
theorem dX4_vector_38 : decode cX4_vector 38 = .ok (.iload_n 3, 1) := by decide +kernel
theorem dX4_vector_39 : decode cX4_vector 39 = .ok (.iaload, 1) := by decide +kernel
theorem dX4_vector_40 : decode cX4_vector 40 = .ok (.iconst 1, 1) := by decide +kernel
theorem dX4_vector_41 : decode cX4_vector 41 = .ok (.if_icmp .eq 13, 3) := by decide +kernel
theorem dX4_vector_44 : decode cX4_vector 44 = .ok (.aload_n 0, 1) := by decide +kernel
theorem dX4_vector_45 : decode cX4_vector 45 = .ok (.getfield 7, 3) := by decide +kernel
theorem dX4_vector_48 : decode cX4_vector 48 = .ok (.iload_n 3, 1) := by decide +kernel
theorem dX4_vector_49 : decode cX4_vector 49 = .ok (.iaload, 1) := by decide +kernel
theorem dX4_vector_50 : decode cX4_vector 50 = .ok (.iconst 2, 1) := by decide +kernel
theorem dX4_vector_51 : decode cX4_vector 51 = .ok (.if_icmp .ne 17, 3) := by decide +kernel
theorem dX4_vector_54 : decode cX4_vector 54 = .ok (.aload_n 0, 1) := by decide +kernel
theorem dX4_vector_55 : decode cX4_vector 55 = .ok (.getfield 23, 3) := by decide +kernel
theorem dX4_vector_58 : decode cX4_vector 58 = .ok (.bipush 31, 2) := by decide +kernel
theorem dX4_vector_60 : decode cX4_vector 60 = .ok (.iload_n 3, 1) := by decide +kernel
theorem dX4_vector_61 : decode cX4_vector 61 = .ok (.imul, 1) := by decide +kernel
theorem dX4_vector_62 : decode cX4_vector 62 = .ok (.iload_n 2, 1) := by decide +kernel
theorem dX4_vector_63 : decode cX4_vector 63 = .ok (.iadd, 1) := by decide +kernel
theorem dX4_vector_64 : decode cX4_vector 64 = .ok (.iaload, 1) := by decide +kernel
theorem dX4_vector_65 : decode cX4_vector 65 = .ok (.goto 4, 3) := by decide +kernel
theorem dX4_vector_68 : decode cX4_vector 68 = .ok (.iconst (-1), 1) := by decide +kernel
theorem dX4_vector_69 : decode cX4_vector 69 = .ok (.ireturn, 1) := by decide +kernel
theorem dX4_count_0 : decode cX4_count 0 = .ok (.aload_n 0, 1) := by decide +kernel
theorem dX4_count_1 : decode cX4_count 1 = .ok (.iconst 0, 1) := by decide +kernel
theorem dX4_count_2 : decode cX4_count 2 = .ok (.putfield 112, 3) := by decide +kernel
theorem dX4_count_5 : decode cX4_count 5 = .ok (.iconst 0, 1) := by decide +kernel
theorem dX4_count_6 : decode cX4_count 6 = .ok (.istore_n 2, 1) := by decide +kernel
theorem dX4_count_7 : decode cX4_count 7 = .ok (.iconst 0, 1) := by decide +kernel
theorem dX4_count_8 : decode cX4_count 8 = .ok (.istore_n 3, 1) := by decide +kernel
theorem dX4_count_9 : decode cX4_count 9 = .ok (.iload_n 3, 1) := by decide +kernel
theorem dX4_count_10 : decode cX4_count 10 = .ok (.aload_n 0, 1) := by decide +kernel
theorem dX4_count_11 : decode cX4_count 11 = .ok (.getfield 108, 3) := by decide +kernel
theorem dX4_count_14 : decode cX4_count 14 = .ok (.if_icmp .ge 26, 3) := by decide +kernel
theorem dX4_count_17 : decode cX4_count 17 = .ok (.iload_n 2, 1) := by decide +kernel
theorem dX4_count_18 : decode cX4_count 18 = .ok (.aload_n 0, 1) := by decide +kernel
theorem dX4_count_19 : decode cX4_count 19 = .ok (.getfield 33, 3) := by decide +kernel
theorem dX4_count_22 : decode cX4_count 22 = .ok (.iload_n 3, 1) := by decide +kernel
theorem dX4_count_23 : decode cX4_count 23 = .ok (.baload, 1) := by decide +kernel
theorem dX4_count_24 : decode cX4_count 24 = .ok (.ifCond .eq 7, 3) := by decide +kernel
theorem dX4_count_27 : decode cX4_count 27 = .ok (.iconst 0, 1) := by decide +kernel
theorem dX4_count_28 : decode cX4_count 28 = .ok (.goto 4, 3) := by decide +kernel
theorem dX4_count_31 : decode cX4_count 31 = .ok (.iconst 1, 1) := by decide +kernel
theorem dX4_count_32 : decode cX4_count 32 = .ok (.iadd, 1) := by decide +kernel
theorem dX4_count_33 : decode cX4_count 33 = .ok (.istore_n 2, 1) := by decide +kernel
theorem dX4_count_34 : decode cX4_count 34 = .ok (.iinc 3 1, 3) := by decide +kernel
theorem dX4_count_37 : decode cX4_count 37 = .ok (.goto (-28), 3) := by decide +kernel
theorem dX4_count_40 : decode cX4_count 40 = .ok (.iconst 0, 1) := by decide +kernel
theorem dX4_count_41 : decode cX4_count 41 = .ok (.istore_n 3, 1) := by decide +kernel
theorem dX4_count_42 : decode cX4_count 42 = .ok (.iconst 0, 1) := by decide +kernel
theorem dX4_count_43 : decode cX4_count 43 = .ok (.istore 4, 2) := by decide +kernel
theorem dX4_count_45 : decode cX4_count 45 = .ok (.iconst 1, 1) := by decide +kernel
theorem dX4_count_46 : decode cX4_count 46 = .ok (.istore 5, 2) := by decide +kernel
theorem dX4_count_48 : decode cX4_count 48 = .ok (.iload 5, 2) := by decide +kernel
theorem dX4_count_50 : decode cX4_count 50 = .ok (.aload_n 0, 1) := by decide +kernel
theorem dX4_count_51 : decode cX4_count 51 = .ok (.getfield 129, 3) := by decide +kernel
theorem dX4_count_54 : decode cX4_count 54 = .ok (.if_icmp .gt 42, 3) := by decide +kernel
theorem dX4_count_57 : decode cX4_count 57 = .ok (.iload_n 3, 1) := by decide +kernel
theorem dX4_count_58 : decode cX4_count 58 = .ok (.aload_n 0, 1) := by decide +kernel
theorem dX4_count_59 : decode cX4_count 59 = .ok (.getfield 87, 3) := by decide +kernel
theorem dX4_count_62 : decode cX4_count 62 = .ok (.iload 5, 2) := by decide +kernel
theorem dX4_count_64 : decode cX4_count 64 = .ok (.iaload, 1) := by decide +kernel
theorem dX4_count_65 : decode cX4_count 65 = .ok (.iconst (-1), 1) := by decide +kernel
theorem dX4_count_66 : decode cX4_count 66 = .ok (.if_icmp .ne 7, 3) := by decide +kernel
theorem dX4_count_69 : decode cX4_count 69 = .ok (.iconst 0, 1) := by decide +kernel
theorem dX4_count_70 : decode cX4_count 70 = .ok (.goto 4, 3) := by decide +kernel
theorem dX4_count_73 : decode cX4_count 73 = .ok (.iconst 1, 1) := by decide +kernel
theorem dX4_count_74 : decode cX4_count 74 = .ok (.iadd, 1) := by decide +kernel
theorem dX4_count_75 : decode cX4_count 75 = .ok (.istore_n 3, 1) := by decide +kernel
theorem dX4_count_76 : decode cX4_count 76 = .ok (.iload 4, 2) := by decide +kernel
theorem dX4_count_78 : decode cX4_count 78 = .ok (.aload_n 0, 1) := by decide +kernel
theorem dX4_count_79 : decode cX4_count 79 = .ok (.getfield 90, 3) := by decide +kernel
theorem dX4_count_82 : decode cX4_count 82 = .ok (.iload 5, 2) := by decide +kernel
theorem dX4_count_84 : decode cX4_count 84 = .ok (.iaload, 1) := by decide +kernel
theorem dX4_count_85 : decode cX4_count 85 = .ok (.invokestatic 174, 3) := by decide +kernel
theorem dX4_count_88 : decode cX4_count 88 = .ok (.istore 4, 2) := by decide +kernel
theorem dX4_count_90 : decode cX4_count 90 = .ok (.iinc 5 1, 3) := by decide +kernel
theorem dX4_count_93 : decode cX4_count 93 = .ok (.goto (-45), 3) := by decide +kernel
theorem dX4_count_96 : decode cX4_count 96 = .ok (.iload_n 1, 1) := by decide +kernel
theorem dX4_count_97 : decode cX4_count 97 = .ok (.tableswitch 97 0 9 #[55, 60, 62, 67, 72, 77, 82, 84, 89, 94], 55) := by decide +kernel
theorem dX4_count_152 : decode cX4_count 152 = .ok (.aload_n 0, 1) := by decide +kernel
theorem dX4_count_153 : decode cX4_count 153 = .ok (.getfield 108, 3) := by decide +kernel
theorem dX4_count_156 : decode cX4_count 156 = .ok (.ireturn, 1) := by decide +kernel
theorem dX4_count_157 : decode cX4_count 157 = .ok (.iload_n 2, 1) := by decide +kernel
theorem dX4_count_158 : decode cX4_count 158 = .ok (.ireturn, 1) := by decide +kernel
theorem dX4_count_159 : decode cX4_count 159 = .ok (.aload_n 0, 1) := by decide +kernel
theorem dX4_count_160 : decode cX4_count 160 = .ok (.getfield 115, 3) := by decide +kernel
theorem dX4_count_163 : decode cX4_count 163 = .ok (.ireturn, 1) := by decide +kernel
theorem dX4_count_164 : decode cX4_count 164 = .ok (.aload_n 0, 1) := by decide +kernel
theorem dX4_count_165 : decode cX4_count 165 = .ok (.getfield 118, 3) := by decide +kernel
theorem dX4_count_168 : decode cX4_count 168 = .ok (.ireturn, 1) := by decide +kernel
theorem dX4_count_169 : decode cX4_count 169 = .ok (.aload_n 0, 1) := by decide +kernel
theorem dX4_count_170 : decode cX4_count 170 = .ok (.getfield 186, 3) := by decide +kernel
theorem dX4_count_173 : decode cX4_count 173 = .ok (.ireturn, 1) := by decide +kernel
theorem dX4_count_174 : decode cX4_count 174 = .ok (.aload_n 0, 1) := by decide +kernel
theorem dX4_count_175 : decode cX4_count 175 = .ok (.getfield 129, 3) := by decide +kernel
theorem dX4_count_178 : decode cX4_count 178 = .ok (.ireturn, 1) := by decide +kernel
theorem dX4_count_179 : decode cX4_count 179 = .ok (.iload_n 3, 1) := by decide +kernel
theorem dX4_count_180 : decode cX4_count 180 = .ok (.ireturn, 1) := by decide +kernel
theorem dX4_count_181 : decode cX4_count 181 = .ok (.aload_n 0, 1) := by decide +kernel
theorem dX4_count_182 : decode cX4_count 182 = .ok (.getfield 136, 3) := by decide +kernel
theorem dX4_count_185 : decode cX4_count 185 = .ok (.ireturn, 1) := by decide +kernel
theorem dX4_count_186 : decode cX4_count 186 = .ok (.aload_n 0, 1) := by decide +kernel
theorem dX4_count_187 : decode cX4_count 187 = .ok (.getfield 156, 3) := by decide +kernel
theorem dX4_count_190 : decode cX4_count 190 = .ok (.ireturn, 1) := by decide +kernel
theorem dX4_count_191 : decode cX4_count 191 = .ok (.iload 4, 2) := by decide +kernel
theorem dX4_count_193 : decode cX4_count 193 = .ok (.ireturn, 1) := by decide +kernel
theorem dX4_count_194 : decode cX4_count 194 = .ok (.iconst (-1), 1) := by decide +kernel
theorem dX4_count_195 : decode cX4_count 195 = .ok (.ireturn, 1) := by decide +kernel
theorem dX4_isWithin_0 : decode cX4_isWithin 0 = .ok (.iconst 0, 1) := by decide +kernel
theorem dX4_isWithin_1 : decode cX4_isWithin 1 = .ok (.istore_n 3, 1) := by decide +kernel
theorem dX4_isWithin_2 : decode cX4_isWithin 2 = .ok (.iload_n 3, 1) := by decide +kernel
theorem dX4_isWithin_3 : decode cX4_isWithin 3 = .ok (.aload_n 0, 1) := by decide +kernel
theorem dX4_isWithin_4 : decode cX4_isWithin 4 = .ok (.getfield 108, 3) := by decide +kernel
theorem dX4_isWithin_7 : decode cX4_isWithin 7 = .ok (.if_icmp .ge 36, 3) := by decide +kernel
theorem dX4_isWithin_10 : decode cX4_isWithin 10 = .ok (.aload_n 0, 1) := by decide +kernel
theorem dX4_isWithin_11 : decode cX4_isWithin 11 = .ok (.getfield 99, 3) := by decide +kernel
theorem dX4_isWithin_14 : decode cX4_isWithin 14 = .ok (.bipush 31, 2) := by decide +kernel
theorem dX4_isWithin_16 : decode cX4_isWithin 16 = .ok (.iload_n 1, 1) := by decide +kernel
theorem dX4_isWithin_17 : decode cX4_isWithin 17 = .ok (.imul, 1) := by decide +kernel
theorem dX4_isWithin_18 : decode cX4_isWithin 18 = .ok (.iload_n 3, 1) := by decide +kernel
theorem dX4_isWithin_19 : decode cX4_isWithin 19 = .ok (.iadd, 1) := by decide +kernel
theorem dX4_isWithin_20 : decode cX4_isWithin 20 = .ok (.iaload, 1) := by decide +kernel
theorem dX4_isWithin_21 : decode cX4_isWithin 21 = .ok (.aload_n 0, 1) := by decide +kernel
theorem dX4_isWithin_22 : decode cX4_isWithin 22 = .ok (.getfield 99, 3) := by decide +kernel
theorem dX4_isWithin_25 : decode cX4_isWithin 25 = .ok (.bipush 31, 2) := by decide +kernel
theorem dX4_isWithin_27 : decode cX4_isWithin 27 = .ok (.iload_n 2, 1) := by decide +kernel
theorem dX4_isWithin_28 : decode cX4_isWithin 28 = .ok (.imul, 1) := by decide +kernel
theorem dX4_isWithin_29 : decode cX4_isWithin 29 = .ok (.iload_n 3, 1) := by decide +kernel
theorem dX4_isWithin_30 : decode cX4_isWithin 30 = .ok (.iadd, 1) := by decide +kernel
theorem dX4_isWithin_31 : decode cX4_isWithin 31 = .ok (.iaload, 1) := by decide +kernel
theorem dX4_isWithin_32 : decode cX4_isWithin 32 = .ok (.if_icmp .le 5, 3) := by decide +kernel
theorem dX4_isWithin_35 : decode cX4_isWithin 35 = .ok (.iconst 0, 1) := by decide +kernel
theorem dX4_isWithin_36 : decode cX4_isWithin 36 = .ok (.ireturn, 1) := by decide +kernel
theorem dX4_isWithin_37 : decode cX4_isWithin 37 = .ok (.iinc 3 1, 3) := by decide +kernel
theorem dX4_isWithin_40 : decode cX4_isWithin 40 = .ok (.goto (-38), 3) := by decide +kernel
theorem dX4_isWithin_43 : decode cX4_isWithin 43 = .ok (.iconst 1, 1) := by decide +kernel
theorem dX4_isWithin_44 : decode cX4_isWithin 44 = .ok (.ireturn, 1) := by decide +kernel
theorem dX4_isLate_0 : decode cX4_isLate 0 = .ok (.iconst 0, 1) := by decide +kernel
theorem dX4_isLate_1 : decode cX4_isLate 1 = .ok (.istore_n 2, 1) := by decide +kernel
theorem dX4_isLate_2 : decode cX4_isLate 2 = .ok (.iload_n 2, 1) := by decide +kernel
theorem dX4_isLate_3 : decode cX4_isLate 3 = .ok (.aload_n 0, 1) := by decide +kernel
theorem dX4_isLate_4 : decode cX4_isLate 4 = .ok (.getfield 108, 3) := by decide +kernel
theorem dX4_isLate_7 : decode cX4_isLate 7 = .ok (.if_icmp .ge 60, 3) := by decide +kernel
theorem dX4_isLate_10 : decode cX4_isLate 10 = .ok (.iconst 0, 1) := by decide +kernel
theorem dX4_isLate_11 : decode cX4_isLate 11 = .ok (.istore_n 3, 1) := by decide +kernel
theorem dX4_isLate_12 : decode cX4_isLate 12 = .ok (.iload_n 3, 1) := by decide +kernel
theorem dX4_isLate_13 : decode cX4_isLate 13 = .ok (.aload_n 0, 1) := by decide +kernel
theorem dX4_isLate_14 : decode cX4_isLate 14 = .ok (.getfield 99, 3) := by decide +kernel
theorem dX4_isLate_17 : decode cX4_isLate 17 = .ok (.bipush 31, 2) := by decide +kernel
theorem dX4_isLate_19 : decode cX4_isLate 19 = .ok (.iload_n 1, 1) := by decide +kernel
theorem dX4_isLate_20 : decode cX4_isLate 20 = .ok (.imul, 1) := by decide +kernel
theorem dX4_isLate_21 : decode cX4_isLate 21 = .ok (.iload_n 2, 1) := by decide +kernel
theorem dX4_isLate_22 : decode cX4_isLate 22 = .ok (.iadd, 1) := by decide +kernel
theorem dX4_isLate_23 : decode cX4_isLate 23 = .ok (.iaload, 1) := by decide +kernel
theorem dX4_isLate_24 : decode cX4_isLate 24 = .ok (.if_icmp .ge 37, 3) := by decide +kernel
theorem dX4_isLate_27 : decode cX4_isLate 27 = .ok (.aload_n 0, 1) := by decide +kernel
theorem dX4_isLate_28 : decode cX4_isLate 28 = .ok (.getfield 84, 3) := by decide +kernel
theorem dX4_isLate_31 : decode cX4_isLate 31 = .ok (.aload_n 0, 1) := by decide +kernel
theorem dX4_isLate_32 : decode cX4_isLate 32 = .ok (.getfield 54, 3) := by decide +kernel
theorem dX4_isLate_35 : decode cX4_isLate 35 = .ok (.sipush 512, 3) := by decide +kernel
theorem dX4_isLate_38 : decode cX4_isLate 38 = .ok (.iload_n 2, 1) := by decide +kernel
theorem dX4_isLate_39 : decode cX4_isLate 39 = .ok (.imul, 1) := by decide +kernel
theorem dX4_isLate_40 : decode cX4_isLate 40 = .ok (.iload_n 3, 1) := by decide +kernel
theorem dX4_isLate_41 : decode cX4_isLate 41 = .ok (.iadd, 1) := by decide +kernel
theorem dX4_isLate_42 : decode cX4_isLate 42 = .ok (.iaload, 1) := by decide +kernel
theorem dX4_isLate_43 : decode cX4_isLate 43 = .ok (.iaload, 1) := by decide +kernel
theorem dX4_isLate_44 : decode cX4_isLate 44 = .ok (.aload_n 0, 1) := by decide +kernel
theorem dX4_isLate_45 : decode cX4_isLate 45 = .ok (.getfield 87, 3) := by decide +kernel
theorem dX4_isLate_48 : decode cX4_isLate 48 = .ok (.iload_n 1, 1) := by decide +kernel
theorem dX4_isLate_49 : decode cX4_isLate 49 = .ok (.iaload, 1) := by decide +kernel
theorem dX4_isLate_50 : decode cX4_isLate 50 = .ok (.if_icmp .le 5, 3) := by decide +kernel
theorem dX4_isLate_53 : decode cX4_isLate 53 = .ok (.iconst 1, 1) := by decide +kernel
theorem dX4_isLate_54 : decode cX4_isLate 54 = .ok (.ireturn, 1) := by decide +kernel
theorem dX4_isLate_55 : decode cX4_isLate 55 = .ok (.iinc 3 1, 3) := by decide +kernel
theorem dX4_isLate_58 : decode cX4_isLate 58 = .ok (.goto (-46), 3) := by decide +kernel
theorem dX4_isLate_61 : decode cX4_isLate 61 = .ok (.iinc 2 1, 3) := by decide +kernel
theorem dX4_isLate_64 : decode cX4_isLate 64 = .ok (.goto (-62), 3) := by decide +kernel
theorem dX4_isLate_67 : decode cX4_isLate 67 = .ok (.iconst 0, 1) := by decide +kernel
theorem dX4_isLate_68 : decode cX4_isLate 68 = .ok (.ireturn, 1) := by decide +kernel
theorem dX4_astray_0 : decode cX4_astray 0 = .ok (.aload_n 0, 1) := by decide +kernel
theorem dX4_astray_1 : decode cX4_astray 1 = .ok (.iconst 0, 1) := by decide +kernel
theorem dX4_astray_2 : decode cX4_astray 2 = .ok (.putfield 112, 3) := by decide +kernel
theorem dX4_astray_5 : decode cX4_astray 5 = .ok (.iconst 0, 1) := by decide +kernel
theorem dX4_astray_6 : decode cX4_astray 6 = .ok (.istore_n 1, 1) := by decide +kernel
theorem dX4_astray_7 : decode cX4_astray 7 = .ok (.iconst 1, 1) := by decide +kernel
theorem dX4_astray_8 : decode cX4_astray 8 = .ok (.istore_n 2, 1) := by decide +kernel
theorem dX4_astray_9 : decode cX4_astray 9 = .ok (.iload_n 2, 1) := by decide +kernel
theorem dX4_astray_10 : decode cX4_astray 10 = .ok (.aload_n 0, 1) := by decide +kernel
theorem dX4_astray_11 : decode cX4_astray 11 = .ok (.getfield 129, 3) := by decide +kernel
theorem dX4_astray_14 : decode cX4_astray 14 = .ok (.if_icmp .gt 210, 3) := by decide +kernel
theorem dX4_astray_17 : decode cX4_astray 17 = .ok (.aload_n 0, 1) := by decide +kernel
theorem dX4_astray_18 : decode cX4_astray 18 = .ok (.getfield 102, 3) := by decide +kernel
theorem dX4_astray_21 : decode cX4_astray 21 = .ok (.iload_n 2, 1) := by decide +kernel
theorem dX4_astray_22 : decode cX4_astray 22 = .ok (.baload, 1) := by decide +kernel
theorem dX4_astray_23 : decode cX4_astray 23 = .ok (.ifCond .ne 6, 3) := by decide +kernel
theorem dX4_astray_26 : decode cX4_astray 26 = .ok (.goto 192, 3) := by decide +kernel
theorem dX4_astray_29 : decode cX4_astray 29 = .ok (.iload_n 1, 1) := by decide +kernel
theorem dX4_astray_30 : decode cX4_astray 30 = .ok (.aload_n 0, 1) := by decide +kernel
theorem dX4_astray_31 : decode cX4_astray 31 = .ok (.getfield 87, 3) := by decide +kernel
theorem dX4_astray_34 : decode cX4_astray 34 = .ok (.iload_n 2, 1) := by decide +kernel
theorem dX4_astray_35 : decode cX4_astray 35 = .ok (.iaload, 1) := by decide +kernel
theorem dX4_astray_36 : decode cX4_astray 36 = .ok (.iconst (-1), 1) := by decide +kernel
theorem dX4_astray_37 : decode cX4_astray 37 = .ok (.if_icmp .eq 15, 3) := by decide +kernel
theorem dX4_astray_40 : decode cX4_astray 40 = .ok (.aload_n 0, 1) := by decide +kernel
theorem dX4_astray_41 : decode cX4_astray 41 = .ok (.iload_n 2, 1) := by decide +kernel
theorem dX4_astray_42 : decode cX4_astray 42 = .ok (.invokevirtual 216, 3) := by decide +kernel
theorem dX4_astray_45 : decode cX4_astray 45 = .ok (.ifCond .eq 7, 3) := by decide +kernel
theorem dX4_astray_48 : decode cX4_astray 48 = .ok (.iconst 1, 1) := by decide +kernel
theorem dX4_astray_49 : decode cX4_astray 49 = .ok (.goto 4, 3) := by decide +kernel
theorem dX4_astray_52 : decode cX4_astray 52 = .ok (.iconst 0, 1) := by decide +kernel
theorem dX4_astray_53 : decode cX4_astray 53 = .ok (.iadd, 1) := by decide +kernel
theorem dX4_astray_54 : decode cX4_astray 54 = .ok (.istore_n 1, 1) := by decide +kernel
theorem dX4_astray_55 : decode cX4_astray 55 = .ok (.iconst 1, 1) := by decide +kernel
theorem dX4_astray_56 : decode cX4_astray 56 = .ok (.istore_n 3, 1) := by decide +kernel
theorem dX4_astray_57 : decode cX4_astray 57 = .ok (.iload_n 3, 1) := by decide +kernel
theorem dX4_astray_58 : decode cX4_astray 58 = .ok (.aload_n 0, 1) := by decide +kernel
theorem dX4_astray_59 : decode cX4_astray 59 = .ok (.getfield 129, 3) := by decide +kernel
theorem dX4_astray_62 : decode cX4_astray 62 = .ok (.if_icmp .gt 156, 3) := by decide +kernel
theorem dX4_astray_65 : decode cX4_astray 65 = .ok (.iload_n 3, 1) := by decide +kernel
theorem dX4_astray_66 : decode cX4_astray 66 = .ok (.iload_n 2, 1) := by decide +kernel
theorem dX4_astray_67 : decode cX4_astray 67 = .ok (.if_icmp .eq 145, 3) := by decide +kernel
theorem dX4_astray_70 : decode cX4_astray 70 = .ok (.aload_n 0, 1) := by decide +kernel
theorem dX4_astray_71 : decode cX4_astray 71 = .ok (.getfield 102, 3) := by decide +kernel
theorem dX4_astray_74 : decode cX4_astray 74 = .ok (.iload_n 3, 1) := by decide +kernel
theorem dX4_astray_75 : decode cX4_astray 75 = .ok (.baload, 1) := by decide +kernel
theorem dX4_astray_76 : decode cX4_astray 76 = .ok (.ifCond .ne 6, 3) := by decide +kernel
theorem dX4_astray_79 : decode cX4_astray 79 = .ok (.goto 133, 3) := by decide +kernel
theorem dX4_astray_82 : decode cX4_astray 82 = .ok (.aload_n 0, 1) := by decide +kernel
theorem dX4_astray_83 : decode cX4_astray 83 = .ok (.iload_n 2, 1) := by decide +kernel
theorem dX4_astray_84 : decode cX4_astray 84 = .ok (.iload_n 3, 1) := by decide +kernel
theorem dX4_astray_85 : decode cX4_astray 85 = .ok (.invokevirtual 219, 3) := by decide +kernel
theorem dX4_astray_88 : decode cX4_astray 88 = .ok (.istore 4, 2) := by decide +kernel
theorem dX4_astray_90 : decode cX4_astray 90 = .ok (.iload_n 1, 1) := by decide +kernel
theorem dX4_astray_91 : decode cX4_astray 91 = .ok (.iload_n 3, 1) := by decide +kernel
theorem dX4_astray_92 : decode cX4_astray 92 = .ok (.iload_n 2, 1) := by decide +kernel
theorem dX4_astray_93 : decode cX4_astray 93 = .ok (.if_icmp .le 21, 3) := by decide +kernel
theorem dX4_astray_96 : decode cX4_astray 96 = .ok (.iload 4, 2) := by decide +kernel
theorem dX4_astray_98 : decode cX4_astray 98 = .ok (.ifCond .ne 16, 3) := by decide +kernel
theorem dX4_astray_101 : decode cX4_astray 101 = .ok (.aload_n 0, 1) := by decide +kernel
theorem dX4_astray_102 : decode cX4_astray 102 = .ok (.iload_n 3, 1) := by decide +kernel
theorem dX4_astray_103 : decode cX4_astray 103 = .ok (.iload_n 2, 1) := by decide +kernel
theorem dX4_astray_104 : decode cX4_astray 104 = .ok (.invokevirtual 219, 3) := by decide +kernel
theorem dX4_astray_107 : decode cX4_astray 107 = .ok (.ifCond .ne 7, 3) := by decide +kernel
theorem dX4_astray_110 : decode cX4_astray 110 = .ok (.iconst 1, 1) := by decide +kernel
theorem dX4_astray_111 : decode cX4_astray 111 = .ok (.goto 4, 3) := by decide +kernel
theorem dX4_astray_114 : decode cX4_astray 114 = .ok (.iconst 0, 1) := by decide +kernel
theorem dX4_astray_115 : decode cX4_astray 115 = .ok (.iadd, 1) := by decide +kernel
theorem dX4_astray_116 : decode cX4_astray 116 = .ok (.istore_n 1, 1) := by decide +kernel
theorem dX4_astray_117 : decode cX4_astray 117 = .ok (.aload_n 0, 1) := by decide +kernel
theorem dX4_astray_118 : decode cX4_astray 118 = .ok (.getfield 87, 3) := by decide +kernel
theorem dX4_astray_121 : decode cX4_astray 121 = .ok (.iload_n 2, 1) := by decide +kernel
theorem dX4_astray_122 : decode cX4_astray 122 = .ok (.iaload, 1) := by decide +kernel
theorem dX4_astray_123 : decode cX4_astray 123 = .ok (.iconst (-1), 1) := by decide +kernel
theorem dX4_astray_124 : decode cX4_astray 124 = .ok (.if_icmp .eq 22, 3) := by decide +kernel
theorem dX4_astray_127 : decode cX4_astray 127 = .ok (.aload_n 0, 1) := by decide +kernel
theorem dX4_astray_128 : decode cX4_astray 128 = .ok (.getfield 87, 3) := by decide +kernel
theorem dX4_astray_131 : decode cX4_astray 131 = .ok (.iload_n 2, 1) := by decide +kernel
theorem dX4_astray_132 : decode cX4_astray 132 = .ok (.iaload, 1) := by decide +kernel
theorem dX4_astray_133 : decode cX4_astray 133 = .ok (.aload_n 0, 1) := by decide +kernel
theorem dX4_astray_134 : decode cX4_astray 134 = .ok (.getfield 84, 3) := by decide +kernel
theorem dX4_astray_137 : decode cX4_astray 137 = .ok (.iload_n 3, 1) := by decide +kernel
theorem dX4_astray_138 : decode cX4_astray 138 = .ok (.iaload, 1) := by decide +kernel
theorem dX4_astray_139 : decode cX4_astray 139 = .ok (.if_icmp .ge 7, 3) := by decide +kernel
theorem dX4_astray_142 : decode cX4_astray 142 = .ok (.iconst 1, 1) := by decide +kernel
theorem dX4_astray_143 : decode cX4_astray 143 = .ok (.goto 4, 3) := by decide +kernel
theorem dX4_astray_146 : decode cX4_astray 146 = .ok (.iconst 0, 1) := by decide +kernel
theorem dX4_astray_147 : decode cX4_astray 147 = .ok (.istore 5, 2) := by decide +kernel
theorem dX4_astray_149 : decode cX4_astray 149 = .ok (.aload_n 0, 1) := by decide +kernel
theorem dX4_astray_150 : decode cX4_astray 150 = .ok (.iload_n 2, 1) := by decide +kernel
theorem dX4_astray_151 : decode cX4_astray 151 = .ok (.invokevirtual 159, 3) := by decide +kernel
theorem dX4_astray_154 : decode cX4_astray 154 = .ok (.ifCond .ne 32, 3) := by decide +kernel
theorem dX4_astray_157 : decode cX4_astray 157 = .ok (.aload_n 0, 1) := by decide +kernel
theorem dX4_astray_158 : decode cX4_astray 158 = .ok (.getfield 99, 3) := by decide +kernel
theorem dX4_astray_161 : decode cX4_astray 161 = .ok (.bipush 31, 2) := by decide +kernel
theorem dX4_astray_163 : decode cX4_astray 163 = .ok (.iload_n 3, 1) := by decide +kernel
theorem dX4_astray_164 : decode cX4_astray 164 = .ok (.imul, 1) := by decide +kernel
theorem dX4_astray_165 : decode cX4_astray 165 = .ok (.aload_n 0, 1) := by decide +kernel
theorem dX4_astray_166 : decode cX4_astray 166 = .ok (.getfield 72, 3) := by decide +kernel
theorem dX4_astray_169 : decode cX4_astray 169 = .ok (.iload_n 2, 1) := by decide +kernel
theorem dX4_astray_170 : decode cX4_astray 170 = .ok (.iaload, 1) := by decide +kernel
theorem dX4_astray_171 : decode cX4_astray 171 = .ok (.iadd, 1) := by decide +kernel
theorem dX4_astray_172 : decode cX4_astray 172 = .ok (.iaload, 1) := by decide +kernel
theorem dX4_astray_173 : decode cX4_astray 173 = .ok (.aload_n 0, 1) := by decide +kernel
theorem dX4_astray_174 : decode cX4_astray 174 = .ok (.getfield 96, 3) := by decide +kernel
theorem dX4_astray_177 : decode cX4_astray 177 = .ok (.iload_n 2, 1) := by decide +kernel
theorem dX4_astray_178 : decode cX4_astray 178 = .ok (.iaload, 1) := by decide +kernel
theorem dX4_astray_179 : decode cX4_astray 179 = .ok (.if_icmp .ge 7, 3) := by decide +kernel
theorem dX4_astray_182 : decode cX4_astray 182 = .ok (.iconst 1, 1) := by decide +kernel
theorem dX4_astray_183 : decode cX4_astray 183 = .ok (.goto 4, 3) := by decide +kernel
theorem dX4_astray_186 : decode cX4_astray 186 = .ok (.iconst 0, 1) := by decide +kernel
theorem dX4_astray_187 : decode cX4_astray 187 = .ok (.istore 6, 2) := by decide +kernel
theorem dX4_astray_189 : decode cX4_astray 189 = .ok (.iload_n 1, 1) := by decide +kernel
theorem dX4_astray_190 : decode cX4_astray 190 = .ok (.iload 5, 2) := by decide +kernel
theorem dX4_astray_192 : decode cX4_astray 192 = .ok (.ifCond .eq 17, 3) := by decide +kernel
theorem dX4_astray_195 : decode cX4_astray 195 = .ok (.iload 4, 2) := by decide +kernel
theorem dX4_astray_197 : decode cX4_astray 197 = .ok (.ifCond .eq 8, 3) := by decide +kernel
theorem dX4_astray_200 : decode cX4_astray 200 = .ok (.iload 6, 2) := by decide +kernel
theorem dX4_astray_202 : decode cX4_astray 202 = .ok (.ifCond .eq 7, 3) := by decide +kernel
theorem dX4_astray_205 : decode cX4_astray 205 = .ok (.iconst 1, 1) := by decide +kernel
theorem dX4_astray_206 : decode cX4_astray 206 = .ok (.goto 4, 3) := by decide +kernel
theorem dX4_astray_209 : decode cX4_astray 209 = .ok (.iconst 0, 1) := by decide +kernel
theorem dX4_astray_210 : decode cX4_astray 210 = .ok (.iadd, 1) := by decide +kernel
theorem dX4_astray_211 : decode cX4_astray 211 = .ok (.istore_n 1, 1) := by decide +kernel
theorem dX4_astray_212 : decode cX4_astray 212 = .ok (.iinc 3 1, 3) := by decide +kernel
theorem dX4_astray_215 : decode cX4_astray 215 = .ok (.goto (-158), 3) := by decide +kernel
theorem dX4_astray_218 : decode cX4_astray 218 = .ok (.iinc 2 1, 3) := by decide +kernel
theorem dX4_astray_221 : decode cX4_astray 221 = .ok (.goto (-212), 3) := by decide +kernel
theorem dX4_astray_224 : decode cX4_astray 224 = .ok (.iload_n 1, 1) := by decide +kernel
theorem dX4_astray_225 : decode cX4_astray 225 = .ok (.ireturn, 1) := by decide +kernel
theorem dL_cell_0 : decode cL_cell 0 = .ok (.iload_n 1, 1) := by decide +kernel
theorem dL_cell_1 : decode cL_cell 1 = .ok (.aload_n 0, 1) := by decide +kernel
theorem dL_cell_2 : decode cL_cell 2 = .ok (.arraylength, 1) := by decide +kernel
theorem dL_cell_3 : decode cL_cell 3 = .ok (.if_icmp .ge 9, 3) := by decide +kernel
theorem dL_cell_6 : decode cL_cell 6 = .ok (.aload_n 0, 1) := by decide +kernel
theorem dL_cell_7 : decode cL_cell 7 = .ok (.iload_n 1, 1) := by decide +kernel
theorem dL_cell_8 : decode cL_cell 8 = .ok (.iaload, 1) := by decide +kernel
theorem dL_cell_9 : decode cL_cell 9 = .ok (.goto 4, 3) := by decide +kernel
theorem dL_cell_12 : decode cL_cell 12 = .ok (.iconst 0, 1) := by decide +kernel
theorem dL_cell_13 : decode cL_cell 13 = .ok (.ireturn, 1) := by decide +kernel
end
section
theorem dL_update_0 : decode cL_update 0 = .ok (.aload 5, 2) := by decide +kernel
theorem dL_update_2 : decode cL_update 2 = .ok (.iconst 0, 1) := by decide +kernel
theorem dL_update_3 : decode cL_update 3 = .ok (.aload_n 0, 1) := by decide +kernel
theorem dL_update_4 : decode cL_update 4 = .ok (.iload_n 1, 1) := by decide +kernel
theorem dL_update_5 : decode cL_update 5 = .ok (.iload_n 2, 1) := by decide +kernel
theorem dL_update_6 : decode cL_update 6 = .ok (.iload_n 3, 1) := by decide +kernel
theorem dL_update_7 : decode cL_update 7 = .ok (.iload 4, 2) := by decide +kernel
theorem dL_update_9 : decode cL_update 9 = .ok (.invokevirtual 7, 3) := by decide +kernel
theorem dL_update_12 : decode cL_update 12 = .ok (.i2l, 1) := by decide +kernel
theorem dL_update_13 : decode cL_update 13 = .ok (.lastore, 1) := by decide +kernel
theorem dL_update_14 : decode cL_update 14 = .ok (.goto 11, 3) := by decide +kernel
theorem dL_update_17 : decode cL_update 17 = .ok (.astore 6, 2) := by decide +kernel
theorem dL_update_19 : decode cL_update 19 = .ok (.iconst 1, 1) := by decide +kernel
theorem dL_update_20 : decode cL_update 20 = .ok (.ireturn, 1) := by decide +kernel
theorem dL_update_21 : decode cL_update 21 = .ok (.astore 6, 2) := by decide +kernel
theorem dL_update_23 : decode cL_update 23 = .ok (.iconst 2, 1) := by decide +kernel
theorem dL_update_24 : decode cL_update 24 = .ok (.ireturn, 1) := by decide +kernel
theorem dL_update_25 : decode cL_update 25 = .ok (.iconst 0, 1) := by decide +kernel
theorem dL_update_26 : decode cL_update 26 = .ok (.ireturn, 1) := by decide +kernel
theorem dL_query_0 : decode cL_query 0 = .ok (.aload 4, 2) := by decide +kernel
theorem dL_query_2 : decode cL_query 2 = .ok (.iconst 0, 1) := by decide +kernel
theorem dL_query_3 : decode cL_query 3 = .ok (.aload_n 0, 1) := by decide +kernel
theorem dL_query_4 : decode cL_query 4 = .ok (.iload_n 1, 1) := by decide +kernel
theorem dL_query_5 : decode cL_query 5 = .ok (.iload_n 2, 1) := by decide +kernel
theorem dL_query_6 : decode cL_query 6 = .ok (.iload_n 3, 1) := by decide +kernel
theorem dL_query_7 : decode cL_query 7 = .ok (.invokevirtual 17, 3) := by decide +kernel
theorem dL_query_10 : decode cL_query 10 = .ok (.i2l, 1) := by decide +kernel
theorem dL_query_11 : decode cL_query 11 = .ok (.lastore, 1) := by decide +kernel
theorem dL_query_12 : decode cL_query 12 = .ok (.goto 11, 3) := by decide +kernel
theorem dL_query_15 : decode cL_query 15 = .ok (.astore 5, 2) := by decide +kernel
theorem dL_query_17 : decode cL_query 17 = .ok (.iconst 1, 1) := by decide +kernel
theorem dL_query_18 : decode cL_query 18 = .ok (.ireturn, 1) := by decide +kernel
theorem dL_query_19 : decode cL_query 19 = .ok (.astore 5, 2) := by decide +kernel
theorem dL_query_21 : decode cL_query 21 = .ok (.iconst 2, 1) := by decide +kernel
theorem dL_query_22 : decode cL_query 22 = .ok (.ireturn, 1) := by decide +kernel
theorem dL_query_23 : decode cL_query 23 = .ok (.iconst 0, 1) := by decide +kernel
theorem dL_query_24 : decode cL_query 24 = .ok (.ireturn, 1) := by decide +kernel
theorem dL_deliver_0 : decode cL_deliver 0 = .ok (.aload_n 2, 1) := by decide +kernel
theorem dL_deliver_1 : decode cL_deliver 1 = .ok (.iconst 0, 1) := by decide +kernel
theorem dL_deliver_2 : decode cL_deliver 2 = .ok (.aload_n 0, 1) := by decide +kernel
theorem dL_deliver_3 : decode cL_deliver 3 = .ok (.iload_n 1, 1) := by decide +kernel
theorem dL_deliver_4 : decode cL_deliver 4 = .ok (.invokevirtual 21, 3) := by decide +kernel
theorem dL_deliver_7 : decode cL_deliver 7 = .ok (.i2l, 1) := by decide +kernel
theorem dL_deliver_8 : decode cL_deliver 8 = .ok (.lastore, 1) := by decide +kernel
theorem dL_deliver_9 : decode cL_deliver 9 = .ok (.goto 6, 3) := by decide +kernel
theorem dL_deliver_12 : decode cL_deliver 12 = .ok (.astore_n 3, 1) := by decide +kernel
theorem dL_deliver_13 : decode cL_deliver 13 = .ok (.iconst 1, 1) := by decide +kernel
theorem dL_deliver_14 : decode cL_deliver 14 = .ok (.ireturn, 1) := by decide +kernel
theorem dL_deliver_15 : decode cL_deliver 15 = .ok (.iconst 0, 1) := by decide +kernel
theorem dL_deliver_16 : decode cL_deliver 16 = .ok (.ireturn, 1) := by decide +kernel
theorem dL_calm_0 : decode cL_calm 0 = .ok (.aload_n 2, 1) := by decide +kernel
theorem dL_calm_1 : decode cL_calm 1 = .ok (.iconst 0, 1) := by decide +kernel
theorem dL_calm_2 : decode cL_calm 2 = .ok (.aload_n 0, 1) := by decide +kernel
theorem dL_calm_3 : decode cL_calm 3 = .ok (.iload_n 1, 1) := by decide +kernel
theorem dL_calm_4 : decode cL_calm 4 = .ok (.invokevirtual 25, 3) := by decide +kernel
theorem dL_calm_7 : decode cL_calm 7 = .ok (.i2l, 1) := by decide +kernel
theorem dL_calm_8 : decode cL_calm 8 = .ok (.lastore, 1) := by decide +kernel
theorem dL_calm_9 : decode cL_calm 9 = .ok (.goto 6, 3) := by decide +kernel
theorem dL_calm_12 : decode cL_calm 12 = .ok (.astore_n 3, 1) := by decide +kernel
theorem dL_calm_13 : decode cL_calm 13 = .ok (.iconst 1, 1) := by decide +kernel
theorem dL_calm_14 : decode cL_calm 14 = .ok (.ireturn, 1) := by decide +kernel
theorem dL_calm_15 : decode cL_calm 15 = .ok (.iconst 0, 1) := by decide +kernel
theorem dL_calm_16 : decode cL_calm 16 = .ok (.ireturn, 1) := by decide +kernel
theorem dL_crash_0 : decode cL_crash 0 = .ok (.aload_n 2, 1) := by decide +kernel
theorem dL_crash_1 : decode cL_crash 1 = .ok (.iconst 0, 1) := by decide +kernel
theorem dL_crash_2 : decode cL_crash 2 = .ok (.aload_n 0, 1) := by decide +kernel
theorem dL_crash_3 : decode cL_crash 3 = .ok (.iload_n 1, 1) := by decide +kernel
theorem dL_crash_4 : decode cL_crash 4 = .ok (.invokevirtual 28, 3) := by decide +kernel
theorem dL_crash_7 : decode cL_crash 7 = .ok (.ifCond .eq 7, 3) := by decide +kernel
theorem dL_crash_10 : decode cL_crash 10 = .ok (.lconst 1, 1) := by decide +kernel
theorem dL_crash_11 : decode cL_crash 11 = .ok (.goto 4, 3) := by decide +kernel
theorem dL_crash_14 : decode cL_crash 14 = .ok (.lconst 0, 1) := by decide +kernel
theorem dL_crash_15 : decode cL_crash 15 = .ok (.lastore, 1) := by decide +kernel
theorem dL_crash_16 : decode cL_crash 16 = .ok (.goto 6, 3) := by decide +kernel
theorem dL_crash_19 : decode cL_crash 19 = .ok (.astore_n 3, 1) := by decide +kernel
theorem dL_crash_20 : decode cL_crash 20 = .ok (.iconst 1, 1) := by decide +kernel
theorem dL_crash_21 : decode cL_crash 21 = .ok (.ireturn, 1) := by decide +kernel
theorem dL_crash_22 : decode cL_crash 22 = .ok (.iconst 0, 1) := by decide +kernel
theorem dL_crash_23 : decode cL_crash 23 = .ok (.ireturn, 1) := by decide +kernel
theorem dL_law_0 : decode cL_law 0 = .ok (.new 8, 3) := by decide +kernel
theorem dL_law_3 : decode cL_law 3 = .ok (.dup, 1) := by decide +kernel
theorem dL_law_4 : decode cL_law 4 = .ok (.aload_n 0, 1) := by decide +kernel
theorem dL_law_5 : decode cL_law 5 = .ok (.iconst 0, 1) := by decide +kernel
theorem dL_law_6 : decode cL_law 6 = .ok (.invokestatic 32, 3) := by decide +kernel
theorem dL_law_9 : decode cL_law 9 = .ok (.invokespecial 38, 3) := by decide +kernel
theorem dL_law_12 : decode cL_law 12 = .ok (.astore_n 1, 1) := by decide +kernel
theorem dL_law_13 : decode cL_law 13 = .ok (.new 41, 3) := by decide +kernel
theorem dL_law_16 : decode cL_law 16 = .ok (.dup, 1) := by decide +kernel
theorem dL_law_17 : decode cL_law 17 = .ok (.aload_n 0, 1) := by decide +kernel
theorem dL_law_18 : decode cL_law 18 = .ok (.iconst 0, 1) := by decide +kernel
theorem dL_law_19 : decode cL_law 19 = .ok (.invokestatic 32, 3) := by decide +kernel
theorem dL_law_22 : decode cL_law 22 = .ok (.invokespecial 43, 3) := by decide +kernel
theorem dL_law_25 : decode cL_law 25 = .ok (.astore_n 2, 1) := by decide +kernel
theorem dL_law_26 : decode cL_law 26 = .ok (.iconst 1, 1) := by decide +kernel
theorem dL_law_27 : decode cL_law 27 = .ok (.newarray .long, 2) := by decide +kernel
theorem dL_law_29 : decode cL_law 29 = .ok (.astore_n 3, 1) := by decide +kernel
theorem dL_law_30 : decode cL_law 30 = .ok (.iconst 1, 1) := by decide +kernel
theorem dL_law_31 : decode cL_law 31 = .ok (.istore 4, 2) := by decide +kernel
theorem dL_law_33 : decode cL_law 33 = .ok (.iload 4, 2) := by decide +kernel
theorem dL_law_35 : decode cL_law 35 = .ok (.aload_n 0, 1) := by decide +kernel
theorem dL_law_36 : decode cL_law 36 = .ok (.arraylength, 1) := by decide +kernel
theorem dL_law_37 : decode cL_law 37 = .ok (.iconst 5, 1) := by decide +kernel
theorem dL_law_38 : decode cL_law 38 = .ok (.isub, 1) := by decide +kernel
theorem dL_law_39 : decode cL_law 39 = .ok (.if_icmp .gt 607, 3) := by decide +kernel
theorem dL_law_42 : decode cL_law 42 = .ok (.aload_n 0, 1) := by decide +kernel
theorem dL_law_43 : decode cL_law 43 = .ok (.iload 4, 2) := by decide +kernel
theorem dL_law_45 : decode cL_law 45 = .ok (.iaload, 1) := by decide +kernel
theorem dL_law_46 : decode cL_law 46 = .ok (.bipush 15, 2) := by decide +kernel
theorem dL_law_48 : decode cL_law 48 = .ok (.iand, 1) := by decide +kernel
theorem dL_law_49 : decode cL_law 49 = .ok (.tableswitch 591 0 13 #[71, 135, 187, 215, 243, 306, 343, 368, 405, 442, 479, 516, 553, 578], 71) := by decide +kernel
theorem dL_law_120 : decode cL_law 120 = .ok (.aload_n 1, 1) := by decide +kernel
theorem dL_law_121 : decode cL_law 121 = .ok (.aload_n 0, 1) := by decide +kernel
theorem dL_law_122 : decode cL_law 122 = .ok (.iload 4, 2) := by decide +kernel
theorem dL_law_124 : decode cL_law 124 = .ok (.iconst 1, 1) := by decide +kernel
theorem dL_law_125 : decode cL_law 125 = .ok (.iadd, 1) := by decide +kernel
theorem dL_law_126 : decode cL_law 126 = .ok (.iaload, 1) := by decide +kernel
theorem dL_law_127 : decode cL_law 127 = .ok (.aload_n 0, 1) := by decide +kernel
theorem dL_law_128 : decode cL_law 128 = .ok (.iload 4, 2) := by decide +kernel
theorem dL_law_130 : decode cL_law 130 = .ok (.iconst 2, 1) := by decide +kernel
theorem dL_law_131 : decode cL_law 131 = .ok (.iadd, 1) := by decide +kernel
theorem dL_law_132 : decode cL_law 132 = .ok (.iaload, 1) := by decide +kernel
theorem dL_law_133 : decode cL_law 133 = .ok (.aload_n 0, 1) := by decide +kernel
theorem dL_law_134 : decode cL_law 134 = .ok (.iload 4, 2) := by decide +kernel
theorem dL_law_136 : decode cL_law 136 = .ok (.iconst 3, 1) := by decide +kernel
theorem dL_law_137 : decode cL_law 137 = .ok (.iadd, 1) := by decide +kernel
theorem dL_law_138 : decode cL_law 138 = .ok (.iaload, 1) := by decide +kernel
theorem dL_law_139 : decode cL_law 139 = .ok (.aload_n 0, 1) := by decide +kernel
theorem dL_law_140 : decode cL_law 140 = .ok (.iload 4, 2) := by decide +kernel
theorem dL_law_142 : decode cL_law 142 = .ok (.iconst 4, 1) := by decide +kernel
theorem dL_law_143 : decode cL_law 143 = .ok (.iadd, 1) := by decide +kernel
theorem dL_law_144 : decode cL_law 144 = .ok (.iaload, 1) := by decide +kernel
theorem dL_law_145 : decode cL_law 145 = .ok (.aload_n 3, 1) := by decide +kernel
theorem dL_law_146 : decode cL_law 146 = .ok (.invokestatic 44, 3) := by decide +kernel
theorem dL_law_149 : decode cL_law 149 = .ok (.istore 5, 2) := by decide +kernel
theorem dL_law_151 : decode cL_law 151 = .ok (.aload_n 2, 1) := by decide +kernel
theorem dL_law_152 : decode cL_law 152 = .ok (.aload_n 0, 1) := by decide +kernel
theorem dL_law_153 : decode cL_law 153 = .ok (.iload 4, 2) := by decide +kernel
theorem dL_law_155 : decode cL_law 155 = .ok (.iconst 1, 1) := by decide +kernel
theorem dL_law_156 : decode cL_law 156 = .ok (.iadd, 1) := by decide +kernel
theorem dL_law_157 : decode cL_law 157 = .ok (.iaload, 1) := by decide +kernel
theorem dL_law_158 : decode cL_law 158 = .ok (.aload_n 0, 1) := by decide +kernel
theorem dL_law_159 : decode cL_law 159 = .ok (.iload 4, 2) := by decide +kernel
theorem dL_law_161 : decode cL_law 161 = .ok (.iconst 2, 1) := by decide +kernel
theorem dL_law_162 : decode cL_law 162 = .ok (.iadd, 1) := by decide +kernel
theorem dL_law_163 : decode cL_law 163 = .ok (.iaload, 1) := by decide +kernel
theorem dL_law_164 : decode cL_law 164 = .ok (.aload_n 0, 1) := by decide +kernel
theorem dL_law_165 : decode cL_law 165 = .ok (.iload 4, 2) := by decide +kernel
theorem dL_law_167 : decode cL_law 167 = .ok (.iconst 3, 1) := by decide +kernel
theorem dL_law_168 : decode cL_law 168 = .ok (.iadd, 1) := by decide +kernel
theorem dL_law_169 : decode cL_law 169 = .ok (.iaload, 1) := by decide +kernel
theorem dL_law_170 : decode cL_law 170 = .ok (.aload_n 0, 1) := by decide +kernel
theorem dL_law_171 : decode cL_law 171 = .ok (.iload 4, 2) := by decide +kernel
theorem dL_law_173 : decode cL_law 173 = .ok (.iconst 4, 1) := by decide +kernel
theorem dL_law_174 : decode cL_law 174 = .ok (.iadd, 1) := by decide +kernel
theorem dL_law_175 : decode cL_law 175 = .ok (.iaload, 1) := by decide +kernel
theorem dL_law_176 : decode cL_law 176 = .ok (.invokevirtual 47, 3) := by decide +kernel
theorem dL_law_179 : decode cL_law 179 = .ok (.istore 6, 2) := by decide +kernel
theorem dL_law_181 : decode cL_law 181 = .ok (.goto 459, 3) := by decide +kernel
theorem dL_law_184 : decode cL_law 184 = .ok (.aload_n 1, 1) := by decide +kernel
theorem dL_law_185 : decode cL_law 185 = .ok (.aload_n 0, 1) := by decide +kernel
theorem dL_law_186 : decode cL_law 186 = .ok (.iload 4, 2) := by decide +kernel
theorem dL_law_188 : decode cL_law 188 = .ok (.iconst 1, 1) := by decide +kernel
theorem dL_law_189 : decode cL_law 189 = .ok (.iadd, 1) := by decide +kernel
theorem dL_law_190 : decode cL_law 190 = .ok (.iaload, 1) := by decide +kernel
theorem dL_law_191 : decode cL_law 191 = .ok (.aload_n 0, 1) := by decide +kernel
theorem dL_law_192 : decode cL_law 192 = .ok (.iload 4, 2) := by decide +kernel
theorem dL_law_194 : decode cL_law 194 = .ok (.iconst 2, 1) := by decide +kernel
theorem dL_law_195 : decode cL_law 195 = .ok (.iadd, 1) := by decide +kernel
theorem dL_law_196 : decode cL_law 196 = .ok (.iaload, 1) := by decide +kernel
theorem dL_law_197 : decode cL_law 197 = .ok (.aload_n 0, 1) := by decide +kernel
theorem dL_law_198 : decode cL_law 198 = .ok (.iload 4, 2) := by decide +kernel
theorem dL_law_200 : decode cL_law 200 = .ok (.iconst 3, 1) := by decide +kernel
theorem dL_law_201 : decode cL_law 201 = .ok (.iadd, 1) := by decide +kernel
theorem dL_law_202 : decode cL_law 202 = .ok (.iaload, 1) := by decide +kernel
theorem dL_law_203 : decode cL_law 203 = .ok (.aload_n 3, 1) := by decide +kernel
theorem dL_law_204 : decode cL_law 204 = .ok (.invokestatic 48, 3) := by decide +kernel
theorem dL_law_207 : decode cL_law 207 = .ok (.istore 5, 2) := by decide +kernel
theorem dL_law_209 : decode cL_law 209 = .ok (.aload_n 2, 1) := by decide +kernel
theorem dL_law_210 : decode cL_law 210 = .ok (.aload_n 0, 1) := by decide +kernel
theorem dL_law_211 : decode cL_law 211 = .ok (.iload 4, 2) := by decide +kernel
theorem dL_law_213 : decode cL_law 213 = .ok (.iconst 1, 1) := by decide +kernel
theorem dL_law_214 : decode cL_law 214 = .ok (.iadd, 1) := by decide +kernel
theorem dL_law_215 : decode cL_law 215 = .ok (.iaload, 1) := by decide +kernel
theorem dL_law_216 : decode cL_law 216 = .ok (.aload_n 0, 1) := by decide +kernel
theorem dL_law_217 : decode cL_law 217 = .ok (.iload 4, 2) := by decide +kernel
theorem dL_law_219 : decode cL_law 219 = .ok (.iconst 2, 1) := by decide +kernel
theorem dL_law_220 : decode cL_law 220 = .ok (.iadd, 1) := by decide +kernel
theorem dL_law_221 : decode cL_law 221 = .ok (.iaload, 1) := by decide +kernel
theorem dL_law_222 : decode cL_law 222 = .ok (.aload_n 0, 1) := by decide +kernel
theorem dL_law_223 : decode cL_law 223 = .ok (.iload 4, 2) := by decide +kernel
theorem dL_law_225 : decode cL_law 225 = .ok (.iconst 3, 1) := by decide +kernel
theorem dL_law_226 : decode cL_law 226 = .ok (.iadd, 1) := by decide +kernel
theorem dL_law_227 : decode cL_law 227 = .ok (.iaload, 1) := by decide +kernel
theorem dL_law_228 : decode cL_law 228 = .ok (.invokevirtual 51, 3) := by decide +kernel
theorem dL_law_231 : decode cL_law 231 = .ok (.istore 6, 2) := by decide +kernel
theorem dL_law_233 : decode cL_law 233 = .ok (.goto 407, 3) := by decide +kernel
theorem dL_law_236 : decode cL_law 236 = .ok (.aload_n 1, 1) := by decide +kernel
theorem dL_law_237 : decode cL_law 237 = .ok (.aload_n 0, 1) := by decide +kernel
theorem dL_law_238 : decode cL_law 238 = .ok (.iload 4, 2) := by decide +kernel
theorem dL_law_240 : decode cL_law 240 = .ok (.iconst 1, 1) := by decide +kernel
theorem dL_law_241 : decode cL_law 241 = .ok (.iadd, 1) := by decide +kernel
theorem dL_law_242 : decode cL_law 242 = .ok (.iaload, 1) := by decide +kernel
theorem dL_law_243 : decode cL_law 243 = .ok (.aload_n 3, 1) := by decide +kernel
theorem dL_law_244 : decode cL_law 244 = .ok (.invokestatic 52, 3) := by decide +kernel
theorem dL_law_247 : decode cL_law 247 = .ok (.istore 5, 2) := by decide +kernel
theorem dL_law_249 : decode cL_law 249 = .ok (.aload_n 2, 1) := by decide +kernel
theorem dL_law_250 : decode cL_law 250 = .ok (.aload_n 0, 1) := by decide +kernel
theorem dL_law_251 : decode cL_law 251 = .ok (.iload 4, 2) := by decide +kernel
theorem dL_law_253 : decode cL_law 253 = .ok (.iconst 1, 1) := by decide +kernel
theorem dL_law_254 : decode cL_law 254 = .ok (.iadd, 1) := by decide +kernel
theorem dL_law_255 : decode cL_law 255 = .ok (.iaload, 1) := by decide +kernel
theorem dL_law_256 : decode cL_law 256 = .ok (.invokevirtual 55, 3) := by decide +kernel
theorem dL_law_259 : decode cL_law 259 = .ok (.istore 6, 2) := by decide +kernel
theorem dL_law_261 : decode cL_law 261 = .ok (.goto 379, 3) := by decide +kernel
theorem dL_law_264 : decode cL_law 264 = .ok (.aload_n 1, 1) := by decide +kernel
theorem dL_law_265 : decode cL_law 265 = .ok (.aload_n 0, 1) := by decide +kernel
theorem dL_law_266 : decode cL_law 266 = .ok (.iload 4, 2) := by decide +kernel
theorem dL_law_268 : decode cL_law 268 = .ok (.iconst 1, 1) := by decide +kernel
theorem dL_law_269 : decode cL_law 269 = .ok (.iadd, 1) := by decide +kernel
theorem dL_law_270 : decode cL_law 270 = .ok (.iaload, 1) := by decide +kernel
theorem dL_law_271 : decode cL_law 271 = .ok (.aload_n 3, 1) := by decide +kernel
theorem dL_law_272 : decode cL_law 272 = .ok (.invokestatic 56, 3) := by decide +kernel
theorem dL_law_275 : decode cL_law 275 = .ok (.istore 5, 2) := by decide +kernel
theorem dL_law_277 : decode cL_law 277 = .ok (.aload_n 2, 1) := by decide +kernel
theorem dL_law_278 : decode cL_law 278 = .ok (.aload_n 0, 1) := by decide +kernel
theorem dL_law_279 : decode cL_law 279 = .ok (.iload 4, 2) := by decide +kernel
theorem dL_law_281 : decode cL_law 281 = .ok (.iconst 1, 1) := by decide +kernel
theorem dL_law_282 : decode cL_law 282 = .ok (.iadd, 1) := by decide +kernel
theorem dL_law_283 : decode cL_law 283 = .ok (.iaload, 1) := by decide +kernel
theorem dL_law_284 : decode cL_law 284 = .ok (.invokevirtual 58, 3) := by decide +kernel
theorem dL_law_287 : decode cL_law 287 = .ok (.istore 6, 2) := by decide +kernel
theorem dL_law_289 : decode cL_law 289 = .ok (.goto 351, 3) := by decide +kernel
theorem dL_law_292 : decode cL_law 292 = .ok (.aload_n 1, 1) := by decide +kernel
theorem dL_law_293 : decode cL_law 293 = .ok (.aload_n 0, 1) := by decide +kernel
theorem dL_law_294 : decode cL_law 294 = .ok (.iload 4, 2) := by decide +kernel
theorem dL_law_296 : decode cL_law 296 = .ok (.iconst 1, 1) := by decide +kernel
theorem dL_law_297 : decode cL_law 297 = .ok (.iadd, 1) := by decide +kernel
theorem dL_law_298 : decode cL_law 298 = .ok (.iaload, 1) := by decide +kernel
theorem dL_law_299 : decode cL_law 299 = .ok (.aload_n 3, 1) := by decide +kernel
theorem dL_law_300 : decode cL_law 300 = .ok (.invokestatic 59, 3) := by decide +kernel
theorem dL_law_303 : decode cL_law 303 = .ok (.istore 5, 2) := by decide +kernel
theorem dL_law_305 : decode cL_law 305 = .ok (.aload_n 2, 1) := by decide +kernel
theorem dL_law_306 : decode cL_law 306 = .ok (.aload_n 0, 1) := by decide +kernel
theorem dL_law_307 : decode cL_law 307 = .ok (.iload 4, 2) := by decide +kernel
theorem dL_law_309 : decode cL_law 309 = .ok (.iconst 1, 1) := by decide +kernel
theorem dL_law_310 : decode cL_law 310 = .ok (.iadd, 1) := by decide +kernel
theorem dL_law_311 : decode cL_law 311 = .ok (.iaload, 1) := by decide +kernel
theorem dL_law_312 : decode cL_law 312 = .ok (.invokevirtual 61, 3) := by decide +kernel
theorem dL_law_315 : decode cL_law 315 = .ok (.istore 6, 2) := by decide +kernel
theorem dL_law_317 : decode cL_law 317 = .ok (.aload_n 2, 1) := by decide +kernel
theorem dL_law_318 : decode cL_law 318 = .ok (.invokevirtual 62, 3) := by decide +kernel
theorem dL_law_321 : decode cL_law 321 = .ok (.iload 5, 2) := by decide +kernel
theorem dL_law_323 : decode cL_law 323 = .ok (.if_icmp .eq 5, 3) := by decide +kernel
theorem dL_law_326 : decode cL_law 326 = .ok (.iconst 0, 1) := by decide +kernel
theorem dL_law_327 : decode cL_law 327 = .ok (.ireturn, 1) := by decide +kernel
theorem dL_law_328 : decode cL_law 328 = .ok (.iload 5, 2) := by decide +kernel
theorem dL_law_330 : decode cL_law 330 = .ok (.ifCond .ne 22, 3) := by decide +kernel
theorem dL_law_333 : decode cL_law 333 = .ok (.aload_n 3, 1) := by decide +kernel
theorem dL_law_334 : decode cL_law 334 = .ok (.iconst 0, 1) := by decide +kernel
theorem dL_law_335 : decode cL_law 335 = .ok (.laload, 1) := by decide +kernel
theorem dL_law_336 : decode cL_law 336 = .ok (.iload 6, 2) := by decide +kernel
theorem dL_law_338 : decode cL_law 338 = .ok (.ifCond .eq 7, 3) := by decide +kernel
theorem dL_law_341 : decode cL_law 341 = .ok (.lconst 1, 1) := by decide +kernel
theorem dL_law_342 : decode cL_law 342 = .ok (.goto 4, 3) := by decide +kernel
theorem dL_law_345 : decode cL_law 345 = .ok (.lconst 0, 1) := by decide +kernel
theorem dL_law_346 : decode cL_law 346 = .ok (.lcmp, 1) := by decide +kernel
theorem dL_law_347 : decode cL_law 347 = .ok (.ifCond .eq 5, 3) := by decide +kernel
theorem dL_law_350 : decode cL_law 350 = .ok (.iconst 0, 1) := by decide +kernel
theorem dL_law_351 : decode cL_law 351 = .ok (.ireturn, 1) := by decide +kernel
theorem dL_law_352 : decode cL_law 352 = .ok (.goto 288, 3) := by decide +kernel
theorem dL_law_355 : decode cL_law 355 = .ok (.aload_n 1, 1) := by decide +kernel
theorem dL_law_356 : decode cL_law 356 = .ok (.aload_n 0, 1) := by decide +kernel
theorem dL_law_357 : decode cL_law 357 = .ok (.iload 4, 2) := by decide +kernel
theorem dL_law_359 : decode cL_law 359 = .ok (.iconst 1, 1) := by decide +kernel
theorem dL_law_360 : decode cL_law 360 = .ok (.iadd, 1) := by decide +kernel
theorem dL_law_361 : decode cL_law 361 = .ok (.iaload, 1) := by decide +kernel
theorem dL_law_362 : decode cL_law 362 = .ok (.aload_n 0, 1) := by decide +kernel
theorem dL_law_363 : decode cL_law 363 = .ok (.iload 4, 2) := by decide +kernel
theorem dL_law_365 : decode cL_law 365 = .ok (.iconst 2, 1) := by decide +kernel
theorem dL_law_366 : decode cL_law 366 = .ok (.iadd, 1) := by decide +kernel
theorem dL_law_367 : decode cL_law 367 = .ok (.iaload, 1) := by decide +kernel
theorem dL_law_368 : decode cL_law 368 = .ok (.invokevirtual 66, 3) := by decide +kernel
theorem dL_law_371 : decode cL_law 371 = .ok (.pop, 1) := by decide +kernel
theorem dL_law_372 : decode cL_law 372 = .ok (.aload_n 2, 1) := by decide +kernel
theorem dL_law_373 : decode cL_law 373 = .ok (.aload_n 0, 1) := by decide +kernel
theorem dL_law_374 : decode cL_law 374 = .ok (.iload 4, 2) := by decide +kernel
theorem dL_law_376 : decode cL_law 376 = .ok (.iconst 1, 1) := by decide +kernel
theorem dL_law_377 : decode cL_law 377 = .ok (.iadd, 1) := by decide +kernel
theorem dL_law_378 : decode cL_law 378 = .ok (.iaload, 1) := by decide +kernel
theorem dL_law_379 : decode cL_law 379 = .ok (.aload_n 0, 1) := by decide +kernel
theorem dL_law_380 : decode cL_law 380 = .ok (.iload 4, 2) := by decide +kernel
theorem dL_law_382 : decode cL_law 382 = .ok (.iconst 2, 1) := by decide +kernel
theorem dL_law_383 : decode cL_law 383 = .ok (.iadd, 1) := by decide +kernel
theorem dL_law_384 : decode cL_law 384 = .ok (.iaload, 1) := by decide +kernel
theorem dL_law_385 : decode cL_law 385 = .ok (.invokevirtual 70, 3) := by decide +kernel
theorem dL_law_388 : decode cL_law 388 = .ok (.pop, 1) := by decide +kernel
theorem dL_law_389 : decode cL_law 389 = .ok (.goto 251, 3) := by decide +kernel
theorem dL_law_392 : decode cL_law 392 = .ok (.aload_n 1, 1) := by decide +kernel
theorem dL_law_393 : decode cL_law 393 = .ok (.aload_n 0, 1) := by decide +kernel
theorem dL_law_394 : decode cL_law 394 = .ok (.iload 4, 2) := by decide +kernel
theorem dL_law_396 : decode cL_law 396 = .ok (.iconst 1, 1) := by decide +kernel
theorem dL_law_397 : decode cL_law 397 = .ok (.iadd, 1) := by decide +kernel
theorem dL_law_398 : decode cL_law 398 = .ok (.iaload, 1) := by decide +kernel
theorem dL_law_399 : decode cL_law 399 = .ok (.invokevirtual 71, 3) := by decide +kernel
theorem dL_law_402 : decode cL_law 402 = .ok (.pop2, 1) := by decide +kernel
theorem dL_law_403 : decode cL_law 403 = .ok (.aload_n 2, 1) := by decide +kernel
theorem dL_law_404 : decode cL_law 404 = .ok (.aload_n 0, 1) := by decide +kernel
theorem dL_law_405 : decode cL_law 405 = .ok (.iload 4, 2) := by decide +kernel
theorem dL_law_407 : decode cL_law 407 = .ok (.iconst 1, 1) := by decide +kernel
theorem dL_law_408 : decode cL_law 408 = .ok (.iadd, 1) := by decide +kernel
theorem dL_law_409 : decode cL_law 409 = .ok (.iaload, 1) := by decide +kernel
theorem dL_law_410 : decode cL_law 410 = .ok (.invokevirtual 75, 3) := by decide +kernel
theorem dL_law_413 : decode cL_law 413 = .ok (.pop2, 1) := by decide +kernel
theorem dL_law_414 : decode cL_law 414 = .ok (.goto 226, 3) := by decide +kernel
theorem dL_law_417 : decode cL_law 417 = .ok (.aload_n 1, 1) := by decide +kernel
theorem dL_law_418 : decode cL_law 418 = .ok (.aload_n 0, 1) := by decide +kernel
theorem dL_law_419 : decode cL_law 419 = .ok (.iload 4, 2) := by decide +kernel
theorem dL_law_421 : decode cL_law 421 = .ok (.iconst 1, 1) := by decide +kernel
theorem dL_law_422 : decode cL_law 422 = .ok (.iadd, 1) := by decide +kernel
theorem dL_law_423 : decode cL_law 423 = .ok (.iaload, 1) := by decide +kernel
theorem dL_law_424 : decode cL_law 424 = .ok (.aload_n 0, 1) := by decide +kernel
theorem dL_law_425 : decode cL_law 425 = .ok (.iload 4, 2) := by decide +kernel
theorem dL_law_427 : decode cL_law 427 = .ok (.iconst 2, 1) := by decide +kernel
theorem dL_law_428 : decode cL_law 428 = .ok (.iadd, 1) := by decide +kernel
theorem dL_law_429 : decode cL_law 429 = .ok (.iaload, 1) := by decide +kernel
theorem dL_law_430 : decode cL_law 430 = .ok (.invokevirtual 76, 3) := by decide +kernel
theorem dL_law_433 : decode cL_law 433 = .ok (.pop, 1) := by decide +kernel
theorem dL_law_434 : decode cL_law 434 = .ok (.aload_n 2, 1) := by decide +kernel
theorem dL_law_435 : decode cL_law 435 = .ok (.aload_n 0, 1) := by decide +kernel
theorem dL_law_436 : decode cL_law 436 = .ok (.iload 4, 2) := by decide +kernel
theorem dL_law_438 : decode cL_law 438 = .ok (.iconst 1, 1) := by decide +kernel
theorem dL_law_439 : decode cL_law 439 = .ok (.iadd, 1) := by decide +kernel
theorem dL_law_440 : decode cL_law 440 = .ok (.iaload, 1) := by decide +kernel
theorem dL_law_441 : decode cL_law 441 = .ok (.aload_n 0, 1) := by decide +kernel
theorem dL_law_442 : decode cL_law 442 = .ok (.iload 4, 2) := by decide +kernel
theorem dL_law_444 : decode cL_law 444 = .ok (.iconst 2, 1) := by decide +kernel
theorem dL_law_445 : decode cL_law 445 = .ok (.iadd, 1) := by decide +kernel
theorem dL_law_446 : decode cL_law 446 = .ok (.iaload, 1) := by decide +kernel
theorem dL_law_447 : decode cL_law 447 = .ok (.invokevirtual 79, 3) := by decide +kernel
theorem dL_law_450 : decode cL_law 450 = .ok (.pop, 1) := by decide +kernel
theorem dL_law_451 : decode cL_law 451 = .ok (.goto 189, 3) := by decide +kernel
theorem dL_law_454 : decode cL_law 454 = .ok (.aload_n 1, 1) := by decide +kernel
theorem dL_law_455 : decode cL_law 455 = .ok (.aload_n 0, 1) := by decide +kernel
theorem dL_law_456 : decode cL_law 456 = .ok (.iload 4, 2) := by decide +kernel
theorem dL_law_458 : decode cL_law 458 = .ok (.iconst 1, 1) := by decide +kernel
theorem dL_law_459 : decode cL_law 459 = .ok (.iadd, 1) := by decide +kernel
theorem dL_law_460 : decode cL_law 460 = .ok (.iaload, 1) := by decide +kernel
theorem dL_law_461 : decode cL_law 461 = .ok (.aload_n 0, 1) := by decide +kernel
theorem dL_law_462 : decode cL_law 462 = .ok (.iload 4, 2) := by decide +kernel
theorem dL_law_464 : decode cL_law 464 = .ok (.iconst 2, 1) := by decide +kernel
theorem dL_law_465 : decode cL_law 465 = .ok (.iadd, 1) := by decide +kernel
theorem dL_law_466 : decode cL_law 466 = .ok (.iaload, 1) := by decide +kernel
theorem dL_law_467 : decode cL_law 467 = .ok (.invokevirtual 80, 3) := by decide +kernel
theorem dL_law_470 : decode cL_law 470 = .ok (.pop, 1) := by decide +kernel
theorem dL_law_471 : decode cL_law 471 = .ok (.aload_n 2, 1) := by decide +kernel
theorem dL_law_472 : decode cL_law 472 = .ok (.aload_n 0, 1) := by decide +kernel
theorem dL_law_473 : decode cL_law 473 = .ok (.iload 4, 2) := by decide +kernel
theorem dL_law_475 : decode cL_law 475 = .ok (.iconst 1, 1) := by decide +kernel
theorem dL_law_476 : decode cL_law 476 = .ok (.iadd, 1) := by decide +kernel
theorem dL_law_477 : decode cL_law 477 = .ok (.iaload, 1) := by decide +kernel
theorem dL_law_478 : decode cL_law 478 = .ok (.aload_n 0, 1) := by decide +kernel
theorem dL_law_479 : decode cL_law 479 = .ok (.iload 4, 2) := by decide +kernel
theorem dL_law_481 : decode cL_law 481 = .ok (.iconst 2, 1) := by decide +kernel
theorem dL_law_482 : decode cL_law 482 = .ok (.iadd, 1) := by decide +kernel
theorem dL_law_483 : decode cL_law 483 = .ok (.iaload, 1) := by decide +kernel
theorem dL_law_484 : decode cL_law 484 = .ok (.invokevirtual 83, 3) := by decide +kernel
theorem dL_law_487 : decode cL_law 487 = .ok (.pop, 1) := by decide +kernel
theorem dL_law_488 : decode cL_law 488 = .ok (.goto 152, 3) := by decide +kernel
theorem dL_law_491 : decode cL_law 491 = .ok (.aload_n 1, 1) := by decide +kernel
theorem dL_law_492 : decode cL_law 492 = .ok (.aload_n 0, 1) := by decide +kernel
theorem dL_law_493 : decode cL_law 493 = .ok (.iload 4, 2) := by decide +kernel
theorem dL_law_495 : decode cL_law 495 = .ok (.iconst 1, 1) := by decide +kernel
theorem dL_law_496 : decode cL_law 496 = .ok (.iadd, 1) := by decide +kernel
theorem dL_law_497 : decode cL_law 497 = .ok (.iaload, 1) := by decide +kernel
theorem dL_law_498 : decode cL_law 498 = .ok (.aload_n 0, 1) := by decide +kernel
theorem dL_law_499 : decode cL_law 499 = .ok (.iload 4, 2) := by decide +kernel
theorem dL_law_501 : decode cL_law 501 = .ok (.iconst 2, 1) := by decide +kernel
theorem dL_law_502 : decode cL_law 502 = .ok (.iadd, 1) := by decide +kernel
theorem dL_law_503 : decode cL_law 503 = .ok (.iaload, 1) := by decide +kernel
theorem dL_law_504 : decode cL_law 504 = .ok (.invokevirtual 84, 3) := by decide +kernel
theorem dL_law_507 : decode cL_law 507 = .ok (.pop, 1) := by decide +kernel
theorem dL_law_508 : decode cL_law 508 = .ok (.aload_n 2, 1) := by decide +kernel
theorem dL_law_509 : decode cL_law 509 = .ok (.aload_n 0, 1) := by decide +kernel
theorem dL_law_510 : decode cL_law 510 = .ok (.iload 4, 2) := by decide +kernel
theorem dL_law_512 : decode cL_law 512 = .ok (.iconst 1, 1) := by decide +kernel
theorem dL_law_513 : decode cL_law 513 = .ok (.iadd, 1) := by decide +kernel
theorem dL_law_514 : decode cL_law 514 = .ok (.iaload, 1) := by decide +kernel
theorem dL_law_515 : decode cL_law 515 = .ok (.aload_n 0, 1) := by decide +kernel
theorem dL_law_516 : decode cL_law 516 = .ok (.iload 4, 2) := by decide +kernel
theorem dL_law_518 : decode cL_law 518 = .ok (.iconst 2, 1) := by decide +kernel
theorem dL_law_519 : decode cL_law 519 = .ok (.iadd, 1) := by decide +kernel
theorem dL_law_520 : decode cL_law 520 = .ok (.iaload, 1) := by decide +kernel
theorem dL_law_521 : decode cL_law 521 = .ok (.invokevirtual 87, 3) := by decide +kernel
theorem dL_law_524 : decode cL_law 524 = .ok (.pop, 1) := by decide +kernel
theorem dL_law_525 : decode cL_law 525 = .ok (.goto 115, 3) := by decide +kernel
theorem dL_law_528 : decode cL_law 528 = .ok (.aload_n 1, 1) := by decide +kernel
theorem dL_law_529 : decode cL_law 529 = .ok (.aload_n 0, 1) := by decide +kernel
theorem dL_law_530 : decode cL_law 530 = .ok (.iload 4, 2) := by decide +kernel
theorem dL_law_532 : decode cL_law 532 = .ok (.iconst 1, 1) := by decide +kernel
theorem dL_law_533 : decode cL_law 533 = .ok (.iadd, 1) := by decide +kernel
theorem dL_law_534 : decode cL_law 534 = .ok (.iaload, 1) := by decide +kernel
theorem dL_law_535 : decode cL_law 535 = .ok (.aload_n 0, 1) := by decide +kernel
theorem dL_law_536 : decode cL_law 536 = .ok (.iload 4, 2) := by decide +kernel
theorem dL_law_538 : decode cL_law 538 = .ok (.iconst 2, 1) := by decide +kernel
theorem dL_law_539 : decode cL_law 539 = .ok (.iadd, 1) := by decide +kernel
theorem dL_law_540 : decode cL_law 540 = .ok (.iaload, 1) := by decide +kernel
theorem dL_law_541 : decode cL_law 541 = .ok (.invokevirtual 88, 3) := by decide +kernel
theorem dL_law_544 : decode cL_law 544 = .ok (.pop, 1) := by decide +kernel
theorem dL_law_545 : decode cL_law 545 = .ok (.aload_n 2, 1) := by decide +kernel
theorem dL_law_546 : decode cL_law 546 = .ok (.aload_n 0, 1) := by decide +kernel
theorem dL_law_547 : decode cL_law 547 = .ok (.iload 4, 2) := by decide +kernel
theorem dL_law_549 : decode cL_law 549 = .ok (.iconst 1, 1) := by decide +kernel
theorem dL_law_550 : decode cL_law 550 = .ok (.iadd, 1) := by decide +kernel
theorem dL_law_551 : decode cL_law 551 = .ok (.iaload, 1) := by decide +kernel
theorem dL_law_552 : decode cL_law 552 = .ok (.aload_n 0, 1) := by decide +kernel
theorem dL_law_553 : decode cL_law 553 = .ok (.iload 4, 2) := by decide +kernel
theorem dL_law_555 : decode cL_law 555 = .ok (.iconst 2, 1) := by decide +kernel
theorem dL_law_556 : decode cL_law 556 = .ok (.iadd, 1) := by decide +kernel
theorem dL_law_557 : decode cL_law 557 = .ok (.iaload, 1) := by decide +kernel
theorem dL_law_558 : decode cL_law 558 = .ok (.invokevirtual 91, 3) := by decide +kernel
theorem dL_law_561 : decode cL_law 561 = .ok (.pop, 1) := by decide +kernel
theorem dL_law_562 : decode cL_law 562 = .ok (.goto 78, 3) := by decide +kernel
theorem dL_law_565 : decode cL_law 565 = .ok (.aload_n 1, 1) := by decide +kernel
theorem dL_law_566 : decode cL_law 566 = .ok (.aload_n 0, 1) := by decide +kernel
theorem dL_law_567 : decode cL_law 567 = .ok (.iload 4, 2) := by decide +kernel
theorem dL_law_569 : decode cL_law 569 = .ok (.iconst 1, 1) := by decide +kernel
theorem dL_law_570 : decode cL_law 570 = .ok (.iadd, 1) := by decide +kernel
theorem dL_law_571 : decode cL_law 571 = .ok (.iaload, 1) := by decide +kernel
theorem dL_law_572 : decode cL_law 572 = .ok (.aload_n 0, 1) := by decide +kernel
theorem dL_law_573 : decode cL_law 573 = .ok (.iload 4, 2) := by decide +kernel
theorem dL_law_575 : decode cL_law 575 = .ok (.iconst 2, 1) := by decide +kernel
theorem dL_law_576 : decode cL_law 576 = .ok (.iadd, 1) := by decide +kernel
theorem dL_law_577 : decode cL_law 577 = .ok (.iaload, 1) := by decide +kernel
theorem dL_law_578 : decode cL_law 578 = .ok (.invokevirtual 92, 3) := by decide +kernel
theorem dL_law_581 : decode cL_law 581 = .ok (.pop, 1) := by decide +kernel
theorem dL_law_582 : decode cL_law 582 = .ok (.aload_n 2, 1) := by decide +kernel
theorem dL_law_583 : decode cL_law 583 = .ok (.aload_n 0, 1) := by decide +kernel
theorem dL_law_584 : decode cL_law 584 = .ok (.iload 4, 2) := by decide +kernel
theorem dL_law_586 : decode cL_law 586 = .ok (.iconst 1, 1) := by decide +kernel
theorem dL_law_587 : decode cL_law 587 = .ok (.iadd, 1) := by decide +kernel
theorem dL_law_588 : decode cL_law 588 = .ok (.iaload, 1) := by decide +kernel
theorem dL_law_589 : decode cL_law 589 = .ok (.aload_n 0, 1) := by decide +kernel
theorem dL_law_590 : decode cL_law 590 = .ok (.iload 4, 2) := by decide +kernel
theorem dL_law_592 : decode cL_law 592 = .ok (.iconst 2, 1) := by decide +kernel
theorem dL_law_593 : decode cL_law 593 = .ok (.iadd, 1) := by decide +kernel
theorem dL_law_594 : decode cL_law 594 = .ok (.iaload, 1) := by decide +kernel
theorem dL_law_595 : decode cL_law 595 = .ok (.invokevirtual 95, 3) := by decide +kernel
theorem dL_law_598 : decode cL_law 598 = .ok (.pop, 1) := by decide +kernel
theorem dL_law_599 : decode cL_law 599 = .ok (.goto 41, 3) := by decide +kernel
theorem dL_law_602 : decode cL_law 602 = .ok (.aload_n 1, 1) := by decide +kernel
theorem dL_law_603 : decode cL_law 603 = .ok (.aload_n 0, 1) := by decide +kernel
theorem dL_law_604 : decode cL_law 604 = .ok (.iload 4, 2) := by decide +kernel
theorem dL_law_606 : decode cL_law 606 = .ok (.iconst 1, 1) := by decide +kernel
theorem dL_law_607 : decode cL_law 607 = .ok (.iadd, 1) := by decide +kernel
theorem dL_law_608 : decode cL_law 608 = .ok (.iaload, 1) := by decide +kernel
theorem dL_law_609 : decode cL_law 609 = .ok (.invokevirtual 96, 3) := by decide +kernel
theorem dL_law_612 : decode cL_law 612 = .ok (.pop, 1) := by decide +kernel
theorem dL_law_613 : decode cL_law 613 = .ok (.aload_n 2, 1) := by decide +kernel
theorem dL_law_614 : decode cL_law 614 = .ok (.aload_n 0, 1) := by decide +kernel
theorem dL_law_615 : decode cL_law 615 = .ok (.iload 4, 2) := by decide +kernel
theorem dL_law_617 : decode cL_law 617 = .ok (.iconst 1, 1) := by decide +kernel
theorem dL_law_618 : decode cL_law 618 = .ok (.iadd, 1) := by decide +kernel
theorem dL_law_619 : decode cL_law 619 = .ok (.iaload, 1) := by decide +kernel
theorem dL_law_620 : decode cL_law 620 = .ok (.invokevirtual 99, 3) := by decide +kernel
theorem dL_law_623 : decode cL_law 623 = .ok (.pop, 1) := by decide +kernel
theorem dL_law_624 : decode cL_law 624 = .ok (.goto 16, 3) := by decide +kernel
theorem dL_law_627 : decode cL_law 627 = .ok (.aload_n 1, 1) := by decide +kernel
theorem dL_law_628 : decode cL_law 628 = .ok (.invokevirtual 100, 3) := by decide +kernel
theorem dL_law_631 : decode cL_law 631 = .ok (.pop, 1) := by decide +kernel
theorem dL_law_632 : decode cL_law 632 = .ok (.aload_n 2, 1) := by decide +kernel
theorem dL_law_633 : decode cL_law 633 = .ok (.invokevirtual 103, 3) := by decide +kernel
theorem dL_law_636 : decode cL_law 636 = .ok (.pop, 1) := by decide +kernel
theorem dL_law_637 : decode cL_law 637 = .ok (.goto 3, 3) := by decide +kernel
theorem dL_law_640 : decode cL_law 640 = .ok (.iinc 4 5, 3) := by decide +kernel
theorem dL_law_643 : decode cL_law 643 = .ok (.goto (-610), 3) := by decide +kernel
theorem dL_law_646 : decode cL_law 646 = .ok (.iconst 1, 1) := by decide +kernel
theorem dL_law_647 : decode cL_law 647 = .ok (.ireturn, 1) := by decide +kernel
theorem dJ9_max_7cf53_0 : decode cJ9_max_7cf53 0 = .ok (.iload_n 0, 1) := by decide +kernel
theorem dJ9_max_7cf53_1 : decode cJ9_max_7cf53 1 = .ok (.iload_n 1, 1) := by decide +kernel
theorem dJ9_max_7cf53_2 : decode cJ9_max_7cf53 2 = .ok (.if_icmp .lt 7, 3) := by decide +kernel
theorem dJ9_max_7cf53_5 : decode cJ9_max_7cf53 5 = .ok (.iload_n 0, 1) := by decide +kernel
theorem dJ9_max_7cf53_6 : decode cJ9_max_7cf53 6 = .ok (.goto 4, 3) := by decide +kernel
theorem dJ9_max_7cf53_9 : decode cJ9_max_7cf53 9 = .ok (.iload_n 1, 1) := by decide +kernel
theorem dJ9_max_7cf53_10 : decode cJ9_max_7cf53 10 = .ok (.ireturn, 1) := by decide +kernel
theorem dJ9_max_f86c9_0 : decode cJ9_max_f86c9 0 = .ok (.lload_n 0, 1) := by decide +kernel
theorem dJ9_max_f86c9_1 : decode cJ9_max_f86c9 1 = .ok (.lload_n 2, 1) := by decide +kernel
theorem dJ9_max_f86c9_2 : decode cJ9_max_f86c9 2 = .ok (.lcmp, 1) := by decide +kernel
theorem dJ9_max_f86c9_3 : decode cJ9_max_f86c9 3 = .ok (.ifCond .lt 7, 3) := by decide +kernel
theorem dJ9_max_f86c9_6 : decode cJ9_max_f86c9 6 = .ok (.lload_n 0, 1) := by decide +kernel
theorem dJ9_max_f86c9_7 : decode cJ9_max_f86c9 7 = .ok (.goto 4, 3) := by decide +kernel
theorem dJ9_max_f86c9_10 : decode cJ9_max_f86c9 10 = .ok (.lload_n 2, 1) := by decide +kernel
theorem dJ9_max_f86c9_11 : decode cJ9_max_f86c9 11 = .ok (.lreturn, 1) := by decide +kernel
end
section
/-- the array kinds of the worlds -/
abbrev gTy (cI cZ cN cO : ClassId) : List (ClassId × FieldType) := [(cI, .int), (cZ, .boolean), (cN, .object RX0), (cO, .object RX1)]
/-- k is a place of 0 .. n - 1, as the code tests it -/
abbrev isN (n : Nat) (k : Int32) : Prop := ¬ k < 0 ∧ ¬ nI n ≤ k
theorem isN_in {n : Nat} {k : Int32} (hn : n < 2 ^ 31) (h : isN n k) : vp_in k n := by
  rw [vp_in_iff]
  have h1 : ¬ k.toInt < 0 := fun q => h.1 (by rw [Int32.lt_iff_toInt_lt, Int32.toInt_zero]; exact q)
  have h2 : ¬ (n : Int) ≤ k.toInt := fun q => h.2 (by rw [Int32.le_iff_toInt_le, nI_toInt hn]; exact q)
  omega
theorem isN_of {n : Nat} {k : Int32} (hn : n < 2 ^ 31) (h : isN n k) : ∃ j : Nat, j < n ∧ k = nI j := vp_in_of (isN_in hn h) hn
theorem ite_ne0 {P : Prop} [Decidable P] {r : Int32} (h : r = if P then 1 else 0) (c : ¬ r = 0) : P := by
  by_cases q : P
  · exact q
  · rw [if_neg q] at h; exact absurd h c
theorem ite_eq0 {P : Prop} [Decidable P] {r : Int32} (h : r = if P then 1 else 0) (c : r = 0) : ¬ P := by
  intro q
  rw [if_pos q] at h; rw [h] at c; exact absurd c (by decide)
theorem gK_arr {D : va_G} {cl : List vw_C} {tys : List (ClassId × FieldType)} {s : State} {cA cB : ClassId} {ty : FieldType} (h : va_K D cl (tys ++ [(cA, ty)]) s) (t0 : Nat) (ht : tys[t0]? = some (cB, ty)) : cA = cB := by
  have h1 := (h.2 tys.length (cA, ty) (by simp)).2
  have h2 := (h.2 t0 (cB, ty) (by rw [List.getElem?_append_left (List.getElem?_eq_some_iff.mp ht).1]; exact ht)).2
  cases ty with
  | object C =>
    obtain ⟨_, _, _, _, _, h1⟩ := h1
    obtain ⟨_, _, _, _, _, h2⟩ := h2
    exact Option.some.inj (h1.symm.trans h2)
  | _ => exact Option.some.inj ((show s.vm.findClass _ = some cA from h1).symm.trans h2)
theorem nI_2000 : nI 2000 = 2000 := by decide +kernel
theorem nI_mul (a b : Nat) : nI a * nI b = nI (a * b) := (Int32.ofNat_mul a b).symm
theorem upd_self (f : Nat → Int32) (k : Nat) (x : Int32) : upd f k x k = x := by simp [upd]
theorem upd_ne {f : Nat → Int32} {k j : Nat} (x : Int32) (h : ¬ j = k) : upd f k x j = f j := by simp [upd, h]
theorem gCut {p : Program} {l : Launch} {e : Env} {R : Room} {s : State} {m : MethodId} {args : Array Value} {below : List Frame} {meth : Method} {c : Code} {H : Heap} {locs : List Loc} {cells slots : Nat} {Q : State → Prop} {g g2 : JFrame} (k : W p l e R s m args below meth c H locs cells slots Q g2) (h : W p l e R s m args below meth c H locs cells slots Q g2 → W p l e R s m args below meth c H locs cells slots Q g) : W p l e R s m args below meth c H locs cells slots Q g := h k
/-- how many NODES a first number makes -/
def gN (k : Int32) : Nat := if k < 3 ∨ ¬ k ≤ 31 then 3 else k.toNatClampNeg
theorem gN_a {k : Int32} (h : k < 3) : nI (gN k) = 3 := by unfold gN; rw [if_pos (Or.inl h)]; decide +kernel
theorem gN_b {k : Int32} (h : ¬ k ≤ 31) : nI (gN k) = 3 := by unfold gN; rw [if_pos (Or.inr h)]; decide +kernel
theorem gN_rng {k : Int32} (h1 : ¬ k < 3) (h2 : k ≤ 31) : ∃ j : Nat, 3 ≤ j ∧ j ≤ 31 ∧ k = nI j := by
  have h3 : ¬ k.toInt < 3 := fun q => h1 (by rw [Int32.lt_iff_toInt_lt]; exact q)
  have h4 : k.toInt ≤ 31 := by rw [Int32.le_iff_toInt_le] at h2; exact h2
  obtain ⟨j, hj, rfl⟩ := nI_of (x := k) (fun q => by rw [Int32.lt_iff_toInt_lt, Int32.toInt_zero] at q; omega)
  rw [nI_toInt hj] at h3 h4
  exact ⟨j, by omega, by omega, rfl⟩
theorem gN_c {k : Int32} (h1 : ¬ k < 3) (h2 : k ≤ 31) : nI (gN k) = k := by
  obtain ⟨j, hj, hj2, rfl⟩ := gN_rng h1 h2
  unfold gN; rw [if_neg (fun q => q.elim h1 (fun z => z h2)), nI_clamp (by omega)]
theorem gN_bd (k : Int32) : 3 ≤ gN k ∧ gN k ≤ 31 := by
  by_cases h : k < 3 ∨ ¬ k ≤ 31
  · unfold gN; rw [if_pos h]; omega
  · obtain ⟨j, hj, hj2, rfl⟩ := gN_rng (fun q => h (Or.inl q)) (by by_cases q : k ≤ 31; exact q; exact absurd (Or.inr q) h)
    unfold gN; rw [if_neg h, nI_clamp (by omega)]; omega
/-- the cells of k new NODES, six a NODE -/
def gNodes (cI : ClassId) (n k : Nat) (fn : Nat → Option Nat) (P : va_W) : Prop := P.length = 6 * k ∧ ∀ j, j < k → ∃ nd a1 a2 a3 a4 a5 : Nat, fn j = some nd ∧ P[6 * j]? = some (nd, .inr (0, [.int (nI j), .ref a1, .ref a2, .ref a3, .ref a4, .ref a5, .int 1, .int 0, .int 0, .int 0, .null])) ∧ P[6 * j + 1]? = some (a1, .inl (cI, n, .inl (fun _ => 0))) ∧ P[6 * j + 2]? = some (a2, .inl (cI, n, .inl (fun _ => 0))) ∧ P[6 * j + 3]? = some (a3, .inl (cI, n, .inl (fun _ => 0))) ∧ P[6 * j + 4]? = some (a4, .inl (cI, n, .inl (fun _ => 0))) ∧ P[6 * j + 5]? = some (a5, .inl (cI, n, .inl (fun _ => 0)))
theorem gNodes_0 (cI : ClassId) (n : Nat) (fn : Nat → Option Nat) : gNodes cI n 0 fn [] := ⟨rfl, fun j hj => absurd hj (Nat.not_lt_zero j)⟩
theorem gNodes_push {cI : ClassId} {n k : Nat} {fn : Nat → Option Nat} {P : va_W} (h : gNodes cI n k fn P) (nd a1 a2 a3 a4 a5 : Nat) : gNodes cI n (k + 1) (va_up fn k (some nd)) (P ++ [(nd, .inr (0, [.int (nI k), .ref a1, .ref a2, .ref a3, .ref a4, .ref a5, .int 1, .int 0, .int 0, .int 0, .null])), (a1, .inl (cI, n, .inl (fun _ => 0))), (a2, .inl (cI, n, .inl (fun _ => 0))), (a3, .inl (cI, n, .inl (fun _ => 0))), (a4, .inl (cI, n, .inl (fun _ => 0))), (a5, .inl (cI, n, .inl (fun _ => 0)))]) := by
  obtain ⟨h1, h2⟩ := h
  refine ⟨by simp [h1]; omega, fun j hj => ?_⟩
  by_cases hjk : j = k
  · subst hjk
    refine ⟨nd, a1, a2, a3, a4, a5, by simp [va_up], ?_, ?_, ?_, ?_, ?_, ?_⟩ <;> (rw [List.getElem?_append_right (by omega), h1]) <;> (simp)
  · obtain ⟨nd', c1, c2, c3, c4, c5, e0, e1, e2, e3, e4, e5, e6⟩ := h2 j (by omega)
    refine ⟨nd', c1, c2, c3, c4, c5, by simp [va_up, hjk, e0], ?_, ?_, ?_, ?_, ?_, ?_⟩ <;> (rw [List.getElem?_append_left (by omega)]) <;> assumption
theorem gSw (x : Int32) (h : Nat) (hi : Int) (he : (h : Int) = hi) (hb : h < 2 ^ 31) : (x.toInt < 0 ∨ hi < x.toInt) ∨ ∃ j : Nat, j ≤ h ∧ x = nI j := by
  by_cases q : x.toInt < 0 ∨ hi < x.toInt
  · exact Or.inl q
  · obtain ⟨j, hj, rfl⟩ := nI_of (x := x) (fun z => by rw [Int32.lt_iff_toInt_lt, Int32.toInt_zero] at z; omega)
    rw [nI_toInt hj] at q
    exact Or.inr ⟨j, by omega, rfl⟩
/-- what a fresh NODE tells -/
def fNode (w : Int32) : Int32 := if w.toInt < 0 ∨ 5 < w.toInt then -1 else if w = 0 then 1 else 0
/-- what a fresh object counts -/
def fCount (n : Nat) (w : Int32) : Int32 := if w.toInt < 0 ∨ 9 < w.toInt then -1 else if w = 0 ∨ w = 1 then nI n else 0
theorem gMod {i : Nat} (h : i < 2000) : (0 : Int32) + nI i - ((0 : Int32) + nI i) / 2000 * 2000 = nI i := by
  have h0 : (0 : Int32) + nI i = nI i := by rw [← nI_0, nI_add, Nat.zero_add]
  rw [h0]
  apply Int32.toInt_inj.mp
  rw [rem_toInt, nI_toInt (by omega)]
  exact Int.tmod_eq_of_lt (by omega) (by show (i : Int) < 2000; omega)
end
section
/-- a state of the reference: its numbers and its rows, by the places of the fields -/
abbrev RS : Type := (Nat → Int32) × (Nat → Nat → Int32)
def rF (d : Nat → Nat) (si : Nat → Int32) : List Value := [.int (si 0), .int (si 1), .ref (d 2), .ref (d 3), .ref (d 4), .ref (d 5), .ref (d 6), .ref (d 7), .ref (d 8), .int (si 9), .int (si 10), .int (si 11), .int (si 12), .ref (d 13), .ref (d 14), .ref (d 15), .ref (d 16), .ref (d 17), .ref (d 18), .ref (d 19), .ref (d 20), .ref (d 21), .ref (d 22), .ref (d 23), .ref (d 24), .ref (d 25), .ref (d 26), .ref (d 27), .ref (d 28), .ref (d 29), .ref (d 30), .ref (d 31), .ref (d 32), .ref (d 33), .ref (d 34), .ref (d 35), .ref (d 36), .int (si 37), .int (si 38), .ref (d 39), .int (si 40)]
def rW (cI cZ : ClassId) (mm : Nat) (d : Nat → Nat) (σ : RS) : va_W := [(mm, .inr (4, rF d σ.1)), (d 2, .inl (cI, 2001, .inl (σ.2 2))), (d 3, .inl (cI, 2001, .inl (σ.2 3))), (d 4, .inl (cI, 2001, .inl (σ.2 4))), (d 5, .inl (cI, 2001, .inl (σ.2 5))), (d 6, .inl (cI, 62031, .inl (σ.2 6))), (d 7, .inl (cZ, 2001, .inl (σ.2 7))), (d 8, .inl (cI, 2001, .inl (σ.2 8))), (d 13, .inl (cZ, 31, .inl (σ.2 13))), (d 14, .inl (cI, 31, .inl (σ.2 14))), (d 15, .inl (cI, 31, .inl (σ.2 15))), (d 16, .inl (cI, 31, .inl (σ.2 16))), (d 17, .inl (cI, 31, .inl (σ.2 17))), (d 18, .inl (cI, 961, .inl (σ.2 18))), (d 19, .inl (cI, 31, .inl (σ.2 19))), (d 20, .inl (cI, 15872, .inl (σ.2 20))), (d 21, .inl (cI, 961, .inl (σ.2 21))), (d 22, .inl (cI, 961, .inl (σ.2 22))), (d 23, .inl (cI, 961, .inl (σ.2 23))), (d 24, .inl (cZ, 31, .inl (σ.2 24))), (d 25, .inl (cI, 961, .inl (σ.2 25))), (d 26, .inl (cI, 512, .inl (σ.2 26))), (d 27, .inl (cI, 512, .inl (σ.2 27))), (d 28, .inl (cI, 512, .inl (σ.2 28))), (d 29, .inl (cI, 512, .inl (σ.2 29))), (d 30, .inl (cI, 512, .inl (σ.2 30))), (d 31, .inl (cI, 512, .inl (σ.2 31))), (d 32, .inl (cI, 512, .inl (σ.2 32))), (d 33, .inl (cI, 512, .inl (σ.2 33))), (d 34, .inl (cI, 512, .inl (σ.2 34))), (d 35, .inl (cI, 15872, .inl (σ.2 35))), (d 36, .inl (cZ, 512, .inl (σ.2 36))), (d 39, .inl (cI, 512, .inl (σ.2 39)))]
def rI (σ : RS) (k : Nat) (v : Int32) : RS := (va_up σ.1 k v, σ.2)
def rA (σ : RS) (k i : Nat) (v : Int32) : RS := (σ.1, va_up σ.2 k (upd (σ.2 k) i v))
def rWd (D : va_G) (cI cZ : ClassId) (A : Nat → Prop) (H0 : Heap) (mm : Nat) (d : Nat → Nat) (σ : RS) (H : Heap) (locs : List Loc) : Prop := va_P D vwCl (rW cI cZ mm d σ) H ∧ va_D A (rW cI cZ mm d σ) ∧ va_S A H0 H locs
/-- what a walk has at hand -/
def Cx (p : Program) (c : Code) (cc : ByteArray) (s : State) (m : MethodId) (args : Array Value) (own : String) (D : va_G) (tys : List (ClassId × FieldType)) : Prop := p.tables.exec = Jvm.exec ∧ c.code = cc ∧ s.vm.findClass own = some m.cls ∧ (∀ w ∈ gw, w.before args s = true) ∧ va_K D vwCl tys s
section RR
variable {p : Program} {l : Launch} {e : Env} {R : Room} {s : State} {m : MethodId} {args : Array Value} {below : List Frame} {meth : Method} {c : Code} {H : Heap} {locs : List Loc} {cells slots : Nat} {Q : State → Prop} {cc : ByteArray} {pc : Nat} {ls : Array Slot} {rest : List Value} {D : va_G} {cI cZ cN cO : ClassId} {A : Nat → Prop} {H0 : Heap} {mm : Nat} {d : Nat → Nat} {σ : RS}
theorem r_get_0 (C : Cx p c cc s m args RX4 D (gTy cI cZ cN cO)) (w : rWd D cI cZ A H0 mm d σ H locs) (hdg : decode cc pc = .ok (.getfield 108, 3)) (kk : W p l e R s m args below meth c H locs cells slots Q (F0 m (pc + 3) ls (.int (σ.1 0) :: rest))) : W p l e R s m args below meth c H locs cells slots Q (F0 m pc ls (.ref mm :: rest)) := va_get (D := D) (ci := 4) (v := .int (σ.1 0)) (C := RX4) (T := TX4) (N := 41) C.1 C.2.1 C.2.2.2.1 inX4 C.2.2.1 C.2.2.2.2 w.1 0 rfl rfl 0 (by decide) (C.2.2.2.1 _ kF_X4_108) (fun _ h9 => h9) rfl hdg kk
theorem r_get_1 (C : Cx p c cc s m args RX4 D (gTy cI cZ cN cO)) (w : rWd D cI cZ A H0 mm d σ H locs) (hdg : decode cc pc = .ok (.getfield 112, 3)) (kk : W p l e R s m args below meth c H locs cells slots Q (F0 m (pc + 3) ls (.int (σ.1 1) :: rest))) : W p l e R s m args below meth c H locs cells slots Q (F0 m pc ls (.ref mm :: rest)) := va_get (D := D) (ci := 4) (v := .int (σ.1 1)) (C := RX4) (T := TX4) (N := 41) C.1 C.2.1 C.2.2.2.1 inX4 C.2.2.1 C.2.2.2.2 w.1 0 rfl rfl 1 (by decide) (C.2.2.2.1 _ kF_X4_112) (fun _ h9 => h9) rfl hdg kk
theorem r_get_2 (C : Cx p c cc s m args RX4 D (gTy cI cZ cN cO)) (w : rWd D cI cZ A H0 mm d σ H locs) (hdg : decode cc pc = .ok (.getfield 7, 3)) (kk : W p l e R s m args below meth c H locs cells slots Q (F0 m (pc + 3) ls (.ref (d 2) :: rest))) : W p l e R s m args below meth c H locs cells slots Q (F0 m pc ls (.ref mm :: rest)) := va_get (D := D) (ci := 4) (v := .ref (d 2)) (C := RX4) (T := TX4) (N := 41) C.1 C.2.1 C.2.2.2.1 inX4 C.2.2.1 C.2.2.2.2 w.1 0 rfl rfl 2 (by decide) (C.2.2.2.1 _ kF_X4_7) (fun _ h9 => h9) rfl hdg kk
theorem r_get_3 (C : Cx p c cc s m args RX4 D (gTy cI cZ cN cO)) (w : rWd D cI cZ A H0 mm d σ H locs) (hdg : decode cc pc = .ok (.getfield 13, 3)) (kk : W p l e R s m args below meth c H locs cells slots Q (F0 m (pc + 3) ls (.ref (d 3) :: rest))) : W p l e R s m args below meth c H locs cells slots Q (F0 m pc ls (.ref mm :: rest)) := va_get (D := D) (ci := 4) (v := .ref (d 3)) (C := RX4) (T := TX4) (N := 41) C.1 C.2.1 C.2.2.2.1 inX4 C.2.2.1 C.2.2.2.2 w.1 0 rfl rfl 3 (by decide) (C.2.2.2.1 _ kF_X4_13) (fun _ h9 => h9) rfl hdg kk
theorem r_get_4 (C : Cx p c cc s m args RX4 D (gTy cI cZ cN cO)) (w : rWd D cI cZ A H0 mm d σ H locs) (hdg : decode cc pc = .ok (.getfield 16, 3)) (kk : W p l e R s m args below meth c H locs cells slots Q (F0 m (pc + 3) ls (.ref (d 4) :: rest))) : W p l e R s m args below meth c H locs cells slots Q (F0 m pc ls (.ref mm :: rest)) := va_get (D := D) (ci := 4) (v := .ref (d 4)) (C := RX4) (T := TX4) (N := 41) C.1 C.2.1 C.2.2.2.1 inX4 C.2.2.1 C.2.2.2.2 w.1 0 rfl rfl 4 (by decide) (C.2.2.2.1 _ kF_X4_16) (fun _ h9 => h9) rfl hdg kk
theorem r_get_5 (C : Cx p c cc s m args RX4 D (gTy cI cZ cN cO)) (w : rWd D cI cZ A H0 mm d σ H locs) (hdg : decode cc pc = .ok (.getfield 19, 3)) (kk : W p l e R s m args below meth c H locs cells slots Q (F0 m (pc + 3) ls (.ref (d 5) :: rest))) : W p l e R s m args below meth c H locs cells slots Q (F0 m pc ls (.ref mm :: rest)) := va_get (D := D) (ci := 4) (v := .ref (d 5)) (C := RX4) (T := TX4) (N := 41) C.1 C.2.1 C.2.2.2.1 inX4 C.2.2.1 C.2.2.2.2 w.1 0 rfl rfl 5 (by decide) (C.2.2.2.1 _ kF_X4_19) (fun _ h9 => h9) rfl hdg kk
theorem r_get_6 (C : Cx p c cc s m args RX4 D (gTy cI cZ cN cO)) (w : rWd D cI cZ A H0 mm d σ H locs) (hdg : decode cc pc = .ok (.getfield 23, 3)) (kk : W p l e R s m args below meth c H locs cells slots Q (F0 m (pc + 3) ls (.ref (d 6) :: rest))) : W p l e R s m args below meth c H locs cells slots Q (F0 m pc ls (.ref mm :: rest)) := va_get (D := D) (ci := 4) (v := .ref (d 6)) (C := RX4) (T := TX4) (N := 41) C.1 C.2.1 C.2.2.2.1 inX4 C.2.2.1 C.2.2.2.2 w.1 0 rfl rfl 6 (by decide) (C.2.2.2.1 _ kF_X4_23) (fun _ h9 => h9) rfl hdg kk
theorem r_get_7 (C : Cx p c cc s m args RX4 D (gTy cI cZ cN cO)) (w : rWd D cI cZ A H0 mm d σ H locs) (hdg : decode cc pc = .ok (.getfield 26, 3)) (kk : W p l e R s m args below meth c H locs cells slots Q (F0 m (pc + 3) ls (.ref (d 7) :: rest))) : W p l e R s m args below meth c H locs cells slots Q (F0 m pc ls (.ref mm :: rest)) := va_get (D := D) (ci := 4) (v := .ref (d 7)) (C := RX4) (T := TX4) (N := 41) C.1 C.2.1 C.2.2.2.1 inX4 C.2.2.1 C.2.2.2.2 w.1 0 rfl rfl 7 (by decide) (C.2.2.2.1 _ kF_X4_26) (fun _ h9 => h9) rfl hdg kk
theorem r_get_8 (C : Cx p c cc s m args RX4 D (gTy cI cZ cN cO)) (w : rWd D cI cZ A H0 mm d σ H locs) (hdg : decode cc pc = .ok (.getfield 30, 3)) (kk : W p l e R s m args below meth c H locs cells slots Q (F0 m (pc + 3) ls (.ref (d 8) :: rest))) : W p l e R s m args below meth c H locs cells slots Q (F0 m pc ls (.ref mm :: rest)) := va_get (D := D) (ci := 4) (v := .ref (d 8)) (C := RX4) (T := TX4) (N := 41) C.1 C.2.1 C.2.2.2.1 inX4 C.2.2.1 C.2.2.2.2 w.1 0 rfl rfl 8 (by decide) (C.2.2.2.1 _ kF_X4_30) (fun _ h9 => h9) rfl hdg kk
theorem r_get_9 (C : Cx p c cc s m args RX4 D (gTy cI cZ cN cO)) (w : rWd D cI cZ A H0 mm d σ H locs) (hdg : decode cc pc = .ok (.getfield 115, 3)) (kk : W p l e R s m args below meth c H locs cells slots Q (F0 m (pc + 3) ls (.int (σ.1 9) :: rest))) : W p l e R s m args below meth c H locs cells slots Q (F0 m pc ls (.ref mm :: rest)) := va_get (D := D) (ci := 4) (v := .int (σ.1 9)) (C := RX4) (T := TX4) (N := 41) C.1 C.2.1 C.2.2.2.1 inX4 C.2.2.1 C.2.2.2.2 w.1 0 rfl rfl 9 (by decide) (C.2.2.2.1 _ kF_X4_115) (fun _ h9 => h9) rfl hdg kk
theorem r_get_10 (C : Cx p c cc s m args RX4 D (gTy cI cZ cN cO)) (w : rWd D cI cZ A H0 mm d σ H locs) (hdg : decode cc pc = .ok (.getfield 118, 3)) (kk : W p l e R s m args below meth c H locs cells slots Q (F0 m (pc + 3) ls (.int (σ.1 10) :: rest))) : W p l e R s m args below meth c H locs cells slots Q (F0 m pc ls (.ref mm :: rest)) := va_get (D := D) (ci := 4) (v := .int (σ.1 10)) (C := RX4) (T := TX4) (N := 41) C.1 C.2.1 C.2.2.2.1 inX4 C.2.2.1 C.2.2.2.2 w.1 0 rfl rfl 10 (by decide) (C.2.2.2.1 _ kF_X4_118) (fun _ h9 => h9) rfl hdg kk
theorem r_get_11 (C : Cx p c cc s m args RX4 D (gTy cI cZ cN cO)) (w : rWd D cI cZ A H0 mm d σ H locs) (hdg : decode cc pc = .ok (.getfield 186, 3)) (kk : W p l e R s m args below meth c H locs cells slots Q (F0 m (pc + 3) ls (.int (σ.1 11) :: rest))) : W p l e R s m args below meth c H locs cells slots Q (F0 m pc ls (.ref mm :: rest)) := va_get (D := D) (ci := 4) (v := .int (σ.1 11)) (C := RX4) (T := TX4) (N := 41) C.1 C.2.1 C.2.2.2.1 inX4 C.2.2.1 C.2.2.2.2 w.1 0 rfl rfl 11 (by decide) (C.2.2.2.1 _ kF_X4_186) (fun _ h9 => h9) rfl hdg kk
theorem r_get_12 (C : Cx p c cc s m args RX4 D (gTy cI cZ cN cO)) (w : rWd D cI cZ A H0 mm d σ H locs) (hdg : decode cc pc = .ok (.getfield 136, 3)) (kk : W p l e R s m args below meth c H locs cells slots Q (F0 m (pc + 3) ls (.int (σ.1 12) :: rest))) : W p l e R s m args below meth c H locs cells slots Q (F0 m pc ls (.ref mm :: rest)) := va_get (D := D) (ci := 4) (v := .int (σ.1 12)) (C := RX4) (T := TX4) (N := 41) C.1 C.2.1 C.2.2.2.1 inX4 C.2.2.1 C.2.2.2.2 w.1 0 rfl rfl 12 (by decide) (C.2.2.2.1 _ kF_X4_136) (fun _ h9 => h9) rfl hdg kk
theorem r_get_13 (C : Cx p c cc s m args RX4 D (gTy cI cZ cN cO)) (w : rWd D cI cZ A H0 mm d σ H locs) (hdg : decode cc pc = .ok (.getfield 33, 3)) (kk : W p l e R s m args below meth c H locs cells slots Q (F0 m (pc + 3) ls (.ref (d 13) :: rest))) : W p l e R s m args below meth c H locs cells slots Q (F0 m pc ls (.ref mm :: rest)) := va_get (D := D) (ci := 4) (v := .ref (d 13)) (C := RX4) (T := TX4) (N := 41) C.1 C.2.1 C.2.2.2.1 inX4 C.2.2.1 C.2.2.2.2 w.1 0 rfl rfl 13 (by decide) (C.2.2.2.1 _ kF_X4_33) (fun _ h9 => h9) rfl hdg kk
theorem r_get_14 (C : Cx p c cc s m args RX4 D (gTy cI cZ cN cO)) (w : rWd D cI cZ A H0 mm d σ H locs) (hdg : decode cc pc = .ok (.getfield 36, 3)) (kk : W p l e R s m args below meth c H locs cells slots Q (F0 m (pc + 3) ls (.ref (d 14) :: rest))) : W p l e R s m args below meth c H locs cells slots Q (F0 m pc ls (.ref mm :: rest)) := va_get (D := D) (ci := 4) (v := .ref (d 14)) (C := RX4) (T := TX4) (N := 41) C.1 C.2.1 C.2.2.2.1 inX4 C.2.2.1 C.2.2.2.2 w.1 0 rfl rfl 14 (by decide) (C.2.2.2.1 _ kF_X4_36) (fun _ h9 => h9) rfl hdg kk
theorem r_get_15 (C : Cx p c cc s m args RX4 D (gTy cI cZ cN cO)) (w : rWd D cI cZ A H0 mm d σ H locs) (hdg : decode cc pc = .ok (.getfield 39, 3)) (kk : W p l e R s m args below meth c H locs cells slots Q (F0 m (pc + 3) ls (.ref (d 15) :: rest))) : W p l e R s m args below meth c H locs cells slots Q (F0 m pc ls (.ref mm :: rest)) := va_get (D := D) (ci := 4) (v := .ref (d 15)) (C := RX4) (T := TX4) (N := 41) C.1 C.2.1 C.2.2.2.1 inX4 C.2.2.1 C.2.2.2.2 w.1 0 rfl rfl 15 (by decide) (C.2.2.2.1 _ kF_X4_39) (fun _ h9 => h9) rfl hdg kk
theorem r_get_16 (C : Cx p c cc s m args RX4 D (gTy cI cZ cN cO)) (w : rWd D cI cZ A H0 mm d σ H locs) (hdg : decode cc pc = .ok (.getfield 42, 3)) (kk : W p l e R s m args below meth c H locs cells slots Q (F0 m (pc + 3) ls (.ref (d 16) :: rest))) : W p l e R s m args below meth c H locs cells slots Q (F0 m pc ls (.ref mm :: rest)) := va_get (D := D) (ci := 4) (v := .ref (d 16)) (C := RX4) (T := TX4) (N := 41) C.1 C.2.1 C.2.2.2.1 inX4 C.2.2.1 C.2.2.2.2 w.1 0 rfl rfl 16 (by decide) (C.2.2.2.1 _ kF_X4_42) (fun _ h9 => h9) rfl hdg kk
theorem r_get_17 (C : Cx p c cc s m args RX4 D (gTy cI cZ cN cO)) (w : rWd D cI cZ A H0 mm d σ H locs) (hdg : decode cc pc = .ok (.getfield 45, 3)) (kk : W p l e R s m args below meth c H locs cells slots Q (F0 m (pc + 3) ls (.ref (d 17) :: rest))) : W p l e R s m args below meth c H locs cells slots Q (F0 m pc ls (.ref mm :: rest)) := va_get (D := D) (ci := 4) (v := .ref (d 17)) (C := RX4) (T := TX4) (N := 41) C.1 C.2.1 C.2.2.2.1 inX4 C.2.2.1 C.2.2.2.2 w.1 0 rfl rfl 17 (by decide) (C.2.2.2.1 _ kF_X4_45) (fun _ h9 => h9) rfl hdg kk
theorem r_get_18 (C : Cx p c cc s m args RX4 D (gTy cI cZ cN cO)) (w : rWd D cI cZ A H0 mm d σ H locs) (hdg : decode cc pc = .ok (.getfield 48, 3)) (kk : W p l e R s m args below meth c H locs cells slots Q (F0 m (pc + 3) ls (.ref (d 18) :: rest))) : W p l e R s m args below meth c H locs cells slots Q (F0 m pc ls (.ref mm :: rest)) := va_get (D := D) (ci := 4) (v := .ref (d 18)) (C := RX4) (T := TX4) (N := 41) C.1 C.2.1 C.2.2.2.1 inX4 C.2.2.1 C.2.2.2.2 w.1 0 rfl rfl 18 (by decide) (C.2.2.2.1 _ kF_X4_48) (fun _ h9 => h9) rfl hdg kk
theorem r_get_19 (C : Cx p c cc s m args RX4 D (gTy cI cZ cN cO)) (w : rWd D cI cZ A H0 mm d σ H locs) (hdg : decode cc pc = .ok (.getfield 51, 3)) (kk : W p l e R s m args below meth c H locs cells slots Q (F0 m (pc + 3) ls (.ref (d 19) :: rest))) : W p l e R s m args below meth c H locs cells slots Q (F0 m pc ls (.ref mm :: rest)) := va_get (D := D) (ci := 4) (v := .ref (d 19)) (C := RX4) (T := TX4) (N := 41) C.1 C.2.1 C.2.2.2.1 inX4 C.2.2.1 C.2.2.2.2 w.1 0 rfl rfl 19 (by decide) (C.2.2.2.1 _ kF_X4_51) (fun _ h9 => h9) rfl hdg kk
theorem r_get_20 (C : Cx p c cc s m args RX4 D (gTy cI cZ cN cO)) (w : rWd D cI cZ A H0 mm d σ H locs) (hdg : decode cc pc = .ok (.getfield 54, 3)) (kk : W p l e R s m args below meth c H locs cells slots Q (F0 m (pc + 3) ls (.ref (d 20) :: rest))) : W p l e R s m args below meth c H locs cells slots Q (F0 m pc ls (.ref mm :: rest)) := va_get (D := D) (ci := 4) (v := .ref (d 20)) (C := RX4) (T := TX4) (N := 41) C.1 C.2.1 C.2.2.2.1 inX4 C.2.2.1 C.2.2.2.2 w.1 0 rfl rfl 20 (by decide) (C.2.2.2.1 _ kF_X4_54) (fun _ h9 => h9) rfl hdg kk
theorem r_get_21 (C : Cx p c cc s m args RX4 D (gTy cI cZ cN cO)) (w : rWd D cI cZ A H0 mm d σ H locs) (hdg : decode cc pc = .ok (.getfield 57, 3)) (kk : W p l e R s m args below meth c H locs cells slots Q (F0 m (pc + 3) ls (.ref (d 21) :: rest))) : W p l e R s m args below meth c H locs cells slots Q (F0 m pc ls (.ref mm :: rest)) := va_get (D := D) (ci := 4) (v := .ref (d 21)) (C := RX4) (T := TX4) (N := 41) C.1 C.2.1 C.2.2.2.1 inX4 C.2.2.1 C.2.2.2.2 w.1 0 rfl rfl 21 (by decide) (C.2.2.2.1 _ kF_X4_57) (fun _ h9 => h9) rfl hdg kk
theorem r_get_22 (C : Cx p c cc s m args RX4 D (gTy cI cZ cN cO)) (w : rWd D cI cZ A H0 mm d σ H locs) (hdg : decode cc pc = .ok (.getfield 60, 3)) (kk : W p l e R s m args below meth c H locs cells slots Q (F0 m (pc + 3) ls (.ref (d 22) :: rest))) : W p l e R s m args below meth c H locs cells slots Q (F0 m pc ls (.ref mm :: rest)) := va_get (D := D) (ci := 4) (v := .ref (d 22)) (C := RX4) (T := TX4) (N := 41) C.1 C.2.1 C.2.2.2.1 inX4 C.2.2.1 C.2.2.2.2 w.1 0 rfl rfl 22 (by decide) (C.2.2.2.1 _ kF_X4_60) (fun _ h9 => h9) rfl hdg kk
theorem r_get_23 (C : Cx p c cc s m args RX4 D (gTy cI cZ cN cO)) (w : rWd D cI cZ A H0 mm d σ H locs) (hdg : decode cc pc = .ok (.getfield 63, 3)) (kk : W p l e R s m args below meth c H locs cells slots Q (F0 m (pc + 3) ls (.ref (d 23) :: rest))) : W p l e R s m args below meth c H locs cells slots Q (F0 m pc ls (.ref mm :: rest)) := va_get (D := D) (ci := 4) (v := .ref (d 23)) (C := RX4) (T := TX4) (N := 41) C.1 C.2.1 C.2.2.2.1 inX4 C.2.2.1 C.2.2.2.2 w.1 0 rfl rfl 23 (by decide) (C.2.2.2.1 _ kF_X4_63) (fun _ h9 => h9) rfl hdg kk
theorem r_get_24 (C : Cx p c cc s m args RX4 D (gTy cI cZ cN cO)) (w : rWd D cI cZ A H0 mm d σ H locs) (hdg : decode cc pc = .ok (.getfield 66, 3)) (kk : W p l e R s m args below meth c H locs cells slots Q (F0 m (pc + 3) ls (.ref (d 24) :: rest))) : W p l e R s m args below meth c H locs cells slots Q (F0 m pc ls (.ref mm :: rest)) := va_get (D := D) (ci := 4) (v := .ref (d 24)) (C := RX4) (T := TX4) (N := 41) C.1 C.2.1 C.2.2.2.1 inX4 C.2.2.1 C.2.2.2.2 w.1 0 rfl rfl 24 (by decide) (C.2.2.2.1 _ kF_X4_66) (fun _ h9 => h9) rfl hdg kk
theorem r_get_25 (C : Cx p c cc s m args RX4 D (gTy cI cZ cN cO)) (w : rWd D cI cZ A H0 mm d σ H locs) (hdg : decode cc pc = .ok (.getfield 69, 3)) (kk : W p l e R s m args below meth c H locs cells slots Q (F0 m (pc + 3) ls (.ref (d 25) :: rest))) : W p l e R s m args below meth c H locs cells slots Q (F0 m pc ls (.ref mm :: rest)) := va_get (D := D) (ci := 4) (v := .ref (d 25)) (C := RX4) (T := TX4) (N := 41) C.1 C.2.1 C.2.2.2.1 inX4 C.2.2.1 C.2.2.2.2 w.1 0 rfl rfl 25 (by decide) (C.2.2.2.1 _ kF_X4_69) (fun _ h9 => h9) rfl hdg kk
theorem r_get_26 (C : Cx p c cc s m args RX4 D (gTy cI cZ cN cO)) (w : rWd D cI cZ A H0 mm d σ H locs) (hdg : decode cc pc = .ok (.getfield 72, 3)) (kk : W p l e R s m args below meth c H locs cells slots Q (F0 m (pc + 3) ls (.ref (d 26) :: rest))) : W p l e R s m args below meth c H locs cells slots Q (F0 m pc ls (.ref mm :: rest)) := va_get (D := D) (ci := 4) (v := .ref (d 26)) (C := RX4) (T := TX4) (N := 41) C.1 C.2.1 C.2.2.2.1 inX4 C.2.2.1 C.2.2.2.2 w.1 0 rfl rfl 26 (by decide) (C.2.2.2.1 _ kF_X4_72) (fun _ h9 => h9) rfl hdg kk
theorem r_get_27 (C : Cx p c cc s m args RX4 D (gTy cI cZ cN cO)) (w : rWd D cI cZ A H0 mm d σ H locs) (hdg : decode cc pc = .ok (.getfield 75, 3)) (kk : W p l e R s m args below meth c H locs cells slots Q (F0 m (pc + 3) ls (.ref (d 27) :: rest))) : W p l e R s m args below meth c H locs cells slots Q (F0 m pc ls (.ref mm :: rest)) := va_get (D := D) (ci := 4) (v := .ref (d 27)) (C := RX4) (T := TX4) (N := 41) C.1 C.2.1 C.2.2.2.1 inX4 C.2.2.1 C.2.2.2.2 w.1 0 rfl rfl 27 (by decide) (C.2.2.2.1 _ kF_X4_75) (fun _ h9 => h9) rfl hdg kk
theorem r_get_28 (C : Cx p c cc s m args RX4 D (gTy cI cZ cN cO)) (w : rWd D cI cZ A H0 mm d σ H locs) (hdg : decode cc pc = .ok (.getfield 78, 3)) (kk : W p l e R s m args below meth c H locs cells slots Q (F0 m (pc + 3) ls (.ref (d 28) :: rest))) : W p l e R s m args below meth c H locs cells slots Q (F0 m pc ls (.ref mm :: rest)) := va_get (D := D) (ci := 4) (v := .ref (d 28)) (C := RX4) (T := TX4) (N := 41) C.1 C.2.1 C.2.2.2.1 inX4 C.2.2.1 C.2.2.2.2 w.1 0 rfl rfl 28 (by decide) (C.2.2.2.1 _ kF_X4_78) (fun _ h9 => h9) rfl hdg kk
theorem r_get_29 (C : Cx p c cc s m args RX4 D (gTy cI cZ cN cO)) (w : rWd D cI cZ A H0 mm d σ H locs) (hdg : decode cc pc = .ok (.getfield 81, 3)) (kk : W p l e R s m args below meth c H locs cells slots Q (F0 m (pc + 3) ls (.ref (d 29) :: rest))) : W p l e R s m args below meth c H locs cells slots Q (F0 m pc ls (.ref mm :: rest)) := va_get (D := D) (ci := 4) (v := .ref (d 29)) (C := RX4) (T := TX4) (N := 41) C.1 C.2.1 C.2.2.2.1 inX4 C.2.2.1 C.2.2.2.2 w.1 0 rfl rfl 29 (by decide) (C.2.2.2.1 _ kF_X4_81) (fun _ h9 => h9) rfl hdg kk
theorem r_get_30 (C : Cx p c cc s m args RX4 D (gTy cI cZ cN cO)) (w : rWd D cI cZ A H0 mm d σ H locs) (hdg : decode cc pc = .ok (.getfield 84, 3)) (kk : W p l e R s m args below meth c H locs cells slots Q (F0 m (pc + 3) ls (.ref (d 30) :: rest))) : W p l e R s m args below meth c H locs cells slots Q (F0 m pc ls (.ref mm :: rest)) := va_get (D := D) (ci := 4) (v := .ref (d 30)) (C := RX4) (T := TX4) (N := 41) C.1 C.2.1 C.2.2.2.1 inX4 C.2.2.1 C.2.2.2.2 w.1 0 rfl rfl 30 (by decide) (C.2.2.2.1 _ kF_X4_84) (fun _ h9 => h9) rfl hdg kk
theorem r_get_31 (C : Cx p c cc s m args RX4 D (gTy cI cZ cN cO)) (w : rWd D cI cZ A H0 mm d σ H locs) (hdg : decode cc pc = .ok (.getfield 87, 3)) (kk : W p l e R s m args below meth c H locs cells slots Q (F0 m (pc + 3) ls (.ref (d 31) :: rest))) : W p l e R s m args below meth c H locs cells slots Q (F0 m pc ls (.ref mm :: rest)) := va_get (D := D) (ci := 4) (v := .ref (d 31)) (C := RX4) (T := TX4) (N := 41) C.1 C.2.1 C.2.2.2.1 inX4 C.2.2.1 C.2.2.2.2 w.1 0 rfl rfl 31 (by decide) (C.2.2.2.1 _ kF_X4_87) (fun _ h9 => h9) rfl hdg kk
theorem r_get_32 (C : Cx p c cc s m args RX4 D (gTy cI cZ cN cO)) (w : rWd D cI cZ A H0 mm d σ H locs) (hdg : decode cc pc = .ok (.getfield 90, 3)) (kk : W p l e R s m args below meth c H locs cells slots Q (F0 m (pc + 3) ls (.ref (d 32) :: rest))) : W p l e R s m args below meth c H locs cells slots Q (F0 m pc ls (.ref mm :: rest)) := va_get (D := D) (ci := 4) (v := .ref (d 32)) (C := RX4) (T := TX4) (N := 41) C.1 C.2.1 C.2.2.2.1 inX4 C.2.2.1 C.2.2.2.2 w.1 0 rfl rfl 32 (by decide) (C.2.2.2.1 _ kF_X4_90) (fun _ h9 => h9) rfl hdg kk
theorem r_get_33 (C : Cx p c cc s m args RX4 D (gTy cI cZ cN cO)) (w : rWd D cI cZ A H0 mm d σ H locs) (hdg : decode cc pc = .ok (.getfield 93, 3)) (kk : W p l e R s m args below meth c H locs cells slots Q (F0 m (pc + 3) ls (.ref (d 33) :: rest))) : W p l e R s m args below meth c H locs cells slots Q (F0 m pc ls (.ref mm :: rest)) := va_get (D := D) (ci := 4) (v := .ref (d 33)) (C := RX4) (T := TX4) (N := 41) C.1 C.2.1 C.2.2.2.1 inX4 C.2.2.1 C.2.2.2.2 w.1 0 rfl rfl 33 (by decide) (C.2.2.2.1 _ kF_X4_93) (fun _ h9 => h9) rfl hdg kk
theorem r_get_34 (C : Cx p c cc s m args RX4 D (gTy cI cZ cN cO)) (w : rWd D cI cZ A H0 mm d σ H locs) (hdg : decode cc pc = .ok (.getfield 96, 3)) (kk : W p l e R s m args below meth c H locs cells slots Q (F0 m (pc + 3) ls (.ref (d 34) :: rest))) : W p l e R s m args below meth c H locs cells slots Q (F0 m pc ls (.ref mm :: rest)) := va_get (D := D) (ci := 4) (v := .ref (d 34)) (C := RX4) (T := TX4) (N := 41) C.1 C.2.1 C.2.2.2.1 inX4 C.2.2.1 C.2.2.2.2 w.1 0 rfl rfl 34 (by decide) (C.2.2.2.1 _ kF_X4_96) (fun _ h9 => h9) rfl hdg kk
theorem r_get_35 (C : Cx p c cc s m args RX4 D (gTy cI cZ cN cO)) (w : rWd D cI cZ A H0 mm d σ H locs) (hdg : decode cc pc = .ok (.getfield 99, 3)) (kk : W p l e R s m args below meth c H locs cells slots Q (F0 m (pc + 3) ls (.ref (d 35) :: rest))) : W p l e R s m args below meth c H locs cells slots Q (F0 m pc ls (.ref mm :: rest)) := va_get (D := D) (ci := 4) (v := .ref (d 35)) (C := RX4) (T := TX4) (N := 41) C.1 C.2.1 C.2.2.2.1 inX4 C.2.2.1 C.2.2.2.2 w.1 0 rfl rfl 35 (by decide) (C.2.2.2.1 _ kF_X4_99) (fun _ h9 => h9) rfl hdg kk
theorem r_get_36 (C : Cx p c cc s m args RX4 D (gTy cI cZ cN cO)) (w : rWd D cI cZ A H0 mm d σ H locs) (hdg : decode cc pc = .ok (.getfield 102, 3)) (kk : W p l e R s m args below meth c H locs cells slots Q (F0 m (pc + 3) ls (.ref (d 36) :: rest))) : W p l e R s m args below meth c H locs cells slots Q (F0 m pc ls (.ref mm :: rest)) := va_get (D := D) (ci := 4) (v := .ref (d 36)) (C := RX4) (T := TX4) (N := 41) C.1 C.2.1 C.2.2.2.1 inX4 C.2.2.1 C.2.2.2.2 w.1 0 rfl rfl 36 (by decide) (C.2.2.2.1 _ kF_X4_102) (fun _ h9 => h9) rfl hdg kk
theorem r_get_37 (C : Cx p c cc s m args RX4 D (gTy cI cZ cN cO)) (w : rWd D cI cZ A H0 mm d σ H locs) (hdg : decode cc pc = .ok (.getfield 129, 3)) (kk : W p l e R s m args below meth c H locs cells slots Q (F0 m (pc + 3) ls (.int (σ.1 37) :: rest))) : W p l e R s m args below meth c H locs cells slots Q (F0 m pc ls (.ref mm :: rest)) := va_get (D := D) (ci := 4) (v := .int (σ.1 37)) (C := RX4) (T := TX4) (N := 41) C.1 C.2.1 C.2.2.2.1 inX4 C.2.2.1 C.2.2.2.2 w.1 0 rfl rfl 37 (by decide) (C.2.2.2.1 _ kF_X4_129) (fun _ h9 => h9) rfl hdg kk
theorem r_get_38 (C : Cx p c cc s m args RX4 D (gTy cI cZ cN cO)) (w : rWd D cI cZ A H0 mm d σ H locs) (hdg : decode cc pc = .ok (.getfield 156, 3)) (kk : W p l e R s m args below meth c H locs cells slots Q (F0 m (pc + 3) ls (.int (σ.1 38) :: rest))) : W p l e R s m args below meth c H locs cells slots Q (F0 m pc ls (.ref mm :: rest)) := va_get (D := D) (ci := 4) (v := .int (σ.1 38)) (C := RX4) (T := TX4) (N := 41) C.1 C.2.1 C.2.2.2.1 inX4 C.2.2.1 C.2.2.2.2 w.1 0 rfl rfl 38 (by decide) (C.2.2.2.1 _ kF_X4_156) (fun _ h9 => h9) rfl hdg kk
theorem r_get_39 (C : Cx p c cc s m args RX4 D (gTy cI cZ cN cO)) (w : rWd D cI cZ A H0 mm d σ H locs) (hdg : decode cc pc = .ok (.getfield 105, 3)) (kk : W p l e R s m args below meth c H locs cells slots Q (F0 m (pc + 3) ls (.ref (d 39) :: rest))) : W p l e R s m args below meth c H locs cells slots Q (F0 m pc ls (.ref mm :: rest)) := va_get (D := D) (ci := 4) (v := .ref (d 39)) (C := RX4) (T := TX4) (N := 41) C.1 C.2.1 C.2.2.2.1 inX4 C.2.2.1 C.2.2.2.2 w.1 0 rfl rfl 39 (by decide) (C.2.2.2.1 _ kF_X4_105) (fun _ h9 => h9) rfl hdg kk
theorem r_get_40 (C : Cx p c cc s m args RX4 D (gTy cI cZ cN cO)) (w : rWd D cI cZ A H0 mm d σ H locs) (hdg : decode cc pc = .ok (.getfield 201, 3)) (kk : W p l e R s m args below meth c H locs cells slots Q (F0 m (pc + 3) ls (.int (σ.1 40) :: rest))) : W p l e R s m args below meth c H locs cells slots Q (F0 m pc ls (.ref mm :: rest)) := va_get (D := D) (ci := 4) (v := .int (σ.1 40)) (C := RX4) (T := TX4) (N := 41) C.1 C.2.1 C.2.2.2.1 inX4 C.2.2.1 C.2.2.2.2 w.1 0 rfl rfl 40 (by decide) (C.2.2.2.1 _ kF_X4_201) (fun _ h9 => h9) rfl hdg kk
theorem r_put_1 (C : Cx p c cc s m args RX4 D (gTy cI cZ cN cO)) (w : rWd D cI cZ A H0 mm d σ H locs) {v : Int32} (hdg : decode cc pc = .ok (.putfield 112, 3)) (kk : ∀ (H1 : Heap) (locs1 : List Loc), rWd D cI cZ A H0 mm d (rI σ 1 v) H1 locs1 → W p l e R s m args below meth c H1 locs1 cells slots Q (F0 m (pc + 3) ls (rest))) : W p l e R s m args below meth c H locs cells slots Q (F0 m pc ls (.int v :: .ref mm :: rest)) := va_put (D := D) (ci := 4) (v := .int v) (ty := .int) (C := RX4) (T := TX4) (N := 41) C.1 C.2.1 C.2.2.2.1 inX4 tyX4 tyX4_ok nmX4 C.2.2.1 C.2.2.2.2 w.1 w.2.1 w.2.2 0 rfl rfl 1 (by decide) (C.2.2.2.1 _ kF_X4_112) (fun _ h9 => h9) rfl (by decide +kernel) rfl rfl (Nat.le_of_ble_eq_true rfl) hdg (fun H1 locs1 hP hD hS => kk H1 locs1 ⟨hP, hD, hS⟩)
theorem r_put_9 (C : Cx p c cc s m args RX4 D (gTy cI cZ cN cO)) (w : rWd D cI cZ A H0 mm d σ H locs) {v : Int32} (hdg : decode cc pc = .ok (.putfield 115, 3)) (kk : ∀ (H1 : Heap) (locs1 : List Loc), rWd D cI cZ A H0 mm d (rI σ 9 v) H1 locs1 → W p l e R s m args below meth c H1 locs1 cells slots Q (F0 m (pc + 3) ls (rest))) : W p l e R s m args below meth c H locs cells slots Q (F0 m pc ls (.int v :: .ref mm :: rest)) := va_put (D := D) (ci := 4) (v := .int v) (ty := .int) (C := RX4) (T := TX4) (N := 41) C.1 C.2.1 C.2.2.2.1 inX4 tyX4 tyX4_ok nmX4 C.2.2.1 C.2.2.2.2 w.1 w.2.1 w.2.2 0 rfl rfl 9 (by decide) (C.2.2.2.1 _ kF_X4_115) (fun _ h9 => h9) rfl (by decide +kernel) rfl rfl (Nat.le_of_ble_eq_true rfl) hdg (fun H1 locs1 hP hD hS => kk H1 locs1 ⟨hP, hD, hS⟩)
theorem r_put_10 (C : Cx p c cc s m args RX4 D (gTy cI cZ cN cO)) (w : rWd D cI cZ A H0 mm d σ H locs) {v : Int32} (hdg : decode cc pc = .ok (.putfield 118, 3)) (kk : ∀ (H1 : Heap) (locs1 : List Loc), rWd D cI cZ A H0 mm d (rI σ 10 v) H1 locs1 → W p l e R s m args below meth c H1 locs1 cells slots Q (F0 m (pc + 3) ls (rest))) : W p l e R s m args below meth c H locs cells slots Q (F0 m pc ls (.int v :: .ref mm :: rest)) := va_put (D := D) (ci := 4) (v := .int v) (ty := .int) (C := RX4) (T := TX4) (N := 41) C.1 C.2.1 C.2.2.2.1 inX4 tyX4 tyX4_ok nmX4 C.2.2.1 C.2.2.2.2 w.1 w.2.1 w.2.2 0 rfl rfl 10 (by decide) (C.2.2.2.1 _ kF_X4_118) (fun _ h9 => h9) rfl (by decide +kernel) rfl rfl (Nat.le_of_ble_eq_true rfl) hdg (fun H1 locs1 hP hD hS => kk H1 locs1 ⟨hP, hD, hS⟩)
theorem r_put_11 (C : Cx p c cc s m args RX4 D (gTy cI cZ cN cO)) (w : rWd D cI cZ A H0 mm d σ H locs) {v : Int32} (hdg : decode cc pc = .ok (.putfield 186, 3)) (kk : ∀ (H1 : Heap) (locs1 : List Loc), rWd D cI cZ A H0 mm d (rI σ 11 v) H1 locs1 → W p l e R s m args below meth c H1 locs1 cells slots Q (F0 m (pc + 3) ls (rest))) : W p l e R s m args below meth c H locs cells slots Q (F0 m pc ls (.int v :: .ref mm :: rest)) := va_put (D := D) (ci := 4) (v := .int v) (ty := .int) (C := RX4) (T := TX4) (N := 41) C.1 C.2.1 C.2.2.2.1 inX4 tyX4 tyX4_ok nmX4 C.2.2.1 C.2.2.2.2 w.1 w.2.1 w.2.2 0 rfl rfl 11 (by decide) (C.2.2.2.1 _ kF_X4_186) (fun _ h9 => h9) rfl (by decide +kernel) rfl rfl (Nat.le_of_ble_eq_true rfl) hdg (fun H1 locs1 hP hD hS => kk H1 locs1 ⟨hP, hD, hS⟩)
theorem r_put_12 (C : Cx p c cc s m args RX4 D (gTy cI cZ cN cO)) (w : rWd D cI cZ A H0 mm d σ H locs) {v : Int32} (hdg : decode cc pc = .ok (.putfield 136, 3)) (kk : ∀ (H1 : Heap) (locs1 : List Loc), rWd D cI cZ A H0 mm d (rI σ 12 v) H1 locs1 → W p l e R s m args below meth c H1 locs1 cells slots Q (F0 m (pc + 3) ls (rest))) : W p l e R s m args below meth c H locs cells slots Q (F0 m pc ls (.int v :: .ref mm :: rest)) := va_put (D := D) (ci := 4) (v := .int v) (ty := .int) (C := RX4) (T := TX4) (N := 41) C.1 C.2.1 C.2.2.2.1 inX4 tyX4 tyX4_ok nmX4 C.2.2.1 C.2.2.2.2 w.1 w.2.1 w.2.2 0 rfl rfl 12 (by decide) (C.2.2.2.1 _ kF_X4_136) (fun _ h9 => h9) rfl (by decide +kernel) rfl rfl (Nat.le_of_ble_eq_true rfl) hdg (fun H1 locs1 hP hD hS => kk H1 locs1 ⟨hP, hD, hS⟩)
theorem r_put_37 (C : Cx p c cc s m args RX4 D (gTy cI cZ cN cO)) (w : rWd D cI cZ A H0 mm d σ H locs) {v : Int32} (hdg : decode cc pc = .ok (.putfield 129, 3)) (kk : ∀ (H1 : Heap) (locs1 : List Loc), rWd D cI cZ A H0 mm d (rI σ 37 v) H1 locs1 → W p l e R s m args below meth c H1 locs1 cells slots Q (F0 m (pc + 3) ls (rest))) : W p l e R s m args below meth c H locs cells slots Q (F0 m pc ls (.int v :: .ref mm :: rest)) := va_put (D := D) (ci := 4) (v := .int v) (ty := .int) (C := RX4) (T := TX4) (N := 41) C.1 C.2.1 C.2.2.2.1 inX4 tyX4 tyX4_ok nmX4 C.2.2.1 C.2.2.2.2 w.1 w.2.1 w.2.2 0 rfl rfl 37 (by decide) (C.2.2.2.1 _ kF_X4_129) (fun _ h9 => h9) rfl (by decide +kernel) rfl rfl (Nat.le_of_ble_eq_true rfl) hdg (fun H1 locs1 hP hD hS => kk H1 locs1 ⟨hP, hD, hS⟩)
theorem r_put_38 (C : Cx p c cc s m args RX4 D (gTy cI cZ cN cO)) (w : rWd D cI cZ A H0 mm d σ H locs) {v : Int32} (hdg : decode cc pc = .ok (.putfield 156, 3)) (kk : ∀ (H1 : Heap) (locs1 : List Loc), rWd D cI cZ A H0 mm d (rI σ 38 v) H1 locs1 → W p l e R s m args below meth c H1 locs1 cells slots Q (F0 m (pc + 3) ls (rest))) : W p l e R s m args below meth c H locs cells slots Q (F0 m pc ls (.int v :: .ref mm :: rest)) := va_put (D := D) (ci := 4) (v := .int v) (ty := .int) (C := RX4) (T := TX4) (N := 41) C.1 C.2.1 C.2.2.2.1 inX4 tyX4 tyX4_ok nmX4 C.2.2.1 C.2.2.2.2 w.1 w.2.1 w.2.2 0 rfl rfl 38 (by decide) (C.2.2.2.1 _ kF_X4_156) (fun _ h9 => h9) rfl (by decide +kernel) rfl rfl (Nat.le_of_ble_eq_true rfl) hdg (fun H1 locs1 hP hD hS => kk H1 locs1 ⟨hP, hD, hS⟩)
theorem r_put_40 (C : Cx p c cc s m args RX4 D (gTy cI cZ cN cO)) (w : rWd D cI cZ A H0 mm d σ H locs) {v : Int32} (hdg : decode cc pc = .ok (.putfield 201, 3)) (kk : ∀ (H1 : Heap) (locs1 : List Loc), rWd D cI cZ A H0 mm d (rI σ 40 v) H1 locs1 → W p l e R s m args below meth c H1 locs1 cells slots Q (F0 m (pc + 3) ls (rest))) : W p l e R s m args below meth c H locs cells slots Q (F0 m pc ls (.int v :: .ref mm :: rest)) := va_put (D := D) (ci := 4) (v := .int v) (ty := .int) (C := RX4) (T := TX4) (N := 41) C.1 C.2.1 C.2.2.2.1 inX4 tyX4 tyX4_ok nmX4 C.2.2.1 C.2.2.2.2 w.1 w.2.1 w.2.2 0 rfl rfl 40 (by decide) (C.2.2.2.1 _ kF_X4_201) (fun _ h9 => h9) rfl (by decide +kernel) rfl rfl (Nat.le_of_ble_eq_true rfl) hdg (fun H1 locs1 hP hD hS => kk H1 locs1 ⟨hP, hD, hS⟩)
theorem r_ld_2 (C : Cx p c cc s m args RX4 D (gTy cI cZ cN cO)) (w : rWd D cI cZ A H0 mm d σ H locs) {i : Int32} (hin : vp_in i 2001) (hdg : decode cc pc = .ok (.iaload, 1)) (kk : W p l e R s m args below meth c H locs cells slots Q (F0 m (pc + 1) ls (.int (σ.2 2 i.toNatClampNeg) :: rest))) : W p l e R s m args below meth c H locs cells slots Q (F0 m pc ls (.int i :: .ref (d 2) :: rest)) := va_iald C.1 C.2.1 C.2.2.2.2 w.1 1 0 rfl rfl hin hdg kk
theorem r_st_2 (C : Cx p c cc s m args RX4 D (gTy cI cZ cN cO)) (w : rWd D cI cZ A H0 mm d σ H locs) {i v : Int32} (hin : vp_in i 2001) (hdg : decode cc pc = .ok (.iastore, 1)) (kk : ∀ (H1 : Heap) (locs1 : List Loc), rWd D cI cZ A H0 mm d (rA σ 2 i.toNatClampNeg v) H1 locs1 → W p l e R s m args below meth c H1 locs1 cells slots Q (F0 m (pc + 1) ls (rest))) : W p l e R s m args below meth c H locs cells slots Q (F0 m pc ls (.int v :: .int i :: .ref (d 2) :: rest)) := va_iast C.1 C.2.1 C.2.2.2.2 w.1 w.2.1 w.2.2 1 0 rfl rfl hin hdg (fun H1 locs1 hP hD hS => kk H1 locs1 ⟨hP, hD, hS⟩)
theorem r_ld_3 (C : Cx p c cc s m args RX4 D (gTy cI cZ cN cO)) (w : rWd D cI cZ A H0 mm d σ H locs) {i : Int32} (hin : vp_in i 2001) (hdg : decode cc pc = .ok (.iaload, 1)) (kk : W p l e R s m args below meth c H locs cells slots Q (F0 m (pc + 1) ls (.int (σ.2 3 i.toNatClampNeg) :: rest))) : W p l e R s m args below meth c H locs cells slots Q (F0 m pc ls (.int i :: .ref (d 3) :: rest)) := va_iald C.1 C.2.1 C.2.2.2.2 w.1 2 0 rfl rfl hin hdg kk
theorem r_st_3 (C : Cx p c cc s m args RX4 D (gTy cI cZ cN cO)) (w : rWd D cI cZ A H0 mm d σ H locs) {i v : Int32} (hin : vp_in i 2001) (hdg : decode cc pc = .ok (.iastore, 1)) (kk : ∀ (H1 : Heap) (locs1 : List Loc), rWd D cI cZ A H0 mm d (rA σ 3 i.toNatClampNeg v) H1 locs1 → W p l e R s m args below meth c H1 locs1 cells slots Q (F0 m (pc + 1) ls (rest))) : W p l e R s m args below meth c H locs cells slots Q (F0 m pc ls (.int v :: .int i :: .ref (d 3) :: rest)) := va_iast C.1 C.2.1 C.2.2.2.2 w.1 w.2.1 w.2.2 2 0 rfl rfl hin hdg (fun H1 locs1 hP hD hS => kk H1 locs1 ⟨hP, hD, hS⟩)
theorem r_ld_4 (C : Cx p c cc s m args RX4 D (gTy cI cZ cN cO)) (w : rWd D cI cZ A H0 mm d σ H locs) {i : Int32} (hin : vp_in i 2001) (hdg : decode cc pc = .ok (.iaload, 1)) (kk : W p l e R s m args below meth c H locs cells slots Q (F0 m (pc + 1) ls (.int (σ.2 4 i.toNatClampNeg) :: rest))) : W p l e R s m args below meth c H locs cells slots Q (F0 m pc ls (.int i :: .ref (d 4) :: rest)) := va_iald C.1 C.2.1 C.2.2.2.2 w.1 3 0 rfl rfl hin hdg kk
theorem r_st_4 (C : Cx p c cc s m args RX4 D (gTy cI cZ cN cO)) (w : rWd D cI cZ A H0 mm d σ H locs) {i v : Int32} (hin : vp_in i 2001) (hdg : decode cc pc = .ok (.iastore, 1)) (kk : ∀ (H1 : Heap) (locs1 : List Loc), rWd D cI cZ A H0 mm d (rA σ 4 i.toNatClampNeg v) H1 locs1 → W p l e R s m args below meth c H1 locs1 cells slots Q (F0 m (pc + 1) ls (rest))) : W p l e R s m args below meth c H locs cells slots Q (F0 m pc ls (.int v :: .int i :: .ref (d 4) :: rest)) := va_iast C.1 C.2.1 C.2.2.2.2 w.1 w.2.1 w.2.2 3 0 rfl rfl hin hdg (fun H1 locs1 hP hD hS => kk H1 locs1 ⟨hP, hD, hS⟩)
theorem r_ld_5 (C : Cx p c cc s m args RX4 D (gTy cI cZ cN cO)) (w : rWd D cI cZ A H0 mm d σ H locs) {i : Int32} (hin : vp_in i 2001) (hdg : decode cc pc = .ok (.iaload, 1)) (kk : W p l e R s m args below meth c H locs cells slots Q (F0 m (pc + 1) ls (.int (σ.2 5 i.toNatClampNeg) :: rest))) : W p l e R s m args below meth c H locs cells slots Q (F0 m pc ls (.int i :: .ref (d 5) :: rest)) := va_iald C.1 C.2.1 C.2.2.2.2 w.1 4 0 rfl rfl hin hdg kk
theorem r_st_5 (C : Cx p c cc s m args RX4 D (gTy cI cZ cN cO)) (w : rWd D cI cZ A H0 mm d σ H locs) {i v : Int32} (hin : vp_in i 2001) (hdg : decode cc pc = .ok (.iastore, 1)) (kk : ∀ (H1 : Heap) (locs1 : List Loc), rWd D cI cZ A H0 mm d (rA σ 5 i.toNatClampNeg v) H1 locs1 → W p l e R s m args below meth c H1 locs1 cells slots Q (F0 m (pc + 1) ls (rest))) : W p l e R s m args below meth c H locs cells slots Q (F0 m pc ls (.int v :: .int i :: .ref (d 5) :: rest)) := va_iast C.1 C.2.1 C.2.2.2.2 w.1 w.2.1 w.2.2 4 0 rfl rfl hin hdg (fun H1 locs1 hP hD hS => kk H1 locs1 ⟨hP, hD, hS⟩)
theorem r_ld_6 (C : Cx p c cc s m args RX4 D (gTy cI cZ cN cO)) (w : rWd D cI cZ A H0 mm d σ H locs) {i : Int32} (hin : vp_in i 62031) (hdg : decode cc pc = .ok (.iaload, 1)) (kk : W p l e R s m args below meth c H locs cells slots Q (F0 m (pc + 1) ls (.int (σ.2 6 i.toNatClampNeg) :: rest))) : W p l e R s m args below meth c H locs cells slots Q (F0 m pc ls (.int i :: .ref (d 6) :: rest)) := va_iald C.1 C.2.1 C.2.2.2.2 w.1 5 0 rfl rfl hin hdg kk
theorem r_st_6 (C : Cx p c cc s m args RX4 D (gTy cI cZ cN cO)) (w : rWd D cI cZ A H0 mm d σ H locs) {i v : Int32} (hin : vp_in i 62031) (hdg : decode cc pc = .ok (.iastore, 1)) (kk : ∀ (H1 : Heap) (locs1 : List Loc), rWd D cI cZ A H0 mm d (rA σ 6 i.toNatClampNeg v) H1 locs1 → W p l e R s m args below meth c H1 locs1 cells slots Q (F0 m (pc + 1) ls (rest))) : W p l e R s m args below meth c H locs cells slots Q (F0 m pc ls (.int v :: .int i :: .ref (d 6) :: rest)) := va_iast C.1 C.2.1 C.2.2.2.2 w.1 w.2.1 w.2.2 5 0 rfl rfl hin hdg (fun H1 locs1 hP hD hS => kk H1 locs1 ⟨hP, hD, hS⟩)
theorem r_ld_7 (C : Cx p c cc s m args RX4 D (gTy cI cZ cN cO)) (w : rWd D cI cZ A H0 mm d σ H locs) {i : Int32} (hin : vp_in i 2001) (hdg : decode cc pc = .ok (.baload, 1)) (kk : W p l e R s m args below meth c H locs cells slots Q (F0 m (pc + 1) ls (.int (σ.2 7 i.toNatClampNeg) :: rest))) : W p l e R s m args below meth c H locs cells slots Q (F0 m pc ls (.int i :: .ref (d 7) :: rest)) := va_zald C.1 C.2.1 C.2.2.2.2 w.1 6 1 rfl rfl hin hdg kk
theorem r_st_7 (C : Cx p c cc s m args RX4 D (gTy cI cZ cN cO)) (w : rWd D cI cZ A H0 mm d σ H locs) {i x v : Int32} (hv : vp_nar .boolean x = v) (hin : vp_in i 2001) (hdg : decode cc pc = .ok (.bastore, 1)) (kk : ∀ (H1 : Heap) (locs1 : List Loc), rWd D cI cZ A H0 mm d (rA σ 7 i.toNatClampNeg v) H1 locs1 → W p l e R s m args below meth c H1 locs1 cells slots Q (F0 m (pc + 1) ls (rest))) : W p l e R s m args below meth c H locs cells slots Q (F0 m pc ls (.int x :: .int i :: .ref (d 7) :: rest)) := va_zast C.1 C.2.1 C.2.2.2.2 w.1 w.2.1 w.2.2 6 1 rfl rfl hin hdg (fun H1 locs1 hP hD hS => kk H1 locs1 (by rw [← hv]; exact ⟨hP, hD, hS⟩))
theorem r_ld_8 (C : Cx p c cc s m args RX4 D (gTy cI cZ cN cO)) (w : rWd D cI cZ A H0 mm d σ H locs) {i : Int32} (hin : vp_in i 2001) (hdg : decode cc pc = .ok (.iaload, 1)) (kk : W p l e R s m args below meth c H locs cells slots Q (F0 m (pc + 1) ls (.int (σ.2 8 i.toNatClampNeg) :: rest))) : W p l e R s m args below meth c H locs cells slots Q (F0 m pc ls (.int i :: .ref (d 8) :: rest)) := va_iald C.1 C.2.1 C.2.2.2.2 w.1 7 0 rfl rfl hin hdg kk
theorem r_st_8 (C : Cx p c cc s m args RX4 D (gTy cI cZ cN cO)) (w : rWd D cI cZ A H0 mm d σ H locs) {i v : Int32} (hin : vp_in i 2001) (hdg : decode cc pc = .ok (.iastore, 1)) (kk : ∀ (H1 : Heap) (locs1 : List Loc), rWd D cI cZ A H0 mm d (rA σ 8 i.toNatClampNeg v) H1 locs1 → W p l e R s m args below meth c H1 locs1 cells slots Q (F0 m (pc + 1) ls (rest))) : W p l e R s m args below meth c H locs cells slots Q (F0 m pc ls (.int v :: .int i :: .ref (d 8) :: rest)) := va_iast C.1 C.2.1 C.2.2.2.2 w.1 w.2.1 w.2.2 7 0 rfl rfl hin hdg (fun H1 locs1 hP hD hS => kk H1 locs1 ⟨hP, hD, hS⟩)
theorem r_ld_13 (C : Cx p c cc s m args RX4 D (gTy cI cZ cN cO)) (w : rWd D cI cZ A H0 mm d σ H locs) {i : Int32} (hin : vp_in i 31) (hdg : decode cc pc = .ok (.baload, 1)) (kk : W p l e R s m args below meth c H locs cells slots Q (F0 m (pc + 1) ls (.int (σ.2 13 i.toNatClampNeg) :: rest))) : W p l e R s m args below meth c H locs cells slots Q (F0 m pc ls (.int i :: .ref (d 13) :: rest)) := va_zald C.1 C.2.1 C.2.2.2.2 w.1 8 1 rfl rfl hin hdg kk
theorem r_st_13 (C : Cx p c cc s m args RX4 D (gTy cI cZ cN cO)) (w : rWd D cI cZ A H0 mm d σ H locs) {i x v : Int32} (hv : vp_nar .boolean x = v) (hin : vp_in i 31) (hdg : decode cc pc = .ok (.bastore, 1)) (kk : ∀ (H1 : Heap) (locs1 : List Loc), rWd D cI cZ A H0 mm d (rA σ 13 i.toNatClampNeg v) H1 locs1 → W p l e R s m args below meth c H1 locs1 cells slots Q (F0 m (pc + 1) ls (rest))) : W p l e R s m args below meth c H locs cells slots Q (F0 m pc ls (.int x :: .int i :: .ref (d 13) :: rest)) := va_zast C.1 C.2.1 C.2.2.2.2 w.1 w.2.1 w.2.2 8 1 rfl rfl hin hdg (fun H1 locs1 hP hD hS => kk H1 locs1 (by rw [← hv]; exact ⟨hP, hD, hS⟩))
theorem r_ld_14 (C : Cx p c cc s m args RX4 D (gTy cI cZ cN cO)) (w : rWd D cI cZ A H0 mm d σ H locs) {i : Int32} (hin : vp_in i 31) (hdg : decode cc pc = .ok (.iaload, 1)) (kk : W p l e R s m args below meth c H locs cells slots Q (F0 m (pc + 1) ls (.int (σ.2 14 i.toNatClampNeg) :: rest))) : W p l e R s m args below meth c H locs cells slots Q (F0 m pc ls (.int i :: .ref (d 14) :: rest)) := va_iald C.1 C.2.1 C.2.2.2.2 w.1 9 0 rfl rfl hin hdg kk
theorem r_st_14 (C : Cx p c cc s m args RX4 D (gTy cI cZ cN cO)) (w : rWd D cI cZ A H0 mm d σ H locs) {i v : Int32} (hin : vp_in i 31) (hdg : decode cc pc = .ok (.iastore, 1)) (kk : ∀ (H1 : Heap) (locs1 : List Loc), rWd D cI cZ A H0 mm d (rA σ 14 i.toNatClampNeg v) H1 locs1 → W p l e R s m args below meth c H1 locs1 cells slots Q (F0 m (pc + 1) ls (rest))) : W p l e R s m args below meth c H locs cells slots Q (F0 m pc ls (.int v :: .int i :: .ref (d 14) :: rest)) := va_iast C.1 C.2.1 C.2.2.2.2 w.1 w.2.1 w.2.2 9 0 rfl rfl hin hdg (fun H1 locs1 hP hD hS => kk H1 locs1 ⟨hP, hD, hS⟩)
theorem r_ld_15 (C : Cx p c cc s m args RX4 D (gTy cI cZ cN cO)) (w : rWd D cI cZ A H0 mm d σ H locs) {i : Int32} (hin : vp_in i 31) (hdg : decode cc pc = .ok (.iaload, 1)) (kk : W p l e R s m args below meth c H locs cells slots Q (F0 m (pc + 1) ls (.int (σ.2 15 i.toNatClampNeg) :: rest))) : W p l e R s m args below meth c H locs cells slots Q (F0 m pc ls (.int i :: .ref (d 15) :: rest)) := va_iald C.1 C.2.1 C.2.2.2.2 w.1 10 0 rfl rfl hin hdg kk
theorem r_st_15 (C : Cx p c cc s m args RX4 D (gTy cI cZ cN cO)) (w : rWd D cI cZ A H0 mm d σ H locs) {i v : Int32} (hin : vp_in i 31) (hdg : decode cc pc = .ok (.iastore, 1)) (kk : ∀ (H1 : Heap) (locs1 : List Loc), rWd D cI cZ A H0 mm d (rA σ 15 i.toNatClampNeg v) H1 locs1 → W p l e R s m args below meth c H1 locs1 cells slots Q (F0 m (pc + 1) ls (rest))) : W p l e R s m args below meth c H locs cells slots Q (F0 m pc ls (.int v :: .int i :: .ref (d 15) :: rest)) := va_iast C.1 C.2.1 C.2.2.2.2 w.1 w.2.1 w.2.2 10 0 rfl rfl hin hdg (fun H1 locs1 hP hD hS => kk H1 locs1 ⟨hP, hD, hS⟩)
theorem r_ld_16 (C : Cx p c cc s m args RX4 D (gTy cI cZ cN cO)) (w : rWd D cI cZ A H0 mm d σ H locs) {i : Int32} (hin : vp_in i 31) (hdg : decode cc pc = .ok (.iaload, 1)) (kk : W p l e R s m args below meth c H locs cells slots Q (F0 m (pc + 1) ls (.int (σ.2 16 i.toNatClampNeg) :: rest))) : W p l e R s m args below meth c H locs cells slots Q (F0 m pc ls (.int i :: .ref (d 16) :: rest)) := va_iald C.1 C.2.1 C.2.2.2.2 w.1 11 0 rfl rfl hin hdg kk
theorem r_st_16 (C : Cx p c cc s m args RX4 D (gTy cI cZ cN cO)) (w : rWd D cI cZ A H0 mm d σ H locs) {i v : Int32} (hin : vp_in i 31) (hdg : decode cc pc = .ok (.iastore, 1)) (kk : ∀ (H1 : Heap) (locs1 : List Loc), rWd D cI cZ A H0 mm d (rA σ 16 i.toNatClampNeg v) H1 locs1 → W p l e R s m args below meth c H1 locs1 cells slots Q (F0 m (pc + 1) ls (rest))) : W p l e R s m args below meth c H locs cells slots Q (F0 m pc ls (.int v :: .int i :: .ref (d 16) :: rest)) := va_iast C.1 C.2.1 C.2.2.2.2 w.1 w.2.1 w.2.2 11 0 rfl rfl hin hdg (fun H1 locs1 hP hD hS => kk H1 locs1 ⟨hP, hD, hS⟩)
theorem r_ld_17 (C : Cx p c cc s m args RX4 D (gTy cI cZ cN cO)) (w : rWd D cI cZ A H0 mm d σ H locs) {i : Int32} (hin : vp_in i 31) (hdg : decode cc pc = .ok (.iaload, 1)) (kk : W p l e R s m args below meth c H locs cells slots Q (F0 m (pc + 1) ls (.int (σ.2 17 i.toNatClampNeg) :: rest))) : W p l e R s m args below meth c H locs cells slots Q (F0 m pc ls (.int i :: .ref (d 17) :: rest)) := va_iald C.1 C.2.1 C.2.2.2.2 w.1 12 0 rfl rfl hin hdg kk
theorem r_st_17 (C : Cx p c cc s m args RX4 D (gTy cI cZ cN cO)) (w : rWd D cI cZ A H0 mm d σ H locs) {i v : Int32} (hin : vp_in i 31) (hdg : decode cc pc = .ok (.iastore, 1)) (kk : ∀ (H1 : Heap) (locs1 : List Loc), rWd D cI cZ A H0 mm d (rA σ 17 i.toNatClampNeg v) H1 locs1 → W p l e R s m args below meth c H1 locs1 cells slots Q (F0 m (pc + 1) ls (rest))) : W p l e R s m args below meth c H locs cells slots Q (F0 m pc ls (.int v :: .int i :: .ref (d 17) :: rest)) := va_iast C.1 C.2.1 C.2.2.2.2 w.1 w.2.1 w.2.2 12 0 rfl rfl hin hdg (fun H1 locs1 hP hD hS => kk H1 locs1 ⟨hP, hD, hS⟩)
theorem r_ld_18 (C : Cx p c cc s m args RX4 D (gTy cI cZ cN cO)) (w : rWd D cI cZ A H0 mm d σ H locs) {i : Int32} (hin : vp_in i 961) (hdg : decode cc pc = .ok (.iaload, 1)) (kk : W p l e R s m args below meth c H locs cells slots Q (F0 m (pc + 1) ls (.int (σ.2 18 i.toNatClampNeg) :: rest))) : W p l e R s m args below meth c H locs cells slots Q (F0 m pc ls (.int i :: .ref (d 18) :: rest)) := va_iald C.1 C.2.1 C.2.2.2.2 w.1 13 0 rfl rfl hin hdg kk
theorem r_st_18 (C : Cx p c cc s m args RX4 D (gTy cI cZ cN cO)) (w : rWd D cI cZ A H0 mm d σ H locs) {i v : Int32} (hin : vp_in i 961) (hdg : decode cc pc = .ok (.iastore, 1)) (kk : ∀ (H1 : Heap) (locs1 : List Loc), rWd D cI cZ A H0 mm d (rA σ 18 i.toNatClampNeg v) H1 locs1 → W p l e R s m args below meth c H1 locs1 cells slots Q (F0 m (pc + 1) ls (rest))) : W p l e R s m args below meth c H locs cells slots Q (F0 m pc ls (.int v :: .int i :: .ref (d 18) :: rest)) := va_iast C.1 C.2.1 C.2.2.2.2 w.1 w.2.1 w.2.2 13 0 rfl rfl hin hdg (fun H1 locs1 hP hD hS => kk H1 locs1 ⟨hP, hD, hS⟩)
theorem r_ld_19 (C : Cx p c cc s m args RX4 D (gTy cI cZ cN cO)) (w : rWd D cI cZ A H0 mm d σ H locs) {i : Int32} (hin : vp_in i 31) (hdg : decode cc pc = .ok (.iaload, 1)) (kk : W p l e R s m args below meth c H locs cells slots Q (F0 m (pc + 1) ls (.int (σ.2 19 i.toNatClampNeg) :: rest))) : W p l e R s m args below meth c H locs cells slots Q (F0 m pc ls (.int i :: .ref (d 19) :: rest)) := va_iald C.1 C.2.1 C.2.2.2.2 w.1 14 0 rfl rfl hin hdg kk
theorem r_st_19 (C : Cx p c cc s m args RX4 D (gTy cI cZ cN cO)) (w : rWd D cI cZ A H0 mm d σ H locs) {i v : Int32} (hin : vp_in i 31) (hdg : decode cc pc = .ok (.iastore, 1)) (kk : ∀ (H1 : Heap) (locs1 : List Loc), rWd D cI cZ A H0 mm d (rA σ 19 i.toNatClampNeg v) H1 locs1 → W p l e R s m args below meth c H1 locs1 cells slots Q (F0 m (pc + 1) ls (rest))) : W p l e R s m args below meth c H locs cells slots Q (F0 m pc ls (.int v :: .int i :: .ref (d 19) :: rest)) := va_iast C.1 C.2.1 C.2.2.2.2 w.1 w.2.1 w.2.2 14 0 rfl rfl hin hdg (fun H1 locs1 hP hD hS => kk H1 locs1 ⟨hP, hD, hS⟩)
theorem r_ld_20 (C : Cx p c cc s m args RX4 D (gTy cI cZ cN cO)) (w : rWd D cI cZ A H0 mm d σ H locs) {i : Int32} (hin : vp_in i 15872) (hdg : decode cc pc = .ok (.iaload, 1)) (kk : W p l e R s m args below meth c H locs cells slots Q (F0 m (pc + 1) ls (.int (σ.2 20 i.toNatClampNeg) :: rest))) : W p l e R s m args below meth c H locs cells slots Q (F0 m pc ls (.int i :: .ref (d 20) :: rest)) := va_iald C.1 C.2.1 C.2.2.2.2 w.1 15 0 rfl rfl hin hdg kk
theorem r_st_20 (C : Cx p c cc s m args RX4 D (gTy cI cZ cN cO)) (w : rWd D cI cZ A H0 mm d σ H locs) {i v : Int32} (hin : vp_in i 15872) (hdg : decode cc pc = .ok (.iastore, 1)) (kk : ∀ (H1 : Heap) (locs1 : List Loc), rWd D cI cZ A H0 mm d (rA σ 20 i.toNatClampNeg v) H1 locs1 → W p l e R s m args below meth c H1 locs1 cells slots Q (F0 m (pc + 1) ls (rest))) : W p l e R s m args below meth c H locs cells slots Q (F0 m pc ls (.int v :: .int i :: .ref (d 20) :: rest)) := va_iast C.1 C.2.1 C.2.2.2.2 w.1 w.2.1 w.2.2 15 0 rfl rfl hin hdg (fun H1 locs1 hP hD hS => kk H1 locs1 ⟨hP, hD, hS⟩)
theorem r_ld_21 (C : Cx p c cc s m args RX4 D (gTy cI cZ cN cO)) (w : rWd D cI cZ A H0 mm d σ H locs) {i : Int32} (hin : vp_in i 961) (hdg : decode cc pc = .ok (.iaload, 1)) (kk : W p l e R s m args below meth c H locs cells slots Q (F0 m (pc + 1) ls (.int (σ.2 21 i.toNatClampNeg) :: rest))) : W p l e R s m args below meth c H locs cells slots Q (F0 m pc ls (.int i :: .ref (d 21) :: rest)) := va_iald C.1 C.2.1 C.2.2.2.2 w.1 16 0 rfl rfl hin hdg kk
theorem r_st_21 (C : Cx p c cc s m args RX4 D (gTy cI cZ cN cO)) (w : rWd D cI cZ A H0 mm d σ H locs) {i v : Int32} (hin : vp_in i 961) (hdg : decode cc pc = .ok (.iastore, 1)) (kk : ∀ (H1 : Heap) (locs1 : List Loc), rWd D cI cZ A H0 mm d (rA σ 21 i.toNatClampNeg v) H1 locs1 → W p l e R s m args below meth c H1 locs1 cells slots Q (F0 m (pc + 1) ls (rest))) : W p l e R s m args below meth c H locs cells slots Q (F0 m pc ls (.int v :: .int i :: .ref (d 21) :: rest)) := va_iast C.1 C.2.1 C.2.2.2.2 w.1 w.2.1 w.2.2 16 0 rfl rfl hin hdg (fun H1 locs1 hP hD hS => kk H1 locs1 ⟨hP, hD, hS⟩)
theorem r_ld_22 (C : Cx p c cc s m args RX4 D (gTy cI cZ cN cO)) (w : rWd D cI cZ A H0 mm d σ H locs) {i : Int32} (hin : vp_in i 961) (hdg : decode cc pc = .ok (.iaload, 1)) (kk : W p l e R s m args below meth c H locs cells slots Q (F0 m (pc + 1) ls (.int (σ.2 22 i.toNatClampNeg) :: rest))) : W p l e R s m args below meth c H locs cells slots Q (F0 m pc ls (.int i :: .ref (d 22) :: rest)) := va_iald C.1 C.2.1 C.2.2.2.2 w.1 17 0 rfl rfl hin hdg kk
theorem r_st_22 (C : Cx p c cc s m args RX4 D (gTy cI cZ cN cO)) (w : rWd D cI cZ A H0 mm d σ H locs) {i v : Int32} (hin : vp_in i 961) (hdg : decode cc pc = .ok (.iastore, 1)) (kk : ∀ (H1 : Heap) (locs1 : List Loc), rWd D cI cZ A H0 mm d (rA σ 22 i.toNatClampNeg v) H1 locs1 → W p l e R s m args below meth c H1 locs1 cells slots Q (F0 m (pc + 1) ls (rest))) : W p l e R s m args below meth c H locs cells slots Q (F0 m pc ls (.int v :: .int i :: .ref (d 22) :: rest)) := va_iast C.1 C.2.1 C.2.2.2.2 w.1 w.2.1 w.2.2 17 0 rfl rfl hin hdg (fun H1 locs1 hP hD hS => kk H1 locs1 ⟨hP, hD, hS⟩)
theorem r_ld_23 (C : Cx p c cc s m args RX4 D (gTy cI cZ cN cO)) (w : rWd D cI cZ A H0 mm d σ H locs) {i : Int32} (hin : vp_in i 961) (hdg : decode cc pc = .ok (.iaload, 1)) (kk : W p l e R s m args below meth c H locs cells slots Q (F0 m (pc + 1) ls (.int (σ.2 23 i.toNatClampNeg) :: rest))) : W p l e R s m args below meth c H locs cells slots Q (F0 m pc ls (.int i :: .ref (d 23) :: rest)) := va_iald C.1 C.2.1 C.2.2.2.2 w.1 18 0 rfl rfl hin hdg kk
theorem r_st_23 (C : Cx p c cc s m args RX4 D (gTy cI cZ cN cO)) (w : rWd D cI cZ A H0 mm d σ H locs) {i v : Int32} (hin : vp_in i 961) (hdg : decode cc pc = .ok (.iastore, 1)) (kk : ∀ (H1 : Heap) (locs1 : List Loc), rWd D cI cZ A H0 mm d (rA σ 23 i.toNatClampNeg v) H1 locs1 → W p l e R s m args below meth c H1 locs1 cells slots Q (F0 m (pc + 1) ls (rest))) : W p l e R s m args below meth c H locs cells slots Q (F0 m pc ls (.int v :: .int i :: .ref (d 23) :: rest)) := va_iast C.1 C.2.1 C.2.2.2.2 w.1 w.2.1 w.2.2 18 0 rfl rfl hin hdg (fun H1 locs1 hP hD hS => kk H1 locs1 ⟨hP, hD, hS⟩)
theorem r_ld_24 (C : Cx p c cc s m args RX4 D (gTy cI cZ cN cO)) (w : rWd D cI cZ A H0 mm d σ H locs) {i : Int32} (hin : vp_in i 31) (hdg : decode cc pc = .ok (.baload, 1)) (kk : W p l e R s m args below meth c H locs cells slots Q (F0 m (pc + 1) ls (.int (σ.2 24 i.toNatClampNeg) :: rest))) : W p l e R s m args below meth c H locs cells slots Q (F0 m pc ls (.int i :: .ref (d 24) :: rest)) := va_zald C.1 C.2.1 C.2.2.2.2 w.1 19 1 rfl rfl hin hdg kk
theorem r_st_24 (C : Cx p c cc s m args RX4 D (gTy cI cZ cN cO)) (w : rWd D cI cZ A H0 mm d σ H locs) {i x v : Int32} (hv : vp_nar .boolean x = v) (hin : vp_in i 31) (hdg : decode cc pc = .ok (.bastore, 1)) (kk : ∀ (H1 : Heap) (locs1 : List Loc), rWd D cI cZ A H0 mm d (rA σ 24 i.toNatClampNeg v) H1 locs1 → W p l e R s m args below meth c H1 locs1 cells slots Q (F0 m (pc + 1) ls (rest))) : W p l e R s m args below meth c H locs cells slots Q (F0 m pc ls (.int x :: .int i :: .ref (d 24) :: rest)) := va_zast C.1 C.2.1 C.2.2.2.2 w.1 w.2.1 w.2.2 19 1 rfl rfl hin hdg (fun H1 locs1 hP hD hS => kk H1 locs1 (by rw [← hv]; exact ⟨hP, hD, hS⟩))
theorem r_ld_25 (C : Cx p c cc s m args RX4 D (gTy cI cZ cN cO)) (w : rWd D cI cZ A H0 mm d σ H locs) {i : Int32} (hin : vp_in i 961) (hdg : decode cc pc = .ok (.iaload, 1)) (kk : W p l e R s m args below meth c H locs cells slots Q (F0 m (pc + 1) ls (.int (σ.2 25 i.toNatClampNeg) :: rest))) : W p l e R s m args below meth c H locs cells slots Q (F0 m pc ls (.int i :: .ref (d 25) :: rest)) := va_iald C.1 C.2.1 C.2.2.2.2 w.1 20 0 rfl rfl hin hdg kk
theorem r_st_25 (C : Cx p c cc s m args RX4 D (gTy cI cZ cN cO)) (w : rWd D cI cZ A H0 mm d σ H locs) {i v : Int32} (hin : vp_in i 961) (hdg : decode cc pc = .ok (.iastore, 1)) (kk : ∀ (H1 : Heap) (locs1 : List Loc), rWd D cI cZ A H0 mm d (rA σ 25 i.toNatClampNeg v) H1 locs1 → W p l e R s m args below meth c H1 locs1 cells slots Q (F0 m (pc + 1) ls (rest))) : W p l e R s m args below meth c H locs cells slots Q (F0 m pc ls (.int v :: .int i :: .ref (d 25) :: rest)) := va_iast C.1 C.2.1 C.2.2.2.2 w.1 w.2.1 w.2.2 20 0 rfl rfl hin hdg (fun H1 locs1 hP hD hS => kk H1 locs1 ⟨hP, hD, hS⟩)
theorem r_ld_26 (C : Cx p c cc s m args RX4 D (gTy cI cZ cN cO)) (w : rWd D cI cZ A H0 mm d σ H locs) {i : Int32} (hin : vp_in i 512) (hdg : decode cc pc = .ok (.iaload, 1)) (kk : W p l e R s m args below meth c H locs cells slots Q (F0 m (pc + 1) ls (.int (σ.2 26 i.toNatClampNeg) :: rest))) : W p l e R s m args below meth c H locs cells slots Q (F0 m pc ls (.int i :: .ref (d 26) :: rest)) := va_iald C.1 C.2.1 C.2.2.2.2 w.1 21 0 rfl rfl hin hdg kk
theorem r_st_26 (C : Cx p c cc s m args RX4 D (gTy cI cZ cN cO)) (w : rWd D cI cZ A H0 mm d σ H locs) {i v : Int32} (hin : vp_in i 512) (hdg : decode cc pc = .ok (.iastore, 1)) (kk : ∀ (H1 : Heap) (locs1 : List Loc), rWd D cI cZ A H0 mm d (rA σ 26 i.toNatClampNeg v) H1 locs1 → W p l e R s m args below meth c H1 locs1 cells slots Q (F0 m (pc + 1) ls (rest))) : W p l e R s m args below meth c H locs cells slots Q (F0 m pc ls (.int v :: .int i :: .ref (d 26) :: rest)) := va_iast C.1 C.2.1 C.2.2.2.2 w.1 w.2.1 w.2.2 21 0 rfl rfl hin hdg (fun H1 locs1 hP hD hS => kk H1 locs1 ⟨hP, hD, hS⟩)
theorem r_ld_27 (C : Cx p c cc s m args RX4 D (gTy cI cZ cN cO)) (w : rWd D cI cZ A H0 mm d σ H locs) {i : Int32} (hin : vp_in i 512) (hdg : decode cc pc = .ok (.iaload, 1)) (kk : W p l e R s m args below meth c H locs cells slots Q (F0 m (pc + 1) ls (.int (σ.2 27 i.toNatClampNeg) :: rest))) : W p l e R s m args below meth c H locs cells slots Q (F0 m pc ls (.int i :: .ref (d 27) :: rest)) := va_iald C.1 C.2.1 C.2.2.2.2 w.1 22 0 rfl rfl hin hdg kk
theorem r_st_27 (C : Cx p c cc s m args RX4 D (gTy cI cZ cN cO)) (w : rWd D cI cZ A H0 mm d σ H locs) {i v : Int32} (hin : vp_in i 512) (hdg : decode cc pc = .ok (.iastore, 1)) (kk : ∀ (H1 : Heap) (locs1 : List Loc), rWd D cI cZ A H0 mm d (rA σ 27 i.toNatClampNeg v) H1 locs1 → W p l e R s m args below meth c H1 locs1 cells slots Q (F0 m (pc + 1) ls (rest))) : W p l e R s m args below meth c H locs cells slots Q (F0 m pc ls (.int v :: .int i :: .ref (d 27) :: rest)) := va_iast C.1 C.2.1 C.2.2.2.2 w.1 w.2.1 w.2.2 22 0 rfl rfl hin hdg (fun H1 locs1 hP hD hS => kk H1 locs1 ⟨hP, hD, hS⟩)
theorem r_ld_28 (C : Cx p c cc s m args RX4 D (gTy cI cZ cN cO)) (w : rWd D cI cZ A H0 mm d σ H locs) {i : Int32} (hin : vp_in i 512) (hdg : decode cc pc = .ok (.iaload, 1)) (kk : W p l e R s m args below meth c H locs cells slots Q (F0 m (pc + 1) ls (.int (σ.2 28 i.toNatClampNeg) :: rest))) : W p l e R s m args below meth c H locs cells slots Q (F0 m pc ls (.int i :: .ref (d 28) :: rest)) := va_iald C.1 C.2.1 C.2.2.2.2 w.1 23 0 rfl rfl hin hdg kk
theorem r_st_28 (C : Cx p c cc s m args RX4 D (gTy cI cZ cN cO)) (w : rWd D cI cZ A H0 mm d σ H locs) {i v : Int32} (hin : vp_in i 512) (hdg : decode cc pc = .ok (.iastore, 1)) (kk : ∀ (H1 : Heap) (locs1 : List Loc), rWd D cI cZ A H0 mm d (rA σ 28 i.toNatClampNeg v) H1 locs1 → W p l e R s m args below meth c H1 locs1 cells slots Q (F0 m (pc + 1) ls (rest))) : W p l e R s m args below meth c H locs cells slots Q (F0 m pc ls (.int v :: .int i :: .ref (d 28) :: rest)) := va_iast C.1 C.2.1 C.2.2.2.2 w.1 w.2.1 w.2.2 23 0 rfl rfl hin hdg (fun H1 locs1 hP hD hS => kk H1 locs1 ⟨hP, hD, hS⟩)
theorem r_ld_29 (C : Cx p c cc s m args RX4 D (gTy cI cZ cN cO)) (w : rWd D cI cZ A H0 mm d σ H locs) {i : Int32} (hin : vp_in i 512) (hdg : decode cc pc = .ok (.iaload, 1)) (kk : W p l e R s m args below meth c H locs cells slots Q (F0 m (pc + 1) ls (.int (σ.2 29 i.toNatClampNeg) :: rest))) : W p l e R s m args below meth c H locs cells slots Q (F0 m pc ls (.int i :: .ref (d 29) :: rest)) := va_iald C.1 C.2.1 C.2.2.2.2 w.1 24 0 rfl rfl hin hdg kk
theorem r_st_29 (C : Cx p c cc s m args RX4 D (gTy cI cZ cN cO)) (w : rWd D cI cZ A H0 mm d σ H locs) {i v : Int32} (hin : vp_in i 512) (hdg : decode cc pc = .ok (.iastore, 1)) (kk : ∀ (H1 : Heap) (locs1 : List Loc), rWd D cI cZ A H0 mm d (rA σ 29 i.toNatClampNeg v) H1 locs1 → W p l e R s m args below meth c H1 locs1 cells slots Q (F0 m (pc + 1) ls (rest))) : W p l e R s m args below meth c H locs cells slots Q (F0 m pc ls (.int v :: .int i :: .ref (d 29) :: rest)) := va_iast C.1 C.2.1 C.2.2.2.2 w.1 w.2.1 w.2.2 24 0 rfl rfl hin hdg (fun H1 locs1 hP hD hS => kk H1 locs1 ⟨hP, hD, hS⟩)
theorem r_ld_30 (C : Cx p c cc s m args RX4 D (gTy cI cZ cN cO)) (w : rWd D cI cZ A H0 mm d σ H locs) {i : Int32} (hin : vp_in i 512) (hdg : decode cc pc = .ok (.iaload, 1)) (kk : W p l e R s m args below meth c H locs cells slots Q (F0 m (pc + 1) ls (.int (σ.2 30 i.toNatClampNeg) :: rest))) : W p l e R s m args below meth c H locs cells slots Q (F0 m pc ls (.int i :: .ref (d 30) :: rest)) := va_iald C.1 C.2.1 C.2.2.2.2 w.1 25 0 rfl rfl hin hdg kk
theorem r_st_30 (C : Cx p c cc s m args RX4 D (gTy cI cZ cN cO)) (w : rWd D cI cZ A H0 mm d σ H locs) {i v : Int32} (hin : vp_in i 512) (hdg : decode cc pc = .ok (.iastore, 1)) (kk : ∀ (H1 : Heap) (locs1 : List Loc), rWd D cI cZ A H0 mm d (rA σ 30 i.toNatClampNeg v) H1 locs1 → W p l e R s m args below meth c H1 locs1 cells slots Q (F0 m (pc + 1) ls (rest))) : W p l e R s m args below meth c H locs cells slots Q (F0 m pc ls (.int v :: .int i :: .ref (d 30) :: rest)) := va_iast C.1 C.2.1 C.2.2.2.2 w.1 w.2.1 w.2.2 25 0 rfl rfl hin hdg (fun H1 locs1 hP hD hS => kk H1 locs1 ⟨hP, hD, hS⟩)
theorem r_ld_31 (C : Cx p c cc s m args RX4 D (gTy cI cZ cN cO)) (w : rWd D cI cZ A H0 mm d σ H locs) {i : Int32} (hin : vp_in i 512) (hdg : decode cc pc = .ok (.iaload, 1)) (kk : W p l e R s m args below meth c H locs cells slots Q (F0 m (pc + 1) ls (.int (σ.2 31 i.toNatClampNeg) :: rest))) : W p l e R s m args below meth c H locs cells slots Q (F0 m pc ls (.int i :: .ref (d 31) :: rest)) := va_iald C.1 C.2.1 C.2.2.2.2 w.1 26 0 rfl rfl hin hdg kk
theorem r_st_31 (C : Cx p c cc s m args RX4 D (gTy cI cZ cN cO)) (w : rWd D cI cZ A H0 mm d σ H locs) {i v : Int32} (hin : vp_in i 512) (hdg : decode cc pc = .ok (.iastore, 1)) (kk : ∀ (H1 : Heap) (locs1 : List Loc), rWd D cI cZ A H0 mm d (rA σ 31 i.toNatClampNeg v) H1 locs1 → W p l e R s m args below meth c H1 locs1 cells slots Q (F0 m (pc + 1) ls (rest))) : W p l e R s m args below meth c H locs cells slots Q (F0 m pc ls (.int v :: .int i :: .ref (d 31) :: rest)) := va_iast C.1 C.2.1 C.2.2.2.2 w.1 w.2.1 w.2.2 26 0 rfl rfl hin hdg (fun H1 locs1 hP hD hS => kk H1 locs1 ⟨hP, hD, hS⟩)
theorem r_ld_32 (C : Cx p c cc s m args RX4 D (gTy cI cZ cN cO)) (w : rWd D cI cZ A H0 mm d σ H locs) {i : Int32} (hin : vp_in i 512) (hdg : decode cc pc = .ok (.iaload, 1)) (kk : W p l e R s m args below meth c H locs cells slots Q (F0 m (pc + 1) ls (.int (σ.2 32 i.toNatClampNeg) :: rest))) : W p l e R s m args below meth c H locs cells slots Q (F0 m pc ls (.int i :: .ref (d 32) :: rest)) := va_iald C.1 C.2.1 C.2.2.2.2 w.1 27 0 rfl rfl hin hdg kk
theorem r_st_32 (C : Cx p c cc s m args RX4 D (gTy cI cZ cN cO)) (w : rWd D cI cZ A H0 mm d σ H locs) {i v : Int32} (hin : vp_in i 512) (hdg : decode cc pc = .ok (.iastore, 1)) (kk : ∀ (H1 : Heap) (locs1 : List Loc), rWd D cI cZ A H0 mm d (rA σ 32 i.toNatClampNeg v) H1 locs1 → W p l e R s m args below meth c H1 locs1 cells slots Q (F0 m (pc + 1) ls (rest))) : W p l e R s m args below meth c H locs cells slots Q (F0 m pc ls (.int v :: .int i :: .ref (d 32) :: rest)) := va_iast C.1 C.2.1 C.2.2.2.2 w.1 w.2.1 w.2.2 27 0 rfl rfl hin hdg (fun H1 locs1 hP hD hS => kk H1 locs1 ⟨hP, hD, hS⟩)
theorem r_ld_33 (C : Cx p c cc s m args RX4 D (gTy cI cZ cN cO)) (w : rWd D cI cZ A H0 mm d σ H locs) {i : Int32} (hin : vp_in i 512) (hdg : decode cc pc = .ok (.iaload, 1)) (kk : W p l e R s m args below meth c H locs cells slots Q (F0 m (pc + 1) ls (.int (σ.2 33 i.toNatClampNeg) :: rest))) : W p l e R s m args below meth c H locs cells slots Q (F0 m pc ls (.int i :: .ref (d 33) :: rest)) := va_iald C.1 C.2.1 C.2.2.2.2 w.1 28 0 rfl rfl hin hdg kk
theorem r_st_33 (C : Cx p c cc s m args RX4 D (gTy cI cZ cN cO)) (w : rWd D cI cZ A H0 mm d σ H locs) {i v : Int32} (hin : vp_in i 512) (hdg : decode cc pc = .ok (.iastore, 1)) (kk : ∀ (H1 : Heap) (locs1 : List Loc), rWd D cI cZ A H0 mm d (rA σ 33 i.toNatClampNeg v) H1 locs1 → W p l e R s m args below meth c H1 locs1 cells slots Q (F0 m (pc + 1) ls (rest))) : W p l e R s m args below meth c H locs cells slots Q (F0 m pc ls (.int v :: .int i :: .ref (d 33) :: rest)) := va_iast C.1 C.2.1 C.2.2.2.2 w.1 w.2.1 w.2.2 28 0 rfl rfl hin hdg (fun H1 locs1 hP hD hS => kk H1 locs1 ⟨hP, hD, hS⟩)
theorem r_ld_34 (C : Cx p c cc s m args RX4 D (gTy cI cZ cN cO)) (w : rWd D cI cZ A H0 mm d σ H locs) {i : Int32} (hin : vp_in i 512) (hdg : decode cc pc = .ok (.iaload, 1)) (kk : W p l e R s m args below meth c H locs cells slots Q (F0 m (pc + 1) ls (.int (σ.2 34 i.toNatClampNeg) :: rest))) : W p l e R s m args below meth c H locs cells slots Q (F0 m pc ls (.int i :: .ref (d 34) :: rest)) := va_iald C.1 C.2.1 C.2.2.2.2 w.1 29 0 rfl rfl hin hdg kk
theorem r_st_34 (C : Cx p c cc s m args RX4 D (gTy cI cZ cN cO)) (w : rWd D cI cZ A H0 mm d σ H locs) {i v : Int32} (hin : vp_in i 512) (hdg : decode cc pc = .ok (.iastore, 1)) (kk : ∀ (H1 : Heap) (locs1 : List Loc), rWd D cI cZ A H0 mm d (rA σ 34 i.toNatClampNeg v) H1 locs1 → W p l e R s m args below meth c H1 locs1 cells slots Q (F0 m (pc + 1) ls (rest))) : W p l e R s m args below meth c H locs cells slots Q (F0 m pc ls (.int v :: .int i :: .ref (d 34) :: rest)) := va_iast C.1 C.2.1 C.2.2.2.2 w.1 w.2.1 w.2.2 29 0 rfl rfl hin hdg (fun H1 locs1 hP hD hS => kk H1 locs1 ⟨hP, hD, hS⟩)
theorem r_ld_35 (C : Cx p c cc s m args RX4 D (gTy cI cZ cN cO)) (w : rWd D cI cZ A H0 mm d σ H locs) {i : Int32} (hin : vp_in i 15872) (hdg : decode cc pc = .ok (.iaload, 1)) (kk : W p l e R s m args below meth c H locs cells slots Q (F0 m (pc + 1) ls (.int (σ.2 35 i.toNatClampNeg) :: rest))) : W p l e R s m args below meth c H locs cells slots Q (F0 m pc ls (.int i :: .ref (d 35) :: rest)) := va_iald C.1 C.2.1 C.2.2.2.2 w.1 30 0 rfl rfl hin hdg kk
theorem r_st_35 (C : Cx p c cc s m args RX4 D (gTy cI cZ cN cO)) (w : rWd D cI cZ A H0 mm d σ H locs) {i v : Int32} (hin : vp_in i 15872) (hdg : decode cc pc = .ok (.iastore, 1)) (kk : ∀ (H1 : Heap) (locs1 : List Loc), rWd D cI cZ A H0 mm d (rA σ 35 i.toNatClampNeg v) H1 locs1 → W p l e R s m args below meth c H1 locs1 cells slots Q (F0 m (pc + 1) ls (rest))) : W p l e R s m args below meth c H locs cells slots Q (F0 m pc ls (.int v :: .int i :: .ref (d 35) :: rest)) := va_iast C.1 C.2.1 C.2.2.2.2 w.1 w.2.1 w.2.2 30 0 rfl rfl hin hdg (fun H1 locs1 hP hD hS => kk H1 locs1 ⟨hP, hD, hS⟩)
theorem r_ld_36 (C : Cx p c cc s m args RX4 D (gTy cI cZ cN cO)) (w : rWd D cI cZ A H0 mm d σ H locs) {i : Int32} (hin : vp_in i 512) (hdg : decode cc pc = .ok (.baload, 1)) (kk : W p l e R s m args below meth c H locs cells slots Q (F0 m (pc + 1) ls (.int (σ.2 36 i.toNatClampNeg) :: rest))) : W p l e R s m args below meth c H locs cells slots Q (F0 m pc ls (.int i :: .ref (d 36) :: rest)) := va_zald C.1 C.2.1 C.2.2.2.2 w.1 31 1 rfl rfl hin hdg kk
theorem r_st_36 (C : Cx p c cc s m args RX4 D (gTy cI cZ cN cO)) (w : rWd D cI cZ A H0 mm d σ H locs) {i x v : Int32} (hv : vp_nar .boolean x = v) (hin : vp_in i 512) (hdg : decode cc pc = .ok (.bastore, 1)) (kk : ∀ (H1 : Heap) (locs1 : List Loc), rWd D cI cZ A H0 mm d (rA σ 36 i.toNatClampNeg v) H1 locs1 → W p l e R s m args below meth c H1 locs1 cells slots Q (F0 m (pc + 1) ls (rest))) : W p l e R s m args below meth c H locs cells slots Q (F0 m pc ls (.int x :: .int i :: .ref (d 36) :: rest)) := va_zast C.1 C.2.1 C.2.2.2.2 w.1 w.2.1 w.2.2 31 1 rfl rfl hin hdg (fun H1 locs1 hP hD hS => kk H1 locs1 (by rw [← hv]; exact ⟨hP, hD, hS⟩))
theorem r_ld_39 (C : Cx p c cc s m args RX4 D (gTy cI cZ cN cO)) (w : rWd D cI cZ A H0 mm d σ H locs) {i : Int32} (hin : vp_in i 512) (hdg : decode cc pc = .ok (.iaload, 1)) (kk : W p l e R s m args below meth c H locs cells slots Q (F0 m (pc + 1) ls (.int (σ.2 39 i.toNatClampNeg) :: rest))) : W p l e R s m args below meth c H locs cells slots Q (F0 m pc ls (.int i :: .ref (d 39) :: rest)) := va_iald C.1 C.2.1 C.2.2.2.2 w.1 32 0 rfl rfl hin hdg kk
theorem r_st_39 (C : Cx p c cc s m args RX4 D (gTy cI cZ cN cO)) (w : rWd D cI cZ A H0 mm d σ H locs) {i v : Int32} (hin : vp_in i 512) (hdg : decode cc pc = .ok (.iastore, 1)) (kk : ∀ (H1 : Heap) (locs1 : List Loc), rWd D cI cZ A H0 mm d (rA σ 39 i.toNatClampNeg v) H1 locs1 → W p l e R s m args below meth c H1 locs1 cells slots Q (F0 m (pc + 1) ls (rest))) : W p l e R s m args below meth c H locs cells slots Q (F0 m pc ls (.int v :: .int i :: .ref (d 39) :: rest)) := va_iast C.1 C.2.1 C.2.2.2.2 w.1 w.2.1 w.2.2 32 0 rfl rfl hin hdg (fun H1 locs1 hP hD hS => kk H1 locs1 ⟨hP, hD, hS⟩)
end RR
end
section
/-- a bound for what a row of the reference holds, where the code uses it as a place -/
def rB (n : Nat) : Nat → Option Nat := fun k => match k with
  | 3 => some n
  | 4 => some n
  | 26 => some n
  | 8 => some 2001
  | 16 => some 512
  | 20 => some 512
  | 39 => some 512
  | 6 => some 512
  | 18 => some 512
  | 19 => some 512
  | 21 => some 512
  | 22 => some 512
  | 23 => some 512
  | 35 => some 512
  | _ => none
/-- the state's numbers are places where the code uses them so -/
def rOK (n : Nat) (σ : RS) : Prop := 3 ≤ n ∧ n ≤ 31 ∧ σ.1 0 = nI n ∧ vp_in (σ.1 9) 2001 ∧ vp_in (σ.1 37) 512 ∧ ∀ (k b : Nat), rB n k = some b → ∀ j, vp_in (σ.2 k j) b
theorem rOK.st {n : Nat} {σ : RS} (h : rOK n σ) {k i : Nat} {v : Int32} (hv : ∀ b, rB n k = some b → vp_in v b) : rOK n (rA σ k i v) := by
  obtain ⟨h1, h2, h3, h4, h5, h6⟩ := h
  refine ⟨h1, h2, h3, h4, h5, fun k' b hb j => ?_⟩
  show vp_in (va_up σ.2 k (upd (σ.2 k) i v) k' j) b
  by_cases hk : k' = k
  · subst hk
    simp only [va_up, if_true]
    by_cases hj : j = i
    · subst hj; rw [upd_self]; exact hv b hb
    · rw [upd_ne _ hj]; exact h6 _ b hb j
  · simp only [va_up, if_neg hk]; exact h6 _ b hb j
theorem rOK.put {n : Nat} {σ : RS} (h : rOK n σ) {k : Nat} {v : Int32} (h0 : k ≠ 0) (h9 : k = 9 → vp_in v 2001) (h37 : k = 37 → vp_in v 512) : rOK n (rI σ k v) := by
  obtain ⟨h1, h2, h3, h4, h5, h6⟩ := h
  refine ⟨h1, h2, ?_, ?_, ?_, h6⟩
  · show va_up σ.1 k v 0 = _; simp only [va_up, if_neg (Ne.symm h0)]; exact h3
  · show vp_in (va_up σ.1 k v 9) _
    by_cases q : 9 = k
    · subst q; simp only [va_up, if_true]; exact h9 rfl
    · simp only [va_up, if_neg q]; exact h4
  · show vp_in (va_up σ.1 k v 37) _
    by_cases q : 37 = k
    · subst q; simp only [va_up, if_true]; exact h37 rfl
    · simp only [va_up, if_neg q]; exact h5
theorem rOK.at {n : Nat} {σ : RS} (h : rOK n σ) (k : Nat) {b : Nat} (hb : rB n k = some b) (j : Nat) : vp_in (σ.2 k j) b := h.2.2.2.2.2 k b hb j
theorem vp_in.up {x : Int32} {a b : Nat} (h : vp_in x a) (hab : a ≤ b) : vp_in x b := by
  rw [vp_in_iff] at h ⊢; omega
theorem rOK.n31 {n : Nat} {σ : RS} (h : rOK n σ) {x : Int32} (hx : vp_in x n) : vp_in x 31 := hx.up h.2.1
theorem gIx {c N : Nat} {C x y : Int32} (hC : C = nI c) (hcN : c * N < 2 ^ 31) (hx : vp_in x N) (hy : vp_in y c) : vp_in (C * x + y) (c * N) := by
  by_cases hc0 : c = 0
  · subst hc0; rw [vp_in_iff] at hy; omega
  have hc : 1 ≤ c := by omega
  have hN : N < 2 ^ 31 := Nat.lt_of_le_of_lt (Nat.le_mul_of_pos_left N hc) hcN
  by_cases hN0 : N = 0
  · subst hN0; rw [vp_in_iff] at hx; omega
  have hcl : c < 2 ^ 31 := Nat.lt_of_le_of_lt (Nat.le_mul_of_pos_right c (by omega)) hcN
  obtain ⟨j, hj, rfl⟩ := vp_in_of hx hN
  obtain ⟨i, hi, rfl⟩ := vp_in_of hy hcl
  rw [hC, nI_mul, nI_add]
  have h1 : c * j + c ≤ c * N := by rw [← Nat.mul_succ]; exact Nat.mul_le_mul_left c hj
  exact vp_in_nI (by omega) hcN
/-- the reference's cells in a state of the machine -/
def rH (D : va_G) (cI cZ cN cO : ClassId) (A : Nat → Prop) (mm : Nat) (d : Nat → Nat) (σ : RS) (U : State) : Prop := va_P D vwCl (rW cI cZ mm d σ) U.heap ∧ va_K D vwCl (gTy cI cZ cN cO) U ∧ va_D A (rW cI cZ mm d σ)
theorem rH.blind {D : va_G} {cI cZ cN cO : ClassId} {A : Nat → Prop} {mm : Nat} {d : Nat → Nat} {σ : RS} {av : List Value} : FrameBlind (va_Pc av (rH D cI cZ cN cO A mm d σ)) := fun a U g mk q => ⟨q.1, q.2.1, va_K.moved (u := U) (U := U.calling g mk a) (Vm.Alike.refl U.vm) q.2.2.1, q.2.2.2⟩
section RC
variable {p : Program} {l : Launch} {e : Env} {R : Room} {s : State} {m : MethodId} {args : Array Value} {below : List Frame} {meth : Method} {c : Code} {H : Heap} {locs : List Loc} {cells slots : Nat} {Q : State → Prop} {cc : ByteArray} {pc nL : Nat} {ls : Array Slot} {rest st0 : List Value} {D : va_G} {cI cZ cN cO : ClassId} {A : Nat → Prop} {H0 : Heap} {mm : Nat} {d : Nat → Nat} {σ σ' : RS} {y : MethodName} {bytes : ByteArray} {maxL idx na : Nat} {ret : Option FieldType} {rm : Room} {As : List Value} {K : Prop}
theorem r_pre (C : Cx p c cc s m args RX4 D (gTy cI cZ cN cO)) (w : rWd D cI cZ A H0 mm d σ H locs) : PreV s H RX4 mm (va_Pc (.ref mm :: As) (rH D cI cZ cN cO A mm d σ)) As :=
  ⟨rH.blind, va_recv C.2.2.2.2 w.1 (ci := 4) (q0 := 0) rfl rfl, fun U hU hW => ⟨rfl, by rw [hU]; exact w.1, va_K.moved hW.alike C.2.2.2.2, w.2.1⟩⟩
/-- a call of the reference's own method that changes nothing, an int its answer -/
theorem r_callp {post : Int32 → Prop} (C : Cx p c cc s m args RX4 D (gTy cI cZ cN cO)) (w : rWd D cI cZ A H0 mm d σ H locs) (hml : c.maxLocals = nL) (hls : ls.size = nL) (hM : Met l y (.code y bytes maxL ret :: gw) rm (va_Pc (.ref mm :: As) (rH D cI cZ cN cO A mm d σ)) (vp_Si post) 0 0 (fun _ => False)) (h1 : Cond.methodLink RX4 idx y ∈ gw) (h2 : Cond.instanceMethod y ∈ gw) (h3 : Cond.selects RX4 y y ∈ gw) (h5 : Cond.code y bytes maxL ret ∈ gw)
    (hd : y.cls = RX4 ∧ y.cls ≠ "java/lang/invoke/MethodHandle" ∧ y.cls ≠ "java/lang/invoke/VarHandle" ∧ (parseMethodDescriptor y.desc).map (fun d => d.parameters.length) = some As.length) (hrc : rm.cells = 0) (hrs : rm.slots = 0) (hR : rm.frames + 1 ≤ R.frames ∧ 8 + (maxL + 11) + rm.locals ≤ R.locals) (hst : st0 = As.reverse ++ .ref mm :: rest) (hW : 2 * (F0 m pc ls st0).monitorRoom + (rest.map fun v => v.category).sum ≤ 8) (hdg : decode cc pc = .ok (.invokevirtual idx, 3)) (hf : cells + 0 ≤ R.cells ∧ slots + 0 ≤ R.slots)
    (kk : ∀ r : Int32, post r → W p l e R s m args below meth c H locs cells slots Q (F0 m (pc + 3) ls (.int r :: rest))) : W p l e R s m args below meth c H locs cells slots Q (F0 m pc ls st0) :=
  vp_callSi (W.runV (As := As) (rest := rest) ⟨C.1, C.2.1, hml, C.2.2.1, C.2.2.2.1⟩ hM (cwV As.length C.2.2.2.1 (gw_V h1 h2 h3 kN_X4 h5) rfl hrc hrs hd hR) (r_pre C w) rfl rfl hls hst hW hdg hf) kk
/-- a call of the reference's own method that writes, an int its answer -/
theorem r_calli {post : Int32 → Prop} (C : Cx p c cc s m args RX4 D (gTy cI cZ cN cO)) (w : rWd D cI cZ A H0 mm d σ H locs) (hml : c.maxLocals = nL) (hls : ls.size = nL) (hM : Met l y (.code y bytes maxL ret :: gw) rm (va_Pc (.ref mm :: As) (rH D cI cZ cN cO A mm d σ)) (va_Qi (fun (r : Int32) (_ : Unit) => post r) (fun _ t => rH D cI cZ cN cO A mm d σ' t ∧ K) A) 0 0 A) (h1 : Cond.methodLink RX4 idx y ∈ gw) (h2 : Cond.instanceMethod y ∈ gw) (h3 : Cond.selects RX4 y y ∈ gw) (h5 : Cond.code y bytes maxL ret ∈ gw)
    (hd : y.cls = RX4 ∧ y.cls ≠ "java/lang/invoke/MethodHandle" ∧ y.cls ≠ "java/lang/invoke/VarHandle" ∧ (parseMethodDescriptor y.desc).map (fun d => d.parameters.length) = some As.length) (hrc : rm.cells = 0) (hrs : rm.slots = 0) (hR : rm.frames + 1 ≤ R.frames ∧ 8 + (maxL + 11) + rm.locals ≤ R.locals) (hst : st0 = As.reverse ++ .ref mm :: rest) (hW : 2 * (F0 m pc ls st0).monitorRoom + (rest.map fun v => v.category).sum ≤ 8) (hdg : decode cc pc = .ok (.invokevirtual idx, 3)) (hf : cells + 0 ≤ R.cells ∧ slots + 0 ≤ R.slots)
    (kk : ∀ (r : Int32) (H1 : Heap) (locs1 : List Loc), post r → rWd D cI cZ A H0 mm d σ' H1 locs1 → K → W p l e R s m args below meth c H1 locs1 cells slots Q (F0 m (pc + 3) ls (.int r :: rest))) : W p l e R s m args below meth c H locs cells slots Q (F0 m pc ls st0) :=
  va_calli (va_runV (As := As) (rest := rest) ⟨C.1, C.2.1, hml, C.2.2.1, C.2.2.2.1⟩ hM (cwV As.length C.2.2.2.1 (gw_V h1 h2 h3 kN_X4 h5) rfl hrc hrs hd hR) (r_pre C w) rfl rfl hls hst hW hdg hf) w.2.2 (fun q _ h => h) (fun q h => h) (fun r u t H1 locs1 ht hvm hp hB hz hk hS => kk r H1 locs1 hp ⟨by rw [← ht]; exact hB.1.1, hB.1.2.2, hS⟩ hB.2)
/-- the same, without an answer -/
theorem r_callv (C : Cx p c cc s m args RX4 D (gTy cI cZ cN cO)) (w : rWd D cI cZ A H0 mm d σ H locs) (hml : c.maxLocals = nL) (hls : ls.size = nL) (hM : Met l y (.code y bytes maxL ret :: gw) rm (va_Pc (.ref mm :: As) (rH D cI cZ cN cO A mm d σ)) (va_Qv (fun _ : Unit => True) (fun _ t => rH D cI cZ cN cO A mm d σ' t ∧ K) A) 0 0 A) (h1 : Cond.methodLink RX4 idx y ∈ gw) (h2 : Cond.instanceMethod y ∈ gw) (h3 : Cond.selects RX4 y y ∈ gw) (h5 : Cond.code y bytes maxL ret ∈ gw)
    (hd : y.cls = RX4 ∧ y.cls ≠ "java/lang/invoke/MethodHandle" ∧ y.cls ≠ "java/lang/invoke/VarHandle" ∧ (parseMethodDescriptor y.desc).map (fun d => d.parameters.length) = some As.length) (hrc : rm.cells = 0) (hrs : rm.slots = 0) (hR : rm.frames + 1 ≤ R.frames ∧ 8 + (maxL + 11) + rm.locals ≤ R.locals) (hst : st0 = As.reverse ++ .ref mm :: rest) (hW : 2 * (F0 m pc ls st0).monitorRoom + (rest.map fun v => v.category).sum ≤ 8) (hdg : decode cc pc = .ok (.invokevirtual idx, 3)) (hf : cells + 0 ≤ R.cells ∧ slots + 0 ≤ R.slots)
    (kk : ∀ (H1 : Heap) (locs1 : List Loc), rWd D cI cZ A H0 mm d σ' H1 locs1 → K → W p l e R s m args below meth c H1 locs1 cells slots Q (F0 m (pc + 3) ls rest)) : W p l e R s m args below meth c H locs cells slots Q (F0 m pc ls st0) :=
  va_callv (va_runV (As := As) (rest := rest) ⟨C.1, C.2.1, hml, C.2.2.1, C.2.2.2.1⟩ hM (cwV As.length C.2.2.2.1 (gw_V h1 h2 h3 kN_X4 h5) rfl hrc hrs hd hR) (r_pre C w) rfl rfl hls hst hW hdg hf) w.2.2 (fun q _ h => h) (fun q h => h) (fun u t H1 locs1 ht hvm hp hB hz hk hS => kk H1 locs1 ⟨by rw [← ht]; exact hB.1.1, hB.1.2.2, hS⟩ hB.2)
end RC
end
section
def itr (f : Nat → RS → RS) : Nat → RS → RS
  | 0, σ => σ
  | i + 1, σ => f i (itr f i σ)
theorem rOK.nn {n : Nat} {σ : RS} (h : rOK n σ) : σ.1 0 = nI n := h.2.2.1
set_option maxHeartbeats 4000000 in
set_option maxRecDepth 100000 in
theorem q_thrown (l : Launch) (D : va_G) (cI cZ cN cO : ClassId) (A : Nat → Prop) (mm : Nat) (d : Nat → Nat) (n : Nat) (σ : RS)  (ok : rOK n σ)  : Met l yX4_thrown (.code yX4_thrown cX4_thrown 1 (some .int) :: gw) ({ frames := 0, cells := 0, slots := 0, locals := 0 }) (va_Pc (.ref mm :: []) (rH D cI cZ cN cO A mm d σ)) (vp_Si (fun r => r = σ.1 1)) 0 0 (fun _ => False) := by
  refine Met.ofW (cc := cX4_thrown) (maxL := 1) (ret := (some .int)) (by decide) rfl ?_
  intro p e s m args below meth c s₁ B hml hv
  obtain ⟨rfl, hP, hK, hD⟩ := hv
  have hx := B.exec
  have hb := B.bytes
  have hr := B.returns
  have hts := atoms_spec (ws := (.code yX4_thrown cX4_thrown 1 (some .int) :: gw)) B.pre
  have hg : ∀ w ∈ gw, w.before _ s = true := fun w h => hts w (List.mem_cons_of_mem _ h)
  have hown : s.vm.findClass RX4 = some m.cls := findClass_of_methodNamed B.named
  have hlocks := B.notSynchronized
  have C : Cx p c cX4_thrown s m _ RX4 D (gTy cI cZ cN cO) := ⟨hx, hb, hown, hg, hK⟩
  have w : rWd D cI cZ A s.heap mm d σ s.heap [] := ⟨hP, hD, va_S.rf⟩
  have hl := lv_entry ([.ref mm]) (n := 1) (Nat.le_of_ble_eq_true rfl)
  rw [lg_entry_eq]
  generalize (lg_sl ([.ref mm]) ++ List.replicate (1 - (lg_sl ([.ref mm])).length) Slot.unset).toArray = ls at hl ⊢
  have hl : lv_has ls 1 [(0, .ref mm)] := hl
  refine lv_aload_n hx hb dX4_thrown_0 rfl (lv_at hl 0 rfl) ?_
  refine r_get_1 C w dX4_thrown_1 ?_
  refine lv_topi (fun t_1 et_1 => ?_)
  exact W.iret hx hb hr (fun t ht hW => ⟨_, rfl, et_1, ht⟩) (fun _ h => by cases h) dX4_thrown_4
set_option maxHeartbeats 4000000 in
set_option maxRecDepth 100000 in
theorem q_isNode (l : Launch) (D : va_G) (cI cZ cN cO : ClassId) (A : Nat → Prop) (mm : Nat) (d : Nat → Nat) (n : Nat) (σ : RS) (k : Int32) (ok : rOK n σ)  : Met l yX4_isNode (.code yX4_isNode cX4_isNode 2 (some .boolean) :: gw) ({ frames := 0, cells := 0, slots := 0, locals := 0 }) (va_Pc (.ref mm :: [.int k]) (rH D cI cZ cN cO A mm d σ)) (vp_Si (fun r => r = if isN n k then 1 else 0)) 0 0 (fun _ => False) := by
  refine Met.ofW (cc := cX4_isNode) (maxL := 2) (ret := (some .boolean)) (by decide) rfl ?_
  intro p e s m args below meth c s₁ B hml hv
  obtain ⟨rfl, hP, hK, hD⟩ := hv
  have hx := B.exec
  have hb := B.bytes
  have hr := B.returns
  have hts := atoms_spec (ws := (.code yX4_isNode cX4_isNode 2 (some .boolean) :: gw)) B.pre
  have hg : ∀ w ∈ gw, w.before _ s = true := fun w h => hts w (List.mem_cons_of_mem _ h)
  have hown : s.vm.findClass RX4 = some m.cls := findClass_of_methodNamed B.named
  have hlocks := B.notSynchronized
  have C : Cx p c cX4_isNode s m _ RX4 D (gTy cI cZ cN cO) := ⟨hx, hb, hown, hg, hK⟩
  have w : rWd D cI cZ A s.heap mm d σ s.heap [] := ⟨hP, hD, va_S.rf⟩
  have hl := lv_entry ([.ref mm, .int k]) (n := 2) (Nat.le_of_ble_eq_true rfl)
  rw [lg_entry_eq]
  generalize (lg_sl ([.ref mm, .int k]) ++ List.replicate (2 - (lg_sl ([.ref mm, .int k])).length) Slot.unset).toArray = ls at hl ⊢
  have hl : lv_has ls 2 [(0, .ref mm), (1, .int k)] := hl
  refine lv_iload_n hx hb dX4_isNode_0 rfl (lv_at hl 1 rfl) ?_
  refine lv_if_lt (tgt := 16) hx hb dX4_isNode_1 (by decide) (fun c_1 => ?_) (fun c_1 => ?_)
  · refine lv_iconst (v := 0) hx hb dX4_isNode_16 (by decide) ?_
    exact W.zret (v := 0) (ty := .boolean) hx hb hr rfl (fun t ht hW => ⟨_, rfl, (by first | exact (if_pos ⟨by assumption, by assumption⟩).symm | exact (if_neg (fun h => h.1 (by assumption))).symm | exact (if_neg (fun h => h.2 (by assumption))).symm), ht⟩) (fun _ h => by cases h) dX4_isNode_17
  · refine lv_iload_n hx hb dX4_isNode_4 rfl (lv_at hl 1 rfl) ?_
    refine lv_aload_n hx hb dX4_isNode_5 rfl (lv_at hl 0 rfl) ?_
    refine r_get_0 C w dX4_isNode_6 ?_
    rw [ok.nn]
    refine lv_icmp_ge (tgt := 16) hx hb dX4_isNode_9 (by decide) (fun c_9 => ?_) (fun c_9 => ?_)
    · refine lv_iconst (v := 0) hx hb dX4_isNode_16 (by decide) ?_
      exact W.zret (v := 0) (ty := .boolean) hx hb hr rfl (fun t ht hW => ⟨_, rfl, (by first | exact (if_pos ⟨by assumption, by assumption⟩).symm | exact (if_neg (fun h => h.1 (by assumption))).symm | exact (if_neg (fun h => h.2 (by assumption))).symm), ht⟩) (fun _ h => by cases h) dX4_isNode_17
    · refine lv_iconst (v := 1) hx hb dX4_isNode_12 (by decide) ?_
      refine lv_goto (tgt := 17) hx hb dX4_isNode_13 (by decide) ?_
      exact W.zret (v := 1) (ty := .boolean) hx hb hr rfl (fun t ht hW => ⟨_, rfl, (by first | exact (if_pos ⟨by assumption, by assumption⟩).symm | exact (if_neg (fun h => h.1 (by assumption))).symm | exact (if_neg (fun h => h.2 (by assumption))).symm), ht⟩) (fun _ h => by cases h) dX4_isNode_17
set_option maxHeartbeats 4000000 in
set_option maxRecDepth 100000 in
theorem q_hasRoom (l : Launch) (D : va_G) (cI cZ cN cO : ClassId) (A : Nat → Prop) (mm : Nat) (d : Nat → Nat) (n : Nat) (σ : RS) (k : Int32) (ok : rOK n σ)  : Met l yX4_hasRoom (.code yX4_hasRoom cX4_hasRoom 2 (some .boolean) :: gw) ({ frames := 0, cells := 0, slots := 0, locals := 0 }) (va_Pc (.ref mm :: [.int k]) (rH D cI cZ cN cO A mm d σ)) (vp_Si (fun r => r = if ¬ 2000 < σ.1 9 + k then 1 else 0)) 0 0 (fun _ => False) := by
  refine Met.ofW (cc := cX4_hasRoom) (maxL := 2) (ret := (some .boolean)) (by decide) rfl ?_
  intro p e s m args below meth c s₁ B hml hv
  obtain ⟨rfl, hP, hK, hD⟩ := hv
  have hx := B.exec
  have hb := B.bytes
  have hr := B.returns
  have hts := atoms_spec (ws := (.code yX4_hasRoom cX4_hasRoom 2 (some .boolean) :: gw)) B.pre
  have hg : ∀ w ∈ gw, w.before _ s = true := fun w h => hts w (List.mem_cons_of_mem _ h)
  have hown : s.vm.findClass RX4 = some m.cls := findClass_of_methodNamed B.named
  have hlocks := B.notSynchronized
  have C : Cx p c cX4_hasRoom s m _ RX4 D (gTy cI cZ cN cO) := ⟨hx, hb, hown, hg, hK⟩
  have w : rWd D cI cZ A s.heap mm d σ s.heap [] := ⟨hP, hD, va_S.rf⟩
  have hl := lv_entry ([.ref mm, .int k]) (n := 2) (Nat.le_of_ble_eq_true rfl)
  rw [lg_entry_eq]
  generalize (lg_sl ([.ref mm, .int k]) ++ List.replicate (2 - (lg_sl ([.ref mm, .int k])).length) Slot.unset).toArray = ls at hl ⊢
  have hl : lv_has ls 2 [(0, .ref mm), (1, .int k)] := hl
  refine lv_aload_n hx hb dX4_hasRoom_0 rfl (lv_at hl 0 rfl) ?_
  refine r_get_9 C w dX4_hasRoom_1 ?_
  refine lv_topi (fun t_1 et_1 => ?_)
  refine lv_iload_n hx hb dX4_hasRoom_4 rfl (lv_at hl 1 rfl) ?_
  refine lv_iadd hx hb dX4_hasRoom_5 ?_
  refine lv_topi (fun t_2 et_2 => ?_)
  refine lv_sipush (v := 2000) hx hb dX4_hasRoom_6 (by decide) ?_
  refine lv_icmp_gt (tgt := 16) hx hb dX4_hasRoom_9 (by decide) (fun c_9 => ?_) (fun c_9 => ?_)
  · refine lv_iconst (v := 0) hx hb dX4_hasRoom_16 (by decide) ?_
    exact W.zret (v := 0) (ty := .boolean) hx hb hr rfl (fun t ht hW => ⟨_, rfl, (by first | exact (if_pos (by rw [← et_1, ← et_2]; assumption)).symm | exact (if_neg (fun h => h (by rw [← et_1, ← et_2]; assumption))).symm), ht⟩) (fun _ h => by cases h) dX4_hasRoom_17
  · refine lv_iconst (v := 1) hx hb dX4_hasRoom_12 (by decide) ?_
    refine lv_goto (tgt := 17) hx hb dX4_hasRoom_13 (by decide) ?_
    exact W.zret (v := 1) (ty := .boolean) hx hb hr rfl (fun t ht hW => ⟨_, rfl, (by first | exact (if_pos (by rw [← et_1, ← et_2]; assumption)).symm | exact (if_neg (fun h => h (by rw [← et_1, ← et_2]; assumption))).symm), ht⟩) (fun _ h => by cases h) dX4_hasRoom_17
set_option maxHeartbeats 4000000 in
set_option maxRecDepth 100000 in
theorem q_isOperation (l : Launch) (D : va_G) (cI cZ cN cO : ClassId) (A : Nat → Prop) (mm : Nat) (d : Nat → Nat) (n : Nat) (σ : RS) (k : Int32) (ok : rOK n σ)  : Met l yX4_isOperation (.code yX4_isOperation cX4_isOperation 2 (some .boolean) :: gw) ({ frames := 0, cells := 0, slots := 0, locals := 0 }) (va_Pc (.ref mm :: [.int k]) (rH D cI cZ cN cO A mm d σ)) (vp_Si (fun r => r = if (¬ k < 1 ∧ ¬ σ.1 37 < k) then 1 else 0)) 0 0 (fun _ => False) := by
  refine Met.ofW (cc := cX4_isOperation) (maxL := 2) (ret := (some .boolean)) (by decide) rfl ?_
  intro p e s m args below meth c s₁ B hml hv
  obtain ⟨rfl, hP, hK, hD⟩ := hv
  have hx := B.exec
  have hb := B.bytes
  have hr := B.returns
  have hts := atoms_spec (ws := (.code yX4_isOperation cX4_isOperation 2 (some .boolean) :: gw)) B.pre
  have hg : ∀ w ∈ gw, w.before _ s = true := fun w h => hts w (List.mem_cons_of_mem _ h)
  have hown : s.vm.findClass RX4 = some m.cls := findClass_of_methodNamed B.named
  have hlocks := B.notSynchronized
  have C : Cx p c cX4_isOperation s m _ RX4 D (gTy cI cZ cN cO) := ⟨hx, hb, hown, hg, hK⟩
  have w : rWd D cI cZ A s.heap mm d σ s.heap [] := ⟨hP, hD, va_S.rf⟩
  have hl := lv_entry ([.ref mm, .int k]) (n := 2) (Nat.le_of_ble_eq_true rfl)
  rw [lg_entry_eq]
  generalize (lg_sl ([.ref mm, .int k]) ++ List.replicate (2 - (lg_sl ([.ref mm, .int k])).length) Slot.unset).toArray = ls at hl ⊢
  have hl : lv_has ls 2 [(0, .ref mm), (1, .int k)] := hl
  refine lv_iload_n hx hb dX4_isOperation_0 rfl (lv_at hl 1 rfl) ?_
  refine lv_iconst (v := 1) hx hb dX4_isOperation_1 (by decide) ?_
  refine lv_icmp_lt (tgt := 17) hx hb dX4_isOperation_2 (by decide) (fun c_2 => ?_) (fun c_2 => ?_)
  · refine lv_iconst (v := 0) hx hb dX4_isOperation_17 (by decide) ?_
    exact W.zret (v := 0) (ty := .boolean) hx hb hr rfl (fun t ht hW => ⟨_, rfl, (by first | exact (if_pos ⟨by assumption, by rw [← et_1]; assumption⟩).symm | exact (if_neg (fun h => h.1 (by assumption))).symm | exact (if_neg (fun h => h.2 (by rw [← et_1]; assumption))).symm), ht⟩) (fun _ h => by cases h) dX4_isOperation_18
  · refine lv_iload_n hx hb dX4_isOperation_5 rfl (lv_at hl 1 rfl) ?_
    refine lv_aload_n hx hb dX4_isOperation_6 rfl (lv_at hl 0 rfl) ?_
    refine r_get_37 C w dX4_isOperation_7 ?_
    refine lv_topi (fun t_1 et_1 => ?_)
    refine lv_icmp_gt (tgt := 17) hx hb dX4_isOperation_10 (by decide) (fun c_10 => ?_) (fun c_10 => ?_)
    · refine lv_iconst (v := 0) hx hb dX4_isOperation_17 (by decide) ?_
      exact W.zret (v := 0) (ty := .boolean) hx hb hr rfl (fun t ht hW => ⟨_, rfl, (by first | exact (if_pos ⟨by assumption, by rw [← et_1]; assumption⟩).symm | exact (if_neg (fun h => h.1 (by assumption))).symm | exact (if_neg (fun h => h.2 (by rw [← et_1]; assumption))).symm), ht⟩) (fun _ h => by cases h) dX4_isOperation_18
    · refine lv_iconst (v := 1) hx hb dX4_isOperation_13 (by decide) ?_
      refine lv_goto (tgt := 18) hx hb dX4_isOperation_14 (by decide) ?_
      exact W.zret (v := 1) (ty := .boolean) hx hb hr rfl (fun t ht hW => ⟨_, rfl, (by first | exact (if_pos ⟨by assumption, by rw [← et_1]; assumption⟩).symm | exact (if_neg (fun h => h.1 (by assumption))).symm | exact (if_neg (fun h => h.2 (by rw [← et_1]; assumption))).symm), ht⟩) (fun _ h => by cases h) dX4_isOperation_18
set_option maxHeartbeats 4000000 in
set_option maxRecDepth 100000 in
theorem q_isQuery (l : Launch) (D : va_G) (cI cZ cN cO : ClassId) (A : Nat → Prop) (mm : Nat) (d : Nat → Nat) (n : Nat) (σ : RS) (k : Int32) (ok : rOK n σ) (hk : vp_in k 512) : Met l yX4_isQuery (.code yX4_isQuery cX4_isQuery 2 (some .boolean) :: gw) ({ frames := 0, cells := 0, slots := 0, locals := 0 }) (va_Pc (.ref mm :: [.int k]) (rH D cI cZ cN cO A mm d σ)) (vp_Si (fun r => r = if ¬ σ.2 27 k.toNatClampNeg < 10 then 1 else 0)) 0 0 (fun _ => False) := by
  refine Met.ofW (cc := cX4_isQuery) (maxL := 2) (ret := (some .boolean)) (by decide) rfl ?_
  intro p e s m args below meth c s₁ B hml hv
  obtain ⟨rfl, hP, hK, hD⟩ := hv
  have hx := B.exec
  have hb := B.bytes
  have hr := B.returns
  have hts := atoms_spec (ws := (.code yX4_isQuery cX4_isQuery 2 (some .boolean) :: gw)) B.pre
  have hg : ∀ w ∈ gw, w.before _ s = true := fun w h => hts w (List.mem_cons_of_mem _ h)
  have hown : s.vm.findClass RX4 = some m.cls := findClass_of_methodNamed B.named
  have hlocks := B.notSynchronized
  have C : Cx p c cX4_isQuery s m _ RX4 D (gTy cI cZ cN cO) := ⟨hx, hb, hown, hg, hK⟩
  have w : rWd D cI cZ A s.heap mm d σ s.heap [] := ⟨hP, hD, va_S.rf⟩
  have hl := lv_entry ([.ref mm, .int k]) (n := 2) (Nat.le_of_ble_eq_true rfl)
  rw [lg_entry_eq]
  generalize (lg_sl ([.ref mm, .int k]) ++ List.replicate (2 - (lg_sl ([.ref mm, .int k])).length) Slot.unset).toArray = ls at hl ⊢
  have hl : lv_has ls 2 [(0, .ref mm), (1, .int k)] := hl
  refine lv_aload_n hx hb dX4_isQuery_0 rfl (lv_at hl 0 rfl) ?_
  refine r_get_27 C w dX4_isQuery_1 ?_
  refine lv_iload_n hx hb dX4_isQuery_4 rfl (lv_at hl 1 rfl) ?_
  refine r_ld_27 C w hk dX4_isQuery_5 ?_
  refine lv_topi (fun t_1 et_1 => ?_)
  refine lv_bipush (v := 10) hx hb dX4_isQuery_6 (by decide) ?_
  refine lv_icmp_lt (tgt := 15) hx hb dX4_isQuery_8 (by decide) (fun c_8 => ?_) (fun c_8 => ?_)
  · refine lv_iconst (v := 0) hx hb dX4_isQuery_15 (by decide) ?_
    exact W.zret (v := 0) (ty := .boolean) hx hb hr rfl (fun t ht hW => ⟨_, rfl, (by first | exact (if_pos (by rw [← et_1]; assumption)).symm | exact (if_neg (fun h => h (by rw [← et_1]; assumption))).symm), ht⟩) (fun _ h => by cases h) dX4_isQuery_16
  · refine lv_iconst (v := 1) hx hb dX4_isQuery_11 (by decide) ?_
    refine lv_goto (tgt := 16) hx hb dX4_isQuery_12 (by decide) ?_
    exact W.zret (v := 1) (ty := .boolean) hx hb hr rfl (fun t ht hW => ⟨_, rfl, (by first | exact (if_pos (by rw [← et_1]; assumption)).symm | exact (if_neg (fun h => h (by rw [← et_1]; assumption))).symm), ht⟩) (fun _ h => by cases h) dX4_isQuery_16
end
section
/-- send into the free slot j -/
def rSend (σ : RS) (j : Nat) (q1 q2 q3 q4 : Int32) : RS := rI (rI (rA (rA (rA (rA (rA (rA σ 7 (nI j).toNatClampNeg 1) 2 (nI j).toNatClampNeg q1) 3 (nI j).toNatClampNeg q2) 4 (nI j).toNatClampNeg q3) 5 (nI j).toNatClampNeg q4) 8 (σ.1 9).toNatClampNeg (nI j)) 9 (σ.1 9 + 1)) 10 (σ.1 10 + 1)
/-- how many of the first i slots are used; the first free one -/
def cn (u : Nat → Int32) : Nat → Nat
  | 0 => 0
  | i + 1 => cn u i + (if u i = 0 then 0 else 1)
def frN (u : Nat → Int32) : Nat → Nat → Nat
  | 0, i => i
  | f + 1, i => if u i = 0 then i else frN u f (i + 1)
def fr (u : Nat → Int32) : Nat := frN u 2001 0
theorem frN_spec (u : Nat → Int32) : ∀ (f i : Nat), i ≤ frN u f i ∧ frN u f i ≤ i + f ∧ (∀ j, i ≤ j → j < frN u f i → ¬ u j = 0) ∧ (frN u f i < i + f → u (frN u f i) = 0) := by
  intro f
  induction f with
  | zero => intro i; exact ⟨Nat.le_refl _, Nat.le_refl _, fun j h1 h2 => absurd h2 (Nat.not_lt.mpr h1), fun h => absurd h (Nat.lt_irrefl _)⟩
  | succ f ih =>
    intro i
    unfold frN
    by_cases h : u i = 0
    · rw [if_pos h]; exact ⟨Nat.le_refl _, by omega, fun j h1 h2 => absurd h2 (Nat.not_lt.mpr h1), fun _ => h⟩
    · rw [if_neg h]
      obtain ⟨h1, h2, h3, h4⟩ := ih (i + 1)
      refine ⟨by omega, by omega, fun j h5 h6 => ?_, fun h5 => h4 (by omega)⟩
      by_cases hj : j = i
      · subst hj; exact h
      · exact h3 j (by omega) h6
theorem cn_le (u : Nat → Int32) : ∀ i, cn u i ≤ i := by
  intro i
  induction i with
  | zero => exact Nat.le_refl _
  | succ i ih => unfold cn; split <;> omega
theorem cn_full (u : Nat → Int32) : ∀ i, (∀ j, j < i → ¬ u j = 0) → cn u i = i := by
  intro i
  induction i with
  | zero => intro _; rfl
  | succ i ih => intro h; unfold cn; rw [ih (fun j hj => h j (by omega)), if_neg (h i (by omega))]
theorem fr_spec {u : Nat → Int32} (h : cn u 2001 < 2001) : fr u < 2001 ∧ u (fr u) = 0 ∧ ∀ j, j < fr u → ¬ u j = 0 := by
  obtain ⟨-, h2, h3, h4⟩ := frN_spec u 2001 0
  have hlt : fr u < 2001 := by
    rcases Nat.lt_or_ge (fr u) 2001 with q | q
    · exact q
    · have : cn u 2001 = 2001 := cn_full u 2001 (fun j hj => h3 j (Nat.zero_le _) (Nat.lt_of_lt_of_le hj q))
      omega
  exact ⟨hlt, h4 (by have : fr u < 0 + 2001 := by omega
                     exact this), fun j hj => h3 j (Nat.zero_le _) hj⟩
theorem cn_set {u : Nat → Int32} {k : Nat} {v : Int32} (hu : u k = 0) (hv : ¬ v = 0) : ∀ i, cn (upd u k v) i = cn u i + (if k < i then 1 else 0) := by
  intro i
  induction i with
  | zero => simp [cn]
  | succ i ih =>
    unfold cn
    rw [ih]
    by_cases h : i = k
    · subst h; rw [upd_self, if_neg hv, hu, if_pos rfl, if_neg (by omega), if_pos (by omega)]
    · rw [upd_ne _ h]
      by_cases h2 : k < i
      · rw [if_pos h2, if_pos (show k < i + 1 by omega)]; omega
      · rw [if_neg h2, if_neg (show ¬ k < i + 1 by omega)]; omega
set_option maxHeartbeats 4000000 in
set_option maxRecDepth 100000 in
theorem ql_send {p : Program} {l : Launch} {e : Env} {R : Room} {s : State} {m : MethodId} {args : Array Value} {below : List Frame} {meth : Method} {c : Code} {cells slots : Nat} {Q : State → Prop} {D : va_G} {cI cZ cN cO : ClassId} {A : Nat → Prop} {H0 : Heap} {mm : Nat} {d : Nat → Nat} {n : Nat} {H : Heap} {locs : List Loc} (C : Cx p c cX4_send s m args RX4 D (gTy cI cZ cN cO)) (hml : c.maxLocals = 6) {σ : RS} {q1 q2 q3 q4 : Int32} (j : Nat) (w : rWd D cI cZ A H0 mm d σ H locs) (ok : rOK n σ) (hj : j < 2001) (hfree : σ.2 7 j = 0) (hbusy : ∀ i, i < j → ¬ σ.2 7 i = 0) (kk : ∀ ls : Array Slot, lv_has ls 6 [(5, .int (nI j)), (0, .ref mm), (1, .int q1), (2, .int q2), (3, .int q3), (4, .int q4)] → W p l e R s m args below meth c H locs cells slots Q (F0 m 19 ls [])) : ∀ (fu i : Nat), i + fu = j → ∀ ls : Array Slot, lv_has ls 6 [(5, .int (nI i)), (0, .ref mm), (1, .int q1), (2, .int q2), (3, .int q3), (4, .int q4)] → W p l e R s m args below meth c H locs cells slots Q (F0 m 3 ls []) := by
  intro fu
  induction fu with
  | zero =>
    intro i hik
    intro ls hl
    have hx := C.1
    have hb := C.2.1
    have hi : j = i := by omega
    subst hi
    refine lv_aload_n hx hb dX4_send_3 rfl (lv_at hl 1 rfl) ?_
    refine r_get_7 C w dX4_send_4 ?_
    refine lv_iload hx hb dX4_send_7 (lv_at hl 0 rfl) ?_
    refine r_ld_7 C w (vp_in_nI (by omega) (by omega)) dX4_send_9 ?_
    refine lv_topi (fun t_1 et_1 => ?_)
    refine lv_if_eq (tgt := 19) hx hb dX4_send_10 (by decide) (fun c_10 => ?_) (fun c_10 => absurd (by rw [et_1, nI_clamp (by omega)]; exact hfree) c_10)
    exact kk ls (lv_sub hl [0, 1, 2, 3, 4, 5] rfl)
  | succ fu ih =>
    intro i hik
    intro ls hl
    have hx := C.1
    have hb := C.2.1
    have hi : i < j := by omega
    refine lv_aload_n hx hb dX4_send_3 rfl (lv_at hl 1 rfl) ?_
    refine r_get_7 C w dX4_send_4 ?_
    refine lv_iload hx hb dX4_send_7 (lv_at hl 0 rfl) ?_
    refine r_ld_7 C w (vp_in_nI (by omega) (by omega)) dX4_send_9 ?_
    refine lv_topi (fun t_1 et_1 => ?_)
    refine lv_if_eq (tgt := 19) hx hb dX4_send_10 (by decide) (fun c_10 => absurd c_10 (by rw [et_1, nI_clamp (by omega)]; exact hbusy i hi)) (fun c_10 => ?_)
    obtain ⟨x_2, ex_2⟩ : ∃ y : Int32, y = (nI i) + 1 := ⟨_, rfl⟩
    refine lv_iinc (v := x_2) (lv' := [(5, _), (0, _), (1, _), (2, _), (3, _), (4, _)]) C.1 C.2.1 dX4_send_13 hl (k := 0) rfl (by rw [ex_2]; rfl) (by decide) rfl (fun ls hl => ?_)
    refine lv_goto (tgt := 3) hx hb dX4_send_16 (by decide) ?_
    have hx2 : x_2 = nI (i + 1) := by rw [ex_2]; exact nI_1 i
    rw [hx2] at hl
    exact ih (i + 1) (by omega) ls (lv_sub hl [0, 1, 2, 3, 4, 5] rfl)
set_option maxHeartbeats 4000000 in
set_option maxRecDepth 100000 in
/-- send(..) -/
theorem q_send (l : Launch) (D : va_G) (cI cZ cN cO : ClassId) (A : Nat → Prop) (mm : Nat) (d : Nat → Nat) (n : Nat) (σ : RS) (j : Nat) (q1 q2 q3 q4 : Int32) (ok : rOK n σ) (hj : j < 2001) (hfree : σ.2 7 j = 0) (hbusy : ∀ i, i < j → ¬ σ.2 7 i = 0) (h2 : vp_in q2 n) (h3 : vp_in q3 n) (hmn : vp_in (σ.1 9 + 1) 2001) : Met l yX4_send (.code yX4_send cX4_send 6 (some .int) :: gw) ({ frames := 0, cells := 0, slots := 0, locals := 0 }) (va_Pc (.ref mm :: [.int q1, .int q2, .int q3, .int q4]) (rH D cI cZ cN cO A mm d σ)) (va_Qi (fun (r : Int32) (_ : Unit) => r = nI j) (fun _ t => rH D cI cZ cN cO A mm d (rSend σ j q1 q2 q3 q4) t ∧ rOK n (rSend σ j q1 q2 q3 q4)) A) 0 0 A := by
  refine Met.ofW (cc := cX4_send) (maxL := 6) (ret := (some .int)) (by decide) rfl ?_
  intro p e s m args below meth c s₁ B hml hv
  obtain ⟨rfl, hP, hK, hD⟩ := hv
  have hx := B.exec
  have hb := B.bytes
  have hr := B.returns
  have hts := atoms_spec (ws := (.code yX4_send cX4_send 6 (some .int) :: gw)) B.pre
  have hg : ∀ w ∈ gw, w.before _ s = true := fun w h => hts w (List.mem_cons_of_mem _ h)
  have hown : s.vm.findClass RX4 = some m.cls := findClass_of_methodNamed B.named
  have hlocks := B.notSynchronized
  have C : Cx p c cX4_send s m _ RX4 D (gTy cI cZ cN cO) := ⟨hx, hb, hown, hg, hK⟩
  have w : rWd D cI cZ A s.heap mm d σ s.heap [] := ⟨hP, hD, va_S.rf⟩
  have hl := lv_entry ([.ref mm, .int q1, .int q2, .int q3, .int q4]) (n := 6) (Nat.le_of_ble_eq_true rfl)
  rw [lg_entry_eq]
  generalize (lg_sl ([.ref mm, .int q1, .int q2, .int q3, .int q4]) ++ List.replicate (6 - (lg_sl ([.ref mm, .int q1, .int q2, .int q3, .int q4])).length) Slot.unset).toArray = ls at hl ⊢
  have hl : lv_has ls 6 [(0, .ref mm), (1, .int q1), (2, .int q2), (3, .int q3), (4, .int q4)] := hl
  refine lv_iconst (v := 0) hx hb dX4_send_0 (by decide) ?_
  refine lv_istore (lv' := [(5, _), (0, _), (1, _), (2, _), (3, _), (4, _)]) C.1 C.2.1 dX4_send_1 hl (by decide) rfl (fun ls hl => ?_)
  rw [← nI_0] at hl
  refine ql_send C hml j w ok hj hfree hbusy ?_ j 0 (by omega) ls (lv_sub hl [0, 1, 2, 3, 4, 5] rfl)
  intro ls hl
  refine lv_aload_n hx hb dX4_send_19 rfl (lv_at hl 1 rfl) ?_
  refine r_get_7 C w dX4_send_20 ?_
  refine lv_iload hx hb dX4_send_23 (lv_at hl 0 rfl) ?_
  refine lv_iconst (v := 1) hx hb dX4_send_25 (by decide) ?_
  refine r_st_7 (v := 1) C w rfl (vp_in_nI hj (by omega)) dX4_send_26 (fun H locs w => ?_)
  have ok : rOK n _ := rOK.st ok (k := 7) (i := (nI j).toNatClampNeg) (v := 1) (fun b hb => by cases hb)
  refine lv_aload_n hx hb dX4_send_27 rfl (lv_at hl 1 rfl) ?_
  refine r_get_2 C w dX4_send_28 ?_
  refine lv_iload hx hb dX4_send_31 (lv_at hl 0 rfl) ?_
  refine lv_iload_n hx hb dX4_send_33 rfl (lv_at hl 2 rfl) ?_
  refine r_st_2 C w (vp_in_nI hj (by omega)) dX4_send_34 (fun H locs w => ?_)
  have ok : rOK n _ := rOK.st ok (k := 2) (i := (nI j).toNatClampNeg) (v := q1) (fun b hb => by cases hb)
  refine lv_aload_n hx hb dX4_send_35 rfl (lv_at hl 1 rfl) ?_
  refine r_get_3 C w dX4_send_36 ?_
  refine lv_iload hx hb dX4_send_39 (lv_at hl 0 rfl) ?_
  refine lv_iload_n hx hb dX4_send_41 rfl (lv_at hl 3 rfl) ?_
  refine r_st_3 C w (vp_in_nI hj (by omega)) dX4_send_42 (fun H locs w => ?_)
  have ok : rOK n _ := rOK.st ok (k := 3) (i := (nI j).toNatClampNeg) (v := q2) (fun b hb => by cases hb; exact h2)
  refine lv_aload_n hx hb dX4_send_43 rfl (lv_at hl 1 rfl) ?_
  refine r_get_4 C w dX4_send_44 ?_
  refine lv_iload hx hb dX4_send_47 (lv_at hl 0 rfl) ?_
  refine lv_iload_n hx hb dX4_send_49 rfl (lv_at hl 4 rfl) ?_
  refine r_st_4 C w (vp_in_nI hj (by omega)) dX4_send_50 (fun H locs w => ?_)
  have ok : rOK n _ := rOK.st ok (k := 4) (i := (nI j).toNatClampNeg) (v := q3) (fun b hb => by cases hb; exact h3)
  refine lv_aload_n hx hb dX4_send_51 rfl (lv_at hl 1 rfl) ?_
  refine r_get_5 C w dX4_send_52 ?_
  refine lv_iload hx hb dX4_send_55 (lv_at hl 0 rfl) ?_
  refine lv_iload hx hb dX4_send_57 (lv_at hl 5 rfl) ?_
  refine r_st_5 C w (vp_in_nI hj (by omega)) dX4_send_59 (fun H locs w => ?_)
  have ok : rOK n _ := rOK.st ok (k := 5) (i := (nI j).toNatClampNeg) (v := q4) (fun b hb => by cases hb)
  refine lv_aload_n hx hb dX4_send_60 rfl (lv_at hl 1 rfl) ?_
  refine r_get_8 C w dX4_send_61 ?_
  refine lv_aload_n hx hb dX4_send_64 rfl (lv_at hl 1 rfl) ?_
  refine r_get_9 C w dX4_send_65 ?_
  refine lv_topi (fun t_1 et_1 => ?_)
  refine lv_iload hx hb dX4_send_68 (lv_at hl 0 rfl) ?_
  refine r_st_8 C w (by rw [et_1]; exact ok.2.2.2.1) dX4_send_70 (fun H locs w => ?_)
  have ok : rOK n _ := rOK.st ok (k := 8) (i := t_1.toNatClampNeg) (v := nI j) (fun b hb => by cases hb; exact (vp_in_nI hj (by omega)))
  refine lv_aload_n hx hb dX4_send_71 rfl (lv_at hl 1 rfl) ?_
  refine lv_dup hx hb dX4_send_72 rfl ?_
  refine r_get_9 C w dX4_send_73 ?_
  refine lv_topi (fun t_2 et_2 => ?_)
  refine lv_iconst (v := 1) hx hb dX4_send_76 (by decide) ?_
  refine lv_iadd hx hb dX4_send_77 ?_
  refine lv_topi (fun t_3 et_3 => ?_)
  refine r_put_9 C w dX4_send_78 (fun H locs w => ?_)
  have ok : rOK n _ := rOK.put ok (k := 9) (v := t_3) (by decide) (fun _ => (by rw [et_3, et_2]; exact hmn)) (fun h => absurd h (by decide))
  refine lv_aload_n hx hb dX4_send_81 rfl (lv_at hl 1 rfl) ?_
  refine lv_dup hx hb dX4_send_82 rfl ?_
  refine r_get_10 C w dX4_send_83 ?_
  refine lv_topi (fun t_4 et_4 => ?_)
  refine lv_iconst (v := 1) hx hb dX4_send_86 (by decide) ?_
  refine lv_iadd hx hb dX4_send_87 ?_
  refine lv_topi (fun t_5 et_5 => ?_)
  refine r_put_10 C w dX4_send_88 (fun H locs w => ?_)
  have ok : rOK n _ := rOK.put ok (k := 10) (v := t_5) (by decide) (fun h => absurd h (by decide)) (fun h => absurd h (by decide))
  refine lv_iload hx hb dX4_send_91 (lv_at hl 0 rfl) ?_
  subst et_5 et_4 et_3 et_2 et_1
  exact W.iret hx hb hr (fun t ht hW => ⟨⟨_, (), rfl, rfl, ⟨by rw [ht]; exact w.1, va_K.moved hW.alike hK, w.2.1⟩, ok⟩, w.2.2.F ht⟩) w.2.2.2.2 dX4_send_93
end
section
def rVec (q : Nat) (k : Int32) (j i : Nat) (σ : RS) : RS := rA σ 6 ((31 : Int32) * nI j + nI i).toNatClampNeg (σ.2 q ((31 : Int32) * k + nI i).toNatClampNeg)
def rOneC (k : Int32) (i : Nat) (σ : RS) : RS := rSend σ (fr (σ.2 7)) 0 k (nI i) (σ.2 15 k.toNatClampNeg)
def rOneS (n q : Nat) (k : Int32) (i : Nat) (σ : RS) : RS := itr (rVec q k (fr (σ.2 7))) n (rSend σ (fr (σ.2 7)) 2 k (nI i) (σ.2 15 k.toNatClampNeg))
def rTo (k : Int32) (σ : RS) : RS := rA (rA σ 15 k.toNatClampNeg (σ.2 15 k.toNatClampNeg + 1)) 17 k.toNatClampNeg 0
def rToC (n : Nat) (k : Int32) (σ : RS) : RS := itr (rOneC k) n (rTo k σ)
def rToS (n q : Nat) (k : Int32) (σ : RS) : RS := itr (rOneS n q k) n (rTo k σ)
theorem rVec_7 (q : Nat) (k : Int32) (j m : Nat) (σ : RS) : (itr (rVec q k j) m σ).2 7 = σ.2 7 ∧ (itr (rVec q k j) m σ).1 = σ.1 := by
  induction m with
  | zero => exact ⟨rfl, rfl⟩
  | succ m ih => exact ⟨ih.1, ih.2⟩
/-- room for m messages more: in the slots, and in the row -/
def rRm (σ : RS) (m : Nat) : Prop := cn (σ.2 7) 2001 + m ≤ 2001 ∧ ∃ mn : Nat, σ.1 9 = nI mn ∧ mn + m ≤ 2000
theorem rRm.free {σ : RS} {m : Nat} (h : rRm σ (m + 1)) : fr (σ.2 7) < 2001 ∧ σ.2 7 (fr (σ.2 7)) = 0 ∧ ∀ j, j < fr (σ.2 7) → ¬ σ.2 7 j = 0 := fr_spec (by have := h.1; omega)
theorem rRm.inc {σ : RS} {m : Nat} (h : rRm σ (m + 1)) : vp_in (σ.1 9 + 1) 2001 := by
  obtain ⟨-, mn, h1, h2⟩ := h
  rw [h1, nI_1]; exact vp_in_nI (by omega) (by omega)
theorem rRm.send {σ : RS} {m : Nat} (h : rRm σ (m + 1)) (a b c r : Int32) : rRm (rSend σ (fr (σ.2 7)) a b c r) m := by
  obtain ⟨hf, hz, -⟩ := h.free
  obtain ⟨h1, mn, h2, h3⟩ := h
  refine ⟨?_, mn + 1, ?_, by omega⟩
  · show cn (upd (σ.2 7) (nI (fr (σ.2 7))).toNatClampNeg 1) 2001 + m ≤ 2001
    rw [nI_clamp (by omega), cn_set hz (by decide), if_pos hf]; omega
  · show σ.1 9 + 1 = _; rw [h2]; exact nI_1 mn
theorem rRm.vec {σ : RS} {m : Nat} (h : rRm σ m) (q : Nat) (k : Int32) (j i : Nat) : rRm (itr (rVec q k j) i σ) m := by
  obtain ⟨e1, e2⟩ := rVec_7 q k j i σ
  unfold rRm; rw [e1, e2]; exact h
theorem rRm.to {σ : RS} {m : Nat} (h : rRm σ m) (k : Int32) : rRm (rTo k σ) m := h
theorem rRm.le {σ : RS} {m k : Nat} (h : rRm σ m) (hk : k ≤ m) : rRm σ k := ⟨by have := h.1; omega, by obtain ⟨mn, h1, h2⟩ := h.2; exact ⟨mn, h1, by omega⟩⟩
set_option maxHeartbeats 4000000 in
set_option maxRecDepth 100000 in
theorem ql_vec21 {p : Program} {l : Launch} {e : Env} {R : Room} {s : State} {m : MethodId} {args : Array Value} {below : List Frame} {meth : Method} {c : Code} {cells slots : Nat} {Q : State → Prop} {D : va_G} {cI cZ cN cO : ClassId} {A : Nat → Prop} {H0 : Heap} {mm : Nat} {d : Nat → Nat} {n : Nat} (C : Cx p c cX4_toAll s m args RX4 D (gTy cI cZ cN cO)) (hml : c.maxLocals = 7) {σ : RS} {k to : Int32} (j : Nat) (hn : n ≤ 31) (hk : vp_in k n) (hj : j < 2001) (kk : ∀ (H : Heap) (locs : List Loc), rWd D cI cZ A H0 mm d (itr (rVec 21 k j) n σ) H locs → rOK n (itr (rVec 21 k j) n σ) → ∀ ls : Array Slot, lv_has ls 7 [(6, .int (nI n)), (5, .int (nI j)), (4, .int to), (0, .ref mm), (1, .int k), (2, .int 2), (3, .ref ((d 21)))] → W p l e R s m args below meth c H locs cells slots Q (F0 m 90 ls [])) : ∀ (fu i : Nat), i + fu = n → ∀ (H : Heap) (locs : List Loc), rWd D cI cZ A H0 mm d (itr (rVec 21 k j) i σ) H locs → rOK n (itr (rVec 21 k j) i σ) → ∀ ls : Array Slot, lv_has ls 7 [(6, .int (nI i)), (5, .int (nI j)), (4, .int to), (0, .ref mm), (1, .int k), (2, .int 2), (3, .ref ((d 21)))] → W p l e R s m args below meth c H locs cells slots Q (F0 m 48 ls []) := by
  intro fu
  induction fu with
  | zero =>
    intro i hik
    intro H locs w ok ls hl
    have hx := C.1
    have hb := C.2.1
    have hi : n = i := by omega
    subst hi
    refine lv_iload hx hb dX4_toAll_48 (lv_at hl 0 rfl) ?_
    refine lv_aload_n hx hb dX4_toAll_50 rfl (lv_at hl 3 rfl) ?_
    refine r_get_0 C w dX4_toAll_51 ?_
    rw [ok.nn]
    refine lv_icmp_ge (tgt := 90) hx hb dX4_toAll_54 (by decide) (fun c_54 => ?_) (fun c_54 => absurd (Int32.le_refl _) c_54)
    exact kk _ _ w ok ls (lv_sub hl [0, 1, 2, 3, 4, 5, 6] rfl)
  | succ fu ih =>
    intro i hik
    intro H locs w ok ls hl
    have hx := C.1
    have hb := C.2.1
    have hi : i < n := by omega
    refine lv_iload hx hb dX4_toAll_48 (lv_at hl 0 rfl) ?_
    refine lv_aload_n hx hb dX4_toAll_50 rfl (lv_at hl 3 rfl) ?_
    refine r_get_0 C w dX4_toAll_51 ?_
    rw [ok.nn]
    refine lv_icmp_ge (tgt := 90) hx hb dX4_toAll_54 (by decide) (fun c_54 => absurd c_54 (nI_ge hi (by omega))) (fun c_54 => ?_)
    refine lv_iload_n hx hb dX4_toAll_57 rfl (lv_at hl 5 rfl) ?_
    refine lv_iconst (v := 2) hx hb dX4_toAll_58 (by decide) ?_
    refine lv_icmp_ne (tgt := 90) hx hb dX4_toAll_59 (by decide) (fun c_59 => absurd rfl c_59) (fun c_59 => ?_)
    refine lv_aload_n hx hb dX4_toAll_62 rfl (lv_at hl 3 rfl) ?_
    refine r_get_6 C w dX4_toAll_63 ?_
    refine lv_bipush (v := 31) hx hb dX4_toAll_66 (by decide) ?_
    refine lv_iload hx hb dX4_toAll_68 (lv_at hl 1 rfl) ?_
    refine lv_imul hx hb dX4_toAll_70 ?_
    refine lv_topi (fun t_1 et_1 => ?_)
    refine lv_iload hx hb dX4_toAll_71 (lv_at hl 0 rfl) ?_
    refine lv_iadd hx hb dX4_toAll_73 ?_
    refine lv_topi (fun t_2 et_2 => ?_)
    refine lv_aload_n hx hb dX4_toAll_74 rfl (lv_at hl 6 rfl) ?_
    refine lv_bipush (v := 31) hx hb dX4_toAll_75 (by decide) ?_
    refine lv_iload_n hx hb dX4_toAll_77 rfl (lv_at hl 4 rfl) ?_
    refine lv_imul hx hb dX4_toAll_78 ?_
    refine lv_topi (fun t_3 et_3 => ?_)
    refine lv_iload hx hb dX4_toAll_79 (lv_at hl 0 rfl) ?_
    refine lv_iadd hx hb dX4_toAll_81 ?_
    refine lv_topi (fun t_4 et_4 => ?_)
    refine r_ld_21 C w (by rw [et_4, et_3]; exact gIx (c := 31) (N := 31) rfl (by decide) (ok.n31 hk) (vp_in_nI (by omega) (by omega))) dX4_toAll_82 ?_
    refine lv_topi (fun tv etv => ?_)
    have hv : vp_in tv 512 := by rw [etv]; exact ok.at 21 rfl _
    refine r_st_6 C w (by rw [et_2, et_1]; exact gIx (c := 31) (N := 2001) rfl (by decide) (vp_in_nI hj (by omega)) (vp_in_nI (by omega) (by omega))) dX4_toAll_83 (fun H locs w => ?_)
    have ok : rOK n _ := rOK.st ok (k := 6) (i := t_2.toNatClampNeg) (v := tv) (fun b hb => by cases hb; exact hv)
    obtain ⟨x_5, ex_5⟩ : ∃ y : Int32, y = (nI i) + 1 := ⟨_, rfl⟩
    refine lv_iinc (v := x_5) (lv' := [(6, _), (5, _), (4, _), (0, _), (1, _), (2, _), (3, _)]) C.1 C.2.1 dX4_toAll_84 hl (k := 0) rfl (by rw [ex_5]; rfl) (by decide) rfl (fun ls hl => ?_)
    refine lv_goto (tgt := 48) hx hb dX4_toAll_87 (by decide) ?_
    subst etv et_4 et_3 et_2 et_1
    have hx2 : x_5 = nI (i + 1) := by rw [ex_5]; exact nI_1 i
    rw [hx2] at hl
    exact ih (i + 1) (by omega) _ _ w ok ls (lv_sub hl [0, 1, 2, 3, 4, 5, 6] rfl)
set_option maxHeartbeats 4000000 in
set_option maxRecDepth 100000 in
theorem ql_vec22 {p : Program} {l : Launch} {e : Env} {R : Room} {s : State} {m : MethodId} {args : Array Value} {below : List Frame} {meth : Method} {c : Code} {cells slots : Nat} {Q : State → Prop} {D : va_G} {cI cZ cN cO : ClassId} {A : Nat → Prop} {H0 : Heap} {mm : Nat} {d : Nat → Nat} {n : Nat} (C : Cx p c cX4_toAll s m args RX4 D (gTy cI cZ cN cO)) (hml : c.maxLocals = 7) {σ : RS} {k to : Int32} (j : Nat) (hn : n ≤ 31) (hk : vp_in k n) (hj : j < 2001) (kk : ∀ (H : Heap) (locs : List Loc), rWd D cI cZ A H0 mm d (itr (rVec 22 k j) n σ) H locs → rOK n (itr (rVec 22 k j) n σ) → ∀ ls : Array Slot, lv_has ls 7 [(6, .int (nI n)), (5, .int (nI j)), (4, .int to), (0, .ref mm), (1, .int k), (2, .int 2), (3, .ref ((d 22)))] → W p l e R s m args below meth c H locs cells slots Q (F0 m 90 ls [])) : ∀ (fu i : Nat), i + fu = n → ∀ (H : Heap) (locs : List Loc), rWd D cI cZ A H0 mm d (itr (rVec 22 k j) i σ) H locs → rOK n (itr (rVec 22 k j) i σ) → ∀ ls : Array Slot, lv_has ls 7 [(6, .int (nI i)), (5, .int (nI j)), (4, .int to), (0, .ref mm), (1, .int k), (2, .int 2), (3, .ref ((d 22)))] → W p l e R s m args below meth c H locs cells slots Q (F0 m 48 ls []) := by
  intro fu
  induction fu with
  | zero =>
    intro i hik
    intro H locs w ok ls hl
    have hx := C.1
    have hb := C.2.1
    have hi : n = i := by omega
    subst hi
    refine lv_iload hx hb dX4_toAll_48 (lv_at hl 0 rfl) ?_
    refine lv_aload_n hx hb dX4_toAll_50 rfl (lv_at hl 3 rfl) ?_
    refine r_get_0 C w dX4_toAll_51 ?_
    rw [ok.nn]
    refine lv_icmp_ge (tgt := 90) hx hb dX4_toAll_54 (by decide) (fun c_54 => ?_) (fun c_54 => absurd (Int32.le_refl _) c_54)
    exact kk _ _ w ok ls (lv_sub hl [0, 1, 2, 3, 4, 5, 6] rfl)
  | succ fu ih =>
    intro i hik
    intro H locs w ok ls hl
    have hx := C.1
    have hb := C.2.1
    have hi : i < n := by omega
    refine lv_iload hx hb dX4_toAll_48 (lv_at hl 0 rfl) ?_
    refine lv_aload_n hx hb dX4_toAll_50 rfl (lv_at hl 3 rfl) ?_
    refine r_get_0 C w dX4_toAll_51 ?_
    rw [ok.nn]
    refine lv_icmp_ge (tgt := 90) hx hb dX4_toAll_54 (by decide) (fun c_54 => absurd c_54 (nI_ge hi (by omega))) (fun c_54 => ?_)
    refine lv_iload_n hx hb dX4_toAll_57 rfl (lv_at hl 5 rfl) ?_
    refine lv_iconst (v := 2) hx hb dX4_toAll_58 (by decide) ?_
    refine lv_icmp_ne (tgt := 90) hx hb dX4_toAll_59 (by decide) (fun c_59 => absurd rfl c_59) (fun c_59 => ?_)
    refine lv_aload_n hx hb dX4_toAll_62 rfl (lv_at hl 3 rfl) ?_
    refine r_get_6 C w dX4_toAll_63 ?_
    refine lv_bipush (v := 31) hx hb dX4_toAll_66 (by decide) ?_
    refine lv_iload hx hb dX4_toAll_68 (lv_at hl 1 rfl) ?_
    refine lv_imul hx hb dX4_toAll_70 ?_
    refine lv_topi (fun t_1 et_1 => ?_)
    refine lv_iload hx hb dX4_toAll_71 (lv_at hl 0 rfl) ?_
    refine lv_iadd hx hb dX4_toAll_73 ?_
    refine lv_topi (fun t_2 et_2 => ?_)
    refine lv_aload_n hx hb dX4_toAll_74 rfl (lv_at hl 6 rfl) ?_
    refine lv_bipush (v := 31) hx hb dX4_toAll_75 (by decide) ?_
    refine lv_iload_n hx hb dX4_toAll_77 rfl (lv_at hl 4 rfl) ?_
    refine lv_imul hx hb dX4_toAll_78 ?_
    refine lv_topi (fun t_3 et_3 => ?_)
    refine lv_iload hx hb dX4_toAll_79 (lv_at hl 0 rfl) ?_
    refine lv_iadd hx hb dX4_toAll_81 ?_
    refine lv_topi (fun t_4 et_4 => ?_)
    refine r_ld_22 C w (by rw [et_4, et_3]; exact gIx (c := 31) (N := 31) rfl (by decide) (ok.n31 hk) (vp_in_nI (by omega) (by omega))) dX4_toAll_82 ?_
    refine lv_topi (fun tv etv => ?_)
    have hv : vp_in tv 512 := by rw [etv]; exact ok.at 22 rfl _
    refine r_st_6 C w (by rw [et_2, et_1]; exact gIx (c := 31) (N := 2001) rfl (by decide) (vp_in_nI hj (by omega)) (vp_in_nI (by omega) (by omega))) dX4_toAll_83 (fun H locs w => ?_)
    have ok : rOK n _ := rOK.st ok (k := 6) (i := t_2.toNatClampNeg) (v := tv) (fun b hb => by cases hb; exact hv)
    obtain ⟨x_5, ex_5⟩ : ∃ y : Int32, y = (nI i) + 1 := ⟨_, rfl⟩
    refine lv_iinc (v := x_5) (lv' := [(6, _), (5, _), (4, _), (0, _), (1, _), (2, _), (3, _)]) C.1 C.2.1 dX4_toAll_84 hl (k := 0) rfl (by rw [ex_5]; rfl) (by decide) rfl (fun ls hl => ?_)
    refine lv_goto (tgt := 48) hx hb dX4_toAll_87 (by decide) ?_
    subst etv et_4 et_3 et_2 et_1
    have hx2 : x_5 = nI (i + 1) := by rw [ex_5]; exact nI_1 i
    rw [hx2] at hl
    exact ih (i + 1) (by omega) _ _ w ok ls (lv_sub hl [0, 1, 2, 3, 4, 5, 6] rfl)
set_option maxHeartbeats 4000000 in
set_option maxRecDepth 100000 in
theorem ql_toC {p : Program} {l : Launch} {e : Env} {R : Room} {s : State} {m : MethodId} {args : Array Value} {below : List Frame} {meth : Method} {c : Code} {cells slots : Nat} {Q : State → Prop} {D : va_G} {cI cZ cN cO : ClassId} {A : Nat → Prop} {H0 : Heap} {mm : Nat} {d : Nat → Nat} {n : Nat} (C : Cx p c cX4_toAll s m args RX4 D (gTy cI cZ cN cO)) (hml : c.maxLocals = 7) {σ : RS} {k : Int32} (hn : n ≤ 31) (hn3 : 3 ≤ n) (hk : vp_in k n) (hRf : 1 ≤ R.frames) (hRl : 25 ≤ R.locals) (hRc : cells + 0 ≤ R.cells) (hRs : slots + 0 ≤ R.slots) (kk : ∀ (H : Heap) (locs : List Loc), rWd D cI cZ A H0 mm d (itr (rOneC k) n σ) H locs → rOK n (itr (rOneC k) n σ) → (rRm (itr (rOneC k) n σ) (n - n)) → ∀ ls : Array Slot, lv_has ls 7 [(4, .int (nI n)), (0, .ref mm), (1, .int k), (2, .int 0), (3, .ref ((d 21)))] → W p l e R s m args below meth c H locs cells slots Q (F0 m 96 ls [])) : ∀ (fu i : Nat), i + fu = n → ∀ (H : Heap) (locs : List Loc), rWd D cI cZ A H0 mm d (itr (rOneC k) i σ) H locs → rOK n (itr (rOneC k) i σ) → (rRm (itr (rOneC k) i σ) (n - i)) → ∀ ls : Array Slot, lv_has ls 7 [(4, .int (nI i)), (0, .ref mm), (1, .int k), (2, .int 0), (3, .ref ((d 21)))] → W p l e R s m args below meth c H locs cells slots Q (F0 m 20 ls []) := by
  intro fu
  induction fu with
  | zero =>
    intro i hik
    intro H locs w ok hI ls hl
    have hx := C.1
    have hb := C.2.1
    have hi : n = i := by omega
    subst hi
    refine lv_iload hx hb dX4_toAll_20 (lv_at hl 0 rfl) ?_
    refine lv_aload_n hx hb dX4_toAll_22 rfl (lv_at hl 1 rfl) ?_
    refine r_get_0 C w dX4_toAll_23 ?_
    rw [ok.nn]
    refine lv_icmp_ge (tgt := 96) hx hb dX4_toAll_26 (by decide) (fun c_26 => ?_) (fun c_26 => absurd (Int32.le_refl _) c_26)
    exact kk _ _ w ok hI ls (lv_sub hl [0, 1, 2, 3, 4] rfl)
  | succ fu ih =>
    intro i hik
    intro H locs w ok hI ls hl
    have hx := C.1
    have hb := C.2.1
    have hi : i < n := by omega
    refine lv_iload hx hb dX4_toAll_20 (lv_at hl 0 rfl) ?_
    refine lv_aload_n hx hb dX4_toAll_22 rfl (lv_at hl 1 rfl) ?_
    refine r_get_0 C w dX4_toAll_23 ?_
    rw [ok.nn]
    refine lv_icmp_ge (tgt := 96) hx hb dX4_toAll_26 (by decide) (fun c_26 => absurd c_26 (nI_ge hi (by omega))) (fun c_26 => ?_)
    refine lv_aload_n hx hb dX4_toAll_29 rfl (lv_at hl 1 rfl) ?_
    refine lv_iload_n hx hb dX4_toAll_30 rfl (lv_at hl 3 rfl) ?_
    refine lv_iload_n hx hb dX4_toAll_31 rfl (lv_at hl 2 rfl) ?_
    refine lv_iload hx hb dX4_toAll_32 (lv_at hl 0 rfl) ?_
    refine lv_aload_n hx hb dX4_toAll_34 rfl (lv_at hl 1 rfl) ?_
    refine r_get_15 C w dX4_toAll_35 ?_
    refine lv_iload_n hx hb dX4_toAll_38 rfl (lv_at hl 2 rfl) ?_
    refine r_ld_15 C w (ok.n31 hk) dX4_toAll_39 ?_
    refine lv_topi (fun t_1 et_1 => ?_)
    have hI : rRm _ ((n - (i + 1)) + 1) := hI.le (by omega)
    refine r_calli (As := [.int 0, .int k, .int (nI i), .int t_1]) (rest := []) C w hml hl.1 (q_send l D cI cZ cN cO A mm d n _ (fr _) 0 k (nI i) t_1 ok hI.free.1 hI.free.2.1 hI.free.2.2 hk (vp_in_nI hi (by omega)) hI.inc) kM_X4_121 kI_X4_send kS_X4_send kD_X4_send (show yX4_send.cls = RX4 ∧ yX4_send.cls ≠ "java/lang/invoke/MethodHandle" ∧ yX4_send.cls ≠ "java/lang/invoke/VarHandle" ∧ (parseMethodDescriptor yX4_send.desc).map (fun d => d.parameters.length) = some 4 from by decide +kernel) rfl rfl ⟨(by show 0 + 1 ≤ R.frames; omega), (by show 8 + (6 + 11) + 0 ≤ R.locals; omega)⟩ rfl (lv_room (Nat.le_of_ble_eq_true rfl)) dX4_toAll_40 ⟨hRc, hRs⟩ (fun r_2 H locs hr_2 w ok => ?_)
    rw [hr_2]
    refine lv_istore (lv' := [(5, _), (4, _), (0, _), (1, _), (2, _), (3, _)]) C.1 C.2.1 dX4_toAll_43 hl (by decide) rfl (fun ls hl => ?_)
    refine lv_iconst (v := 0) hx hb dX4_toAll_45 (by decide) ?_
    refine lv_istore (lv' := [(6, _), (5, _), (4, _), (0, _), (1, _), (2, _), (3, _)]) C.1 C.2.1 dX4_toAll_46 hl (by decide) rfl (fun ls hl => ?_)
    refine lv_iload hx hb dX4_toAll_48 (lv_at hl 0 rfl) ?_
    refine lv_aload_n hx hb dX4_toAll_50 rfl (lv_at hl 3 rfl) ?_
    refine r_get_0 C w dX4_toAll_51 ?_
    rw [ok.nn]
    refine lv_icmp_ge (tgt := 90) hx hb dX4_toAll_54 (by decide) (fun c_54 => absurd c_54 (by rw [← nI_0]; exact nI_ge (by omega) (by omega))) (fun c_54 => ?_)
    refine lv_iload_n hx hb dX4_toAll_57 rfl (lv_at hl 5 rfl) ?_
    refine lv_iconst (v := 2) hx hb dX4_toAll_58 (by decide) ?_
    refine lv_icmp_ne (tgt := 90) hx hb dX4_toAll_59 (by decide) (fun c_59 => ?_) (fun c_59 => absurd c_59 (by decide))
    obtain ⟨x_3, ex_3⟩ : ∃ y : Int32, y = (nI i) + 1 := ⟨_, rfl⟩
    refine lv_iinc (v := x_3) (lv' := [(4, _), (6, _), (5, _), (0, _), (1, _), (2, _), (3, _)]) C.1 C.2.1 dX4_toAll_90 hl (k := 2) rfl (by rw [ex_3]; rfl) (by decide) rfl (fun ls hl => ?_)
    refine lv_goto (tgt := 20) hx hb dX4_toAll_93 (by decide) ?_
    subst et_1
    have hx2 : x_3 = nI (i + 1) := by rw [ex_3]; exact nI_1 i
    rw [hx2] at hl
    exact ih (i + 1) (by omega) _ _ w ok (hI.send _ _ _ _) ls (lv_sub hl [0, 3, 4, 5, 6] rfl)
set_option maxHeartbeats 4000000 in
set_option maxRecDepth 100000 in
theorem q_toC (l : Launch) (D : va_G) (cI cZ cN cO : ClassId) (A : Nat → Prop) (mm : Nat) (d : Nat → Nat) (n : Nat) (σ : RS) (k : Int32) (ok : rOK n σ) (hk : vp_in k n) (hrm : rRm σ n) : Met l yX4_toAll (.code yX4_toAll cX4_toAll 7 none :: gw) ({ frames := 1, cells := 0, slots := 0, locals := 25 }) (va_Pc (.ref mm :: [.int k, .int 0, .ref ((d 21))]) (rH D cI cZ cN cO A mm d σ)) (va_Qv (fun _ : Unit => True) (fun _ t => rH D cI cZ cN cO A mm d (rToC n k σ) t ∧ rOK n (rToC n k σ)) A) 0 0 A := by
  refine Met.ofW (cc := cX4_toAll) (maxL := 7) (ret := none) (by decide) rfl ?_
  intro p e s m args below meth c s₁ B hml hv
  obtain ⟨rfl, hP, hK, hD⟩ := hv
  have hx := B.exec
  have hb := B.bytes
  have hr := B.returns
  have hts := atoms_spec (ws := (.code yX4_toAll cX4_toAll 7 none :: gw)) B.pre
  have hg : ∀ w ∈ gw, w.before _ s = true := fun w h => hts w (List.mem_cons_of_mem _ h)
  have hown : s.vm.findClass RX4 = some m.cls := findClass_of_methodNamed B.named
  have hlocks := B.notSynchronized
  have C : Cx p c cX4_toAll s m _ RX4 D (gTy cI cZ cN cO) := ⟨hx, hb, hown, hg, hK⟩
  have w : rWd D cI cZ A s.heap mm d σ s.heap [] := ⟨hP, hD, va_S.rf⟩
  have hl := lv_entry ([.ref mm, .int k, .int 0, .ref ((d 21))]) (n := 7) (Nat.le_of_ble_eq_true rfl)
  rw [lg_entry_eq]
  generalize (lg_sl ([.ref mm, .int k, .int 0, .ref ((d 21))]) ++ List.replicate (7 - (lg_sl ([.ref mm, .int k, .int 0, .ref ((d 21))])).length) Slot.unset).toArray = ls at hl ⊢
  have hl : lv_has ls 7 [(0, .ref mm), (1, .int k), (2, .int 0), (3, .ref ((d 21)))] := hl
  refine lv_aload_n hx hb dX4_toAll_0 rfl (lv_at hl 0 rfl) ?_
  refine r_get_15 C w dX4_toAll_1 ?_
  refine lv_iload_n hx hb dX4_toAll_4 rfl (lv_at hl 1 rfl) ?_
  refine lv_dup2_11 hx hb dX4_toAll_5 rfl rfl ?_
  refine r_ld_15 C w (ok.n31 hk) dX4_toAll_6 ?_
  refine lv_topi (fun t_1 et_1 => ?_)
  refine lv_iconst (v := 1) hx hb dX4_toAll_7 (by decide) ?_
  refine lv_iadd hx hb dX4_toAll_8 ?_
  refine lv_topi (fun t_2 et_2 => ?_)
  refine r_st_15 C w (ok.n31 hk) dX4_toAll_9 (fun H locs w => ?_)
  have ok : rOK n _ := rOK.st ok (k := 15) (i := k.toNatClampNeg) (v := t_2) (fun b hb => by cases hb)
  refine lv_aload_n hx hb dX4_toAll_10 rfl (lv_at hl 0 rfl) ?_
  refine r_get_17 C w dX4_toAll_11 ?_
  refine lv_iload_n hx hb dX4_toAll_14 rfl (lv_at hl 1 rfl) ?_
  refine lv_iconst (v := 0) hx hb dX4_toAll_15 (by decide) ?_
  refine r_st_17 C w (ok.n31 hk) dX4_toAll_16 (fun H locs w => ?_)
  have ok : rOK n _ := rOK.st ok (k := 17) (i := k.toNatClampNeg) (v := 0) (fun b hb => by cases hb)
  refine lv_iconst (v := 0) hx hb dX4_toAll_17 (by decide) ?_
  refine lv_istore (lv' := [(4, _), (0, _), (1, _), (2, _), (3, _)]) C.1 C.2.1 dX4_toAll_18 hl (by decide) rfl (fun ls hl => ?_)
  subst et_2 et_1
  rw [← nI_0] at hl
  refine ql_toC C hml ok.2.1 ok.1 hk (Nat.le_of_ble_eq_true rfl) (Nat.le_of_ble_eq_true rfl) (Nat.zero_le _) (Nat.zero_le _) ?_ n 0 (by omega) _ _ w ok (hrm.to k) ls (lv_sub hl [0, 1, 2, 3, 4] rfl)
  intro H locs w ok _ ls hl
  exact W.vret hx hb hr (fun t ht hW => ⟨⟨(), rfl, trivial, ⟨by rw [ht]; exact w.1, va_K.moved hW.alike hK, w.2.1⟩, ok⟩, w.2.2.F ht⟩) w.2.2.2.2 dX4_toAll_96
set_option maxHeartbeats 4000000 in
set_option maxRecDepth 100000 in
theorem ql_toS21 {p : Program} {l : Launch} {e : Env} {R : Room} {s : State} {m : MethodId} {args : Array Value} {below : List Frame} {meth : Method} {c : Code} {cells slots : Nat} {Q : State → Prop} {D : va_G} {cI cZ cN cO : ClassId} {A : Nat → Prop} {H0 : Heap} {mm : Nat} {d : Nat → Nat} {n : Nat} (C : Cx p c cX4_toAll s m args RX4 D (gTy cI cZ cN cO)) (hml : c.maxLocals = 7) {σ : RS} {k : Int32} (hn : n ≤ 31) (hn3 : 3 ≤ n) (hk : vp_in k n) (hRf : 1 ≤ R.frames) (hRl : 25 ≤ R.locals) (hRc : cells + 0 ≤ R.cells) (hRs : slots + 0 ≤ R.slots) (kk : ∀ (H : Heap) (locs : List Loc), rWd D cI cZ A H0 mm d (itr (rOneS n 21 k) n σ) H locs → rOK n (itr (rOneS n 21 k) n σ) → (rRm (itr (rOneS n 21 k) n σ) (n - n)) → ∀ ls : Array Slot, lv_has ls 7 [(4, .int (nI n)), (0, .ref mm), (1, .int k), (2, .int 2), (3, .ref ((d 21)))] → W p l e R s m args below meth c H locs cells slots Q (F0 m 96 ls [])) : ∀ (fu i : Nat), i + fu = n → ∀ (H : Heap) (locs : List Loc), rWd D cI cZ A H0 mm d (itr (rOneS n 21 k) i σ) H locs → rOK n (itr (rOneS n 21 k) i σ) → (rRm (itr (rOneS n 21 k) i σ) (n - i)) → ∀ ls : Array Slot, lv_has ls 7 [(4, .int (nI i)), (0, .ref mm), (1, .int k), (2, .int 2), (3, .ref ((d 21)))] → W p l e R s m args below meth c H locs cells slots Q (F0 m 20 ls []) := by
  intro fu
  induction fu with
  | zero =>
    intro i hik
    intro H locs w ok hI ls hl
    have hx := C.1
    have hb := C.2.1
    have hi : n = i := by omega
    subst hi
    refine lv_iload hx hb dX4_toAll_20 (lv_at hl 0 rfl) ?_
    refine lv_aload_n hx hb dX4_toAll_22 rfl (lv_at hl 1 rfl) ?_
    refine r_get_0 C w dX4_toAll_23 ?_
    rw [ok.nn]
    refine lv_icmp_ge (tgt := 96) hx hb dX4_toAll_26 (by decide) (fun c_26 => ?_) (fun c_26 => absurd (Int32.le_refl _) c_26)
    exact kk _ _ w ok hI ls (lv_sub hl [0, 1, 2, 3, 4] rfl)
  | succ fu ih =>
    intro i hik
    intro H locs w ok hI ls hl
    have hx := C.1
    have hb := C.2.1
    have hi : i < n := by omega
    refine lv_iload hx hb dX4_toAll_20 (lv_at hl 0 rfl) ?_
    refine lv_aload_n hx hb dX4_toAll_22 rfl (lv_at hl 1 rfl) ?_
    refine r_get_0 C w dX4_toAll_23 ?_
    rw [ok.nn]
    refine lv_icmp_ge (tgt := 96) hx hb dX4_toAll_26 (by decide) (fun c_26 => absurd c_26 (nI_ge hi (by omega))) (fun c_26 => ?_)
    refine lv_aload_n hx hb dX4_toAll_29 rfl (lv_at hl 1 rfl) ?_
    refine lv_iload_n hx hb dX4_toAll_30 rfl (lv_at hl 3 rfl) ?_
    refine lv_iload_n hx hb dX4_toAll_31 rfl (lv_at hl 2 rfl) ?_
    refine lv_iload hx hb dX4_toAll_32 (lv_at hl 0 rfl) ?_
    refine lv_aload_n hx hb dX4_toAll_34 rfl (lv_at hl 1 rfl) ?_
    refine r_get_15 C w dX4_toAll_35 ?_
    refine lv_iload_n hx hb dX4_toAll_38 rfl (lv_at hl 2 rfl) ?_
    refine r_ld_15 C w (ok.n31 hk) dX4_toAll_39 ?_
    refine lv_topi (fun t_1 et_1 => ?_)
    have hI : rRm _ ((n - (i + 1)) + 1) := hI.le (by omega)
    refine r_calli (As := [.int 2, .int k, .int (nI i), .int t_1]) (rest := []) C w hml hl.1 (q_send l D cI cZ cN cO A mm d n _ (fr _) 2 k (nI i) t_1 ok hI.free.1 hI.free.2.1 hI.free.2.2 hk (vp_in_nI hi (by omega)) hI.inc) kM_X4_121 kI_X4_send kS_X4_send kD_X4_send (show yX4_send.cls = RX4 ∧ yX4_send.cls ≠ "java/lang/invoke/MethodHandle" ∧ yX4_send.cls ≠ "java/lang/invoke/VarHandle" ∧ (parseMethodDescriptor yX4_send.desc).map (fun d => d.parameters.length) = some 4 from by decide +kernel) rfl rfl ⟨(by show 0 + 1 ≤ R.frames; omega), (by show 8 + (6 + 11) + 0 ≤ R.locals; omega)⟩ rfl (lv_room (Nat.le_of_ble_eq_true rfl)) dX4_toAll_40 ⟨hRc, hRs⟩ (fun r_2 H locs hr_2 w ok => ?_)
    rw [hr_2]
    refine lv_istore (lv' := [(5, _), (4, _), (0, _), (1, _), (2, _), (3, _)]) C.1 C.2.1 dX4_toAll_43 hl (by decide) rfl (fun ls hl => ?_)
    refine lv_iconst (v := 0) hx hb dX4_toAll_45 (by decide) ?_
    refine lv_istore (lv' := [(6, _), (5, _), (4, _), (0, _), (1, _), (2, _), (3, _)]) C.1 C.2.1 dX4_toAll_46 hl (by decide) rfl (fun ls hl => ?_)
    rw [← nI_0] at hl
    refine ql_vec21 C hml _ hn hk hI.free.1 ?_ n 0 (by omega) _ _ w ok ls (lv_sub hl [0, 1, 2, 3, 4, 5, 6] rfl)
    intro H locs w ok ls hl
    obtain ⟨x_3, ex_3⟩ : ∃ y : Int32, y = (nI i) + 1 := ⟨_, rfl⟩
    refine lv_iinc (v := x_3) (lv' := [(4, _), (6, _), (5, _), (0, _), (1, _), (2, _), (3, _)]) C.1 C.2.1 dX4_toAll_90 hl (k := 2) rfl (by rw [ex_3]; rfl) (by decide) rfl (fun ls hl => ?_)
    refine lv_goto (tgt := 20) hx hb dX4_toAll_93 (by decide) ?_
    subst et_1
    have hx2 : x_3 = nI (i + 1) := by rw [ex_3]; exact nI_1 i
    rw [hx2] at hl
    exact ih (i + 1) (by omega) _ _ w ok ((hI.send _ _ _ _).vec _ _ _ _) ls (lv_sub hl [0, 3, 4, 5, 6] rfl)
set_option maxHeartbeats 4000000 in
set_option maxRecDepth 100000 in
theorem q_toS21 (l : Launch) (D : va_G) (cI cZ cN cO : ClassId) (A : Nat → Prop) (mm : Nat) (d : Nat → Nat) (n : Nat) (σ : RS) (k : Int32) (ok : rOK n σ) (hk : vp_in k n) (hrm : rRm σ n) : Met l yX4_toAll (.code yX4_toAll cX4_toAll 7 none :: gw) ({ frames := 1, cells := 0, slots := 0, locals := 25 }) (va_Pc (.ref mm :: [.int k, .int 2, .ref ((d 21))]) (rH D cI cZ cN cO A mm d σ)) (va_Qv (fun _ : Unit => True) (fun _ t => rH D cI cZ cN cO A mm d (rToS n 21 k σ) t ∧ rOK n (rToS n 21 k σ)) A) 0 0 A := by
  refine Met.ofW (cc := cX4_toAll) (maxL := 7) (ret := none) (by decide) rfl ?_
  intro p e s m args below meth c s₁ B hml hv
  obtain ⟨rfl, hP, hK, hD⟩ := hv
  have hx := B.exec
  have hb := B.bytes
  have hr := B.returns
  have hts := atoms_spec (ws := (.code yX4_toAll cX4_toAll 7 none :: gw)) B.pre
  have hg : ∀ w ∈ gw, w.before _ s = true := fun w h => hts w (List.mem_cons_of_mem _ h)
  have hown : s.vm.findClass RX4 = some m.cls := findClass_of_methodNamed B.named
  have hlocks := B.notSynchronized
  have C : Cx p c cX4_toAll s m _ RX4 D (gTy cI cZ cN cO) := ⟨hx, hb, hown, hg, hK⟩
  have w : rWd D cI cZ A s.heap mm d σ s.heap [] := ⟨hP, hD, va_S.rf⟩
  have hl := lv_entry ([.ref mm, .int k, .int 2, .ref ((d 21))]) (n := 7) (Nat.le_of_ble_eq_true rfl)
  rw [lg_entry_eq]
  generalize (lg_sl ([.ref mm, .int k, .int 2, .ref ((d 21))]) ++ List.replicate (7 - (lg_sl ([.ref mm, .int k, .int 2, .ref ((d 21))])).length) Slot.unset).toArray = ls at hl ⊢
  have hl : lv_has ls 7 [(0, .ref mm), (1, .int k), (2, .int 2), (3, .ref ((d 21)))] := hl
  refine lv_aload_n hx hb dX4_toAll_0 rfl (lv_at hl 0 rfl) ?_
  refine r_get_15 C w dX4_toAll_1 ?_
  refine lv_iload_n hx hb dX4_toAll_4 rfl (lv_at hl 1 rfl) ?_
  refine lv_dup2_11 hx hb dX4_toAll_5 rfl rfl ?_
  refine r_ld_15 C w (ok.n31 hk) dX4_toAll_6 ?_
  refine lv_topi (fun t_1 et_1 => ?_)
  refine lv_iconst (v := 1) hx hb dX4_toAll_7 (by decide) ?_
  refine lv_iadd hx hb dX4_toAll_8 ?_
  refine lv_topi (fun t_2 et_2 => ?_)
  refine r_st_15 C w (ok.n31 hk) dX4_toAll_9 (fun H locs w => ?_)
  have ok : rOK n _ := rOK.st ok (k := 15) (i := k.toNatClampNeg) (v := t_2) (fun b hb => by cases hb)
  refine lv_aload_n hx hb dX4_toAll_10 rfl (lv_at hl 0 rfl) ?_
  refine r_get_17 C w dX4_toAll_11 ?_
  refine lv_iload_n hx hb dX4_toAll_14 rfl (lv_at hl 1 rfl) ?_
  refine lv_iconst (v := 0) hx hb dX4_toAll_15 (by decide) ?_
  refine r_st_17 C w (ok.n31 hk) dX4_toAll_16 (fun H locs w => ?_)
  have ok : rOK n _ := rOK.st ok (k := 17) (i := k.toNatClampNeg) (v := 0) (fun b hb => by cases hb)
  refine lv_iconst (v := 0) hx hb dX4_toAll_17 (by decide) ?_
  refine lv_istore (lv' := [(4, _), (0, _), (1, _), (2, _), (3, _)]) C.1 C.2.1 dX4_toAll_18 hl (by decide) rfl (fun ls hl => ?_)
  subst et_2 et_1
  rw [← nI_0] at hl
  refine ql_toS21 C hml ok.2.1 ok.1 hk (Nat.le_of_ble_eq_true rfl) (Nat.le_of_ble_eq_true rfl) (Nat.zero_le _) (Nat.zero_le _) ?_ n 0 (by omega) _ _ w ok (hrm.to k) ls (lv_sub hl [0, 1, 2, 3, 4] rfl)
  intro H locs w ok _ ls hl
  exact W.vret hx hb hr (fun t ht hW => ⟨⟨(), rfl, trivial, ⟨by rw [ht]; exact w.1, va_K.moved hW.alike hK, w.2.1⟩, ok⟩, w.2.2.F ht⟩) w.2.2.2.2 dX4_toAll_96
set_option maxHeartbeats 4000000 in
set_option maxRecDepth 100000 in
theorem ql_toS22 {p : Program} {l : Launch} {e : Env} {R : Room} {s : State} {m : MethodId} {args : Array Value} {below : List Frame} {meth : Method} {c : Code} {cells slots : Nat} {Q : State → Prop} {D : va_G} {cI cZ cN cO : ClassId} {A : Nat → Prop} {H0 : Heap} {mm : Nat} {d : Nat → Nat} {n : Nat} (C : Cx p c cX4_toAll s m args RX4 D (gTy cI cZ cN cO)) (hml : c.maxLocals = 7) {σ : RS} {k : Int32} (hn : n ≤ 31) (hn3 : 3 ≤ n) (hk : vp_in k n) (hRf : 1 ≤ R.frames) (hRl : 25 ≤ R.locals) (hRc : cells + 0 ≤ R.cells) (hRs : slots + 0 ≤ R.slots) (kk : ∀ (H : Heap) (locs : List Loc), rWd D cI cZ A H0 mm d (itr (rOneS n 22 k) n σ) H locs → rOK n (itr (rOneS n 22 k) n σ) → (rRm (itr (rOneS n 22 k) n σ) (n - n)) → ∀ ls : Array Slot, lv_has ls 7 [(4, .int (nI n)), (0, .ref mm), (1, .int k), (2, .int 2), (3, .ref ((d 22)))] → W p l e R s m args below meth c H locs cells slots Q (F0 m 96 ls [])) : ∀ (fu i : Nat), i + fu = n → ∀ (H : Heap) (locs : List Loc), rWd D cI cZ A H0 mm d (itr (rOneS n 22 k) i σ) H locs → rOK n (itr (rOneS n 22 k) i σ) → (rRm (itr (rOneS n 22 k) i σ) (n - i)) → ∀ ls : Array Slot, lv_has ls 7 [(4, .int (nI i)), (0, .ref mm), (1, .int k), (2, .int 2), (3, .ref ((d 22)))] → W p l e R s m args below meth c H locs cells slots Q (F0 m 20 ls []) := by
  intro fu
  induction fu with
  | zero =>
    intro i hik
    intro H locs w ok hI ls hl
    have hx := C.1
    have hb := C.2.1
    have hi : n = i := by omega
    subst hi
    refine lv_iload hx hb dX4_toAll_20 (lv_at hl 0 rfl) ?_
    refine lv_aload_n hx hb dX4_toAll_22 rfl (lv_at hl 1 rfl) ?_
    refine r_get_0 C w dX4_toAll_23 ?_
    rw [ok.nn]
    refine lv_icmp_ge (tgt := 96) hx hb dX4_toAll_26 (by decide) (fun c_26 => ?_) (fun c_26 => absurd (Int32.le_refl _) c_26)
    exact kk _ _ w ok hI ls (lv_sub hl [0, 1, 2, 3, 4] rfl)
  | succ fu ih =>
    intro i hik
    intro H locs w ok hI ls hl
    have hx := C.1
    have hb := C.2.1
    have hi : i < n := by omega
    refine lv_iload hx hb dX4_toAll_20 (lv_at hl 0 rfl) ?_
    refine lv_aload_n hx hb dX4_toAll_22 rfl (lv_at hl 1 rfl) ?_
    refine r_get_0 C w dX4_toAll_23 ?_
    rw [ok.nn]
    refine lv_icmp_ge (tgt := 96) hx hb dX4_toAll_26 (by decide) (fun c_26 => absurd c_26 (nI_ge hi (by omega))) (fun c_26 => ?_)
    refine lv_aload_n hx hb dX4_toAll_29 rfl (lv_at hl 1 rfl) ?_
    refine lv_iload_n hx hb dX4_toAll_30 rfl (lv_at hl 3 rfl) ?_
    refine lv_iload_n hx hb dX4_toAll_31 rfl (lv_at hl 2 rfl) ?_
    refine lv_iload hx hb dX4_toAll_32 (lv_at hl 0 rfl) ?_
    refine lv_aload_n hx hb dX4_toAll_34 rfl (lv_at hl 1 rfl) ?_
    refine r_get_15 C w dX4_toAll_35 ?_
    refine lv_iload_n hx hb dX4_toAll_38 rfl (lv_at hl 2 rfl) ?_
    refine r_ld_15 C w (ok.n31 hk) dX4_toAll_39 ?_
    refine lv_topi (fun t_1 et_1 => ?_)
    have hI : rRm _ ((n - (i + 1)) + 1) := hI.le (by omega)
    refine r_calli (As := [.int 2, .int k, .int (nI i), .int t_1]) (rest := []) C w hml hl.1 (q_send l D cI cZ cN cO A mm d n _ (fr _) 2 k (nI i) t_1 ok hI.free.1 hI.free.2.1 hI.free.2.2 hk (vp_in_nI hi (by omega)) hI.inc) kM_X4_121 kI_X4_send kS_X4_send kD_X4_send (show yX4_send.cls = RX4 ∧ yX4_send.cls ≠ "java/lang/invoke/MethodHandle" ∧ yX4_send.cls ≠ "java/lang/invoke/VarHandle" ∧ (parseMethodDescriptor yX4_send.desc).map (fun d => d.parameters.length) = some 4 from by decide +kernel) rfl rfl ⟨(by show 0 + 1 ≤ R.frames; omega), (by show 8 + (6 + 11) + 0 ≤ R.locals; omega)⟩ rfl (lv_room (Nat.le_of_ble_eq_true rfl)) dX4_toAll_40 ⟨hRc, hRs⟩ (fun r_2 H locs hr_2 w ok => ?_)
    rw [hr_2]
    refine lv_istore (lv' := [(5, _), (4, _), (0, _), (1, _), (2, _), (3, _)]) C.1 C.2.1 dX4_toAll_43 hl (by decide) rfl (fun ls hl => ?_)
    refine lv_iconst (v := 0) hx hb dX4_toAll_45 (by decide) ?_
    refine lv_istore (lv' := [(6, _), (5, _), (4, _), (0, _), (1, _), (2, _), (3, _)]) C.1 C.2.1 dX4_toAll_46 hl (by decide) rfl (fun ls hl => ?_)
    rw [← nI_0] at hl
    refine ql_vec22 C hml _ hn hk hI.free.1 ?_ n 0 (by omega) _ _ w ok ls (lv_sub hl [0, 1, 2, 3, 4, 5, 6] rfl)
    intro H locs w ok ls hl
    obtain ⟨x_3, ex_3⟩ : ∃ y : Int32, y = (nI i) + 1 := ⟨_, rfl⟩
    refine lv_iinc (v := x_3) (lv' := [(4, _), (6, _), (5, _), (0, _), (1, _), (2, _), (3, _)]) C.1 C.2.1 dX4_toAll_90 hl (k := 2) rfl (by rw [ex_3]; rfl) (by decide) rfl (fun ls hl => ?_)
    refine lv_goto (tgt := 20) hx hb dX4_toAll_93 (by decide) ?_
    subst et_1
    have hx2 : x_3 = nI (i + 1) := by rw [ex_3]; exact nI_1 i
    rw [hx2] at hl
    exact ih (i + 1) (by omega) _ _ w ok ((hI.send _ _ _ _).vec _ _ _ _) ls (lv_sub hl [0, 3, 4, 5, 6] rfl)
set_option maxHeartbeats 4000000 in
set_option maxRecDepth 100000 in
theorem q_toS22 (l : Launch) (D : va_G) (cI cZ cN cO : ClassId) (A : Nat → Prop) (mm : Nat) (d : Nat → Nat) (n : Nat) (σ : RS) (k : Int32) (ok : rOK n σ) (hk : vp_in k n) (hrm : rRm σ n) : Met l yX4_toAll (.code yX4_toAll cX4_toAll 7 none :: gw) ({ frames := 1, cells := 0, slots := 0, locals := 25 }) (va_Pc (.ref mm :: [.int k, .int 2, .ref ((d 22))]) (rH D cI cZ cN cO A mm d σ)) (va_Qv (fun _ : Unit => True) (fun _ t => rH D cI cZ cN cO A mm d (rToS n 22 k σ) t ∧ rOK n (rToS n 22 k σ)) A) 0 0 A := by
  refine Met.ofW (cc := cX4_toAll) (maxL := 7) (ret := none) (by decide) rfl ?_
  intro p e s m args below meth c s₁ B hml hv
  obtain ⟨rfl, hP, hK, hD⟩ := hv
  have hx := B.exec
  have hb := B.bytes
  have hr := B.returns
  have hts := atoms_spec (ws := (.code yX4_toAll cX4_toAll 7 none :: gw)) B.pre
  have hg : ∀ w ∈ gw, w.before _ s = true := fun w h => hts w (List.mem_cons_of_mem _ h)
  have hown : s.vm.findClass RX4 = some m.cls := findClass_of_methodNamed B.named
  have hlocks := B.notSynchronized
  have C : Cx p c cX4_toAll s m _ RX4 D (gTy cI cZ cN cO) := ⟨hx, hb, hown, hg, hK⟩
  have w : rWd D cI cZ A s.heap mm d σ s.heap [] := ⟨hP, hD, va_S.rf⟩
  have hl := lv_entry ([.ref mm, .int k, .int 2, .ref ((d 22))]) (n := 7) (Nat.le_of_ble_eq_true rfl)
  rw [lg_entry_eq]
  generalize (lg_sl ([.ref mm, .int k, .int 2, .ref ((d 22))]) ++ List.replicate (7 - (lg_sl ([.ref mm, .int k, .int 2, .ref ((d 22))])).length) Slot.unset).toArray = ls at hl ⊢
  have hl : lv_has ls 7 [(0, .ref mm), (1, .int k), (2, .int 2), (3, .ref ((d 22)))] := hl
  refine lv_aload_n hx hb dX4_toAll_0 rfl (lv_at hl 0 rfl) ?_
  refine r_get_15 C w dX4_toAll_1 ?_
  refine lv_iload_n hx hb dX4_toAll_4 rfl (lv_at hl 1 rfl) ?_
  refine lv_dup2_11 hx hb dX4_toAll_5 rfl rfl ?_
  refine r_ld_15 C w (ok.n31 hk) dX4_toAll_6 ?_
  refine lv_topi (fun t_1 et_1 => ?_)
  refine lv_iconst (v := 1) hx hb dX4_toAll_7 (by decide) ?_
  refine lv_iadd hx hb dX4_toAll_8 ?_
  refine lv_topi (fun t_2 et_2 => ?_)
  refine r_st_15 C w (ok.n31 hk) dX4_toAll_9 (fun H locs w => ?_)
  have ok : rOK n _ := rOK.st ok (k := 15) (i := k.toNatClampNeg) (v := t_2) (fun b hb => by cases hb)
  refine lv_aload_n hx hb dX4_toAll_10 rfl (lv_at hl 0 rfl) ?_
  refine r_get_17 C w dX4_toAll_11 ?_
  refine lv_iload_n hx hb dX4_toAll_14 rfl (lv_at hl 1 rfl) ?_
  refine lv_iconst (v := 0) hx hb dX4_toAll_15 (by decide) ?_
  refine r_st_17 C w (ok.n31 hk) dX4_toAll_16 (fun H locs w => ?_)
  have ok : rOK n _ := rOK.st ok (k := 17) (i := k.toNatClampNeg) (v := 0) (fun b hb => by cases hb)
  refine lv_iconst (v := 0) hx hb dX4_toAll_17 (by decide) ?_
  refine lv_istore (lv' := [(4, _), (0, _), (1, _), (2, _), (3, _)]) C.1 C.2.1 dX4_toAll_18 hl (by decide) rfl (fun ls hl => ?_)
  subst et_2 et_1
  rw [← nI_0] at hl
  refine ql_toS22 C hml ok.2.1 ok.1 hk (Nat.le_of_ble_eq_true rfl) (Nat.le_of_ble_eq_true rfl) (Nat.zero_le _) (Nat.zero_le _) ?_ n 0 (by omega) _ _ w ok (hrm.to k) ls (lv_sub hl [0, 1, 2, 3, 4] rfl)
  intro H locs w ok _ ls hl
  exact W.vret hx hb hr (fun t ht hW => ⟨⟨(), rfl, trivial, ⟨by rw [ht]; exact w.1, va_K.moved hW.alike hK, w.2.1⟩, ok⟩, w.2.2.F ht⟩) w.2.2.2.2 dX4_toAll_96
end
section
theorem rRm.st {σ : RS} {m : Nat} (h : rRm σ m) {k i : Nat} {v : Int32} (hk : k ≠ 7) : rRm (rA σ k i v) m := by
  have e : (rA σ k i v).2 7 = σ.2 7 := by show va_up σ.2 k _ 7 = _; simp only [va_up, if_neg (Ne.symm hk)]
  unfold rRm; rw [e]; exact h
theorem rRm.put {σ : RS} {m : Nat} (h : rRm σ m) {k : Nat} {v : Int32} (hk : k ≠ 9) : rRm (rI σ k v) m := by
  have e : (rI σ k v).1 9 = σ.1 9 := by show va_up σ.1 k v 9 = _; simp only [va_up, if_neg (Ne.symm hk)]
  unfold rRm; rw [e]; exact h
def rZero (q : Nat) (k : Int32) (i : Nat) (σ : RS) : RS := rA σ q ((31 : Int32) * k + nI i).toNatClampNeg 0
theorem rRm.zero {σ : RS} {m : Nat} (h : rRm σ m) {q : Nat} (hq : q ≠ 7) (k : Int32) : ∀ i, rRm (itr (rZero q k) i σ) m := by
  intro i
  induction i with
  | zero => exact h
  | succ i ih => exact ih.st hq
def rCol (n : Nat) (k : Int32) (σ : RS) : RS := rToC n k (itr (rZero 21 k) n (rA (rA σ 14 k.toNatClampNeg 1) 32 (σ.2 16 k.toNatClampNeg).toNatClampNeg (σ.2 32 (σ.2 16 k.toNatClampNeg).toNatClampNeg + 1)))
def rBeg (n : Nat) (k a b c : Int32) (σ : RS) : RS := rCol n k (itr (rZero 25 k) n (rA (rA (rA (rA (rA (rA (rA (rA (rA (rI (rI σ 12 (σ.1 12 + 1)) 37 (σ.1 37 + 1)) 26 (σ.1 37 + 1).toNatClampNeg k) 27 (σ.1 37 + 1).toNatClampNeg a) 28 (σ.1 37 + 1).toNatClampNeg b) 29 (σ.1 37 + 1).toNatClampNeg c) 30 (σ.1 37 + 1).toNatClampNeg (σ.1 12 + 1)) 31 (σ.1 37 + 1).toNatClampNeg (-1)) 33 (σ.1 37 + 1).toNatClampNeg (-1)) 16 k.toNatClampNeg (σ.1 37 + 1)) 24 k.toNatClampNeg 0))
theorem vp_in.inc {x M : Int32} {N : Nat} (h : vp_in x (N + 1)) (hM : M = nI N) (hN : N + 1 < 2 ^ 31) (hne : ¬ x = M) : vp_in (x + 1) (N + 1) := by
  obtain ⟨j, hj, rfl⟩ := vp_in_of h hN
  have hj2 : j ≠ N := fun e => hne (by rw [hM, e])
  rw [nI_1]; exact vp_in_nI (by omega) hN
/-- NODE k's two last collects are alike -/
def rSame (n : Nat) (k : Int32) (σ : RS) : Prop := ∀ i, i < n → σ.2 23 ((31 : Int32) * k + nI i).toNatClampNeg = σ.2 22 ((31 : Int32) * k + nI i).toNatClampNeg
/-- NODE i moved twice, as k sees it -/
def rMv (k : Int32) (σ : RS) (i : Nat) : Prop := (2 : Int32) ≤ σ.2 25 ((31 : Int32) * k + nI i).toNatClampNeg + (if σ.2 23 ((31 : Int32) * k + nI i).toNatClampNeg = σ.2 22 ((31 : Int32) * k + nI i).toNatClampNeg then 0 else 1)
def rSeen (n : Nat) (k : Int32) (σ : RS) : Prop := ¬ σ.2 24 k.toNatClampNeg = 0 ∧ (rSame n k σ ∨ ∃ i, i < n ∧ rMv k σ i)
def rEnds (k : Int32) (σ : RS) : RS := rA (rA (rA (rA σ 31 (σ.2 16 k.toNatClampNeg).toNatClampNeg (σ.1 12)) 14 k.toNatClampNeg 0) 17 k.toNatClampNeg 0) 16 k.toNatClampNeg 0
set_option maxHeartbeats 4000000 in
set_option maxRecDepth 100000 in
theorem ql_collect {p : Program} {l : Launch} {e : Env} {R : Room} {s : State} {m : MethodId} {args : Array Value} {below : List Frame} {meth : Method} {c : Code} {cells slots : Nat} {Q : State → Prop} {D : va_G} {cI cZ cN cO : ClassId} {A : Nat → Prop} {H0 : Heap} {mm : Nat} {d : Nat → Nat} {n : Nat} (C : Cx p c cX4_collect s m args RX4 D (gTy cI cZ cN cO)) (hml : c.maxLocals = 3) {σ : RS} {k : Int32} (hn : n ≤ 31) (hk : vp_in k n) (kk : ∀ (H : Heap) (locs : List Loc), rWd D cI cZ A H0 mm d (itr (rZero 21 k) n σ) H locs → rOK n (itr (rZero 21 k) n σ) → ∀ ls : Array Slot, lv_has ls 3 [(2, .int (nI n)), (0, .ref mm), (1, .int k)] → W p l e R s m args below meth c H locs cells slots Q (F0 m 50 ls [])) : ∀ (fu i : Nat), i + fu = n → ∀ (H : Heap) (locs : List Loc), rWd D cI cZ A H0 mm d (itr (rZero 21 k) i σ) H locs → rOK n (itr (rZero 21 k) i σ) → ∀ ls : Array Slot, lv_has ls 3 [(2, .int (nI i)), (0, .ref mm), (1, .int k)] → W p l e R s m args below meth c H locs cells slots Q (F0 m 24 ls []) := by
  intro fu
  induction fu with
  | zero =>
    intro i hik
    intro H locs w ok ls hl
    have hx := C.1
    have hb := C.2.1
    have hi : n = i := by omega
    subst hi
    refine lv_iload_n hx hb dX4_collect_24 rfl (lv_at hl 0 rfl) ?_
    refine lv_aload_n hx hb dX4_collect_25 rfl (lv_at hl 1 rfl) ?_
    refine r_get_0 C w dX4_collect_26 ?_
    rw [ok.nn]
    refine lv_icmp_ge (tgt := 50) hx hb dX4_collect_29 (by decide) (fun c_29 => ?_) (fun c_29 => absurd (Int32.le_refl _) c_29)
    exact kk _ _ w ok ls (lv_sub hl [0, 1, 2] rfl)
  | succ fu ih =>
    intro i hik
    intro H locs w ok ls hl
    have hx := C.1
    have hb := C.2.1
    have hi : i < n := by omega
    refine lv_iload_n hx hb dX4_collect_24 rfl (lv_at hl 0 rfl) ?_
    refine lv_aload_n hx hb dX4_collect_25 rfl (lv_at hl 1 rfl) ?_
    refine r_get_0 C w dX4_collect_26 ?_
    rw [ok.nn]
    refine lv_icmp_ge (tgt := 50) hx hb dX4_collect_29 (by decide) (fun c_29 => absurd c_29 (nI_ge hi (by omega))) (fun c_29 => ?_)
    refine lv_aload_n hx hb dX4_collect_32 rfl (lv_at hl 1 rfl) ?_
    refine r_get_21 C w dX4_collect_33 ?_
    refine lv_bipush (v := 31) hx hb dX4_collect_36 (by decide) ?_
    refine lv_iload_n hx hb dX4_collect_38 rfl (lv_at hl 2 rfl) ?_
    refine lv_imul hx hb dX4_collect_39 ?_
    refine lv_topi (fun t_1 et_1 => ?_)
    refine lv_iload_n hx hb dX4_collect_40 rfl (lv_at hl 0 rfl) ?_
    refine lv_iadd hx hb dX4_collect_41 ?_
    refine lv_topi (fun t_2 et_2 => ?_)
    refine lv_iconst (v := 0) hx hb dX4_collect_42 (by decide) ?_
    refine r_st_21 C w (by rw [et_2, et_1]; exact gIx (c := 31) (N := 31) rfl (by decide) (ok.n31 hk) (vp_in_nI (by omega) (by omega))) dX4_collect_43 (fun H locs w => ?_)
    have ok : rOK n _ := rOK.st ok (k := 21) (i := t_2.toNatClampNeg) (v := 0) (fun b hb => by cases hb; exact (by unfold vp_in; decide +kernel))
    obtain ⟨x_3, ex_3⟩ : ∃ y : Int32, y = (nI i) + 1 := ⟨_, rfl⟩
    refine lv_iinc (v := x_3) (lv' := [(2, _), (0, _), (1, _)]) C.1 C.2.1 dX4_collect_44 hl (k := 0) rfl (by rw [ex_3]; rfl) (by decide) rfl (fun ls hl => ?_)
    refine lv_goto (tgt := 24) hx hb dX4_collect_47 (by decide) ?_
    subst et_2 et_1
    have hx2 : x_3 = nI (i + 1) := by rw [ex_3]; exact nI_1 i
    rw [hx2] at hl
    exact ih (i + 1) (by omega) _ _ w ok ls (lv_sub hl [0, 1, 2] rfl)
set_option maxHeartbeats 4000000 in
set_option maxRecDepth 100000 in
/-- collect(k) -/
theorem q_collect (l : Launch) (D : va_G) (cI cZ cN cO : ClassId) (A : Nat → Prop) (mm : Nat) (d : Nat → Nat) (n : Nat) (σ : RS) (k : Int32) (ok : rOK n σ) (hk : vp_in k n) (hrm : rRm σ n) : Met l yX4_collect (.code yX4_collect cX4_collect 3 none :: gw) ({ frames := 2, cells := 0, slots := 0, locals := 51 }) (va_Pc (.ref mm :: [.int k]) (rH D cI cZ cN cO A mm d σ)) (va_Qv (fun _ : Unit => True) (fun _ t => rH D cI cZ cN cO A mm d (rCol n k σ) t ∧ rOK n (rCol n k σ)) A) 0 0 A := by
  refine Met.ofW (cc := cX4_collect) (maxL := 3) (ret := none) (by decide) rfl ?_
  intro p e s m args below meth c s₁ B hml hv
  obtain ⟨rfl, hP, hK, hD⟩ := hv
  have hx := B.exec
  have hb := B.bytes
  have hr := B.returns
  have hts := atoms_spec (ws := (.code yX4_collect cX4_collect 3 none :: gw)) B.pre
  have hg : ∀ w ∈ gw, w.before _ s = true := fun w h => hts w (List.mem_cons_of_mem _ h)
  have hown : s.vm.findClass RX4 = some m.cls := findClass_of_methodNamed B.named
  have hlocks := B.notSynchronized
  have C : Cx p c cX4_collect s m _ RX4 D (gTy cI cZ cN cO) := ⟨hx, hb, hown, hg, hK⟩
  have w : rWd D cI cZ A s.heap mm d σ s.heap [] := ⟨hP, hD, va_S.rf⟩
  have hl := lv_entry ([.ref mm, .int k]) (n := 3) (Nat.le_of_ble_eq_true rfl)
  rw [lg_entry_eq]
  generalize (lg_sl ([.ref mm, .int k]) ++ List.replicate (3 - (lg_sl ([.ref mm, .int k])).length) Slot.unset).toArray = ls at hl ⊢
  have hl : lv_has ls 3 [(0, .ref mm), (1, .int k)] := hl
  refine lv_aload_n hx hb dX4_collect_0 rfl (lv_at hl 0 rfl) ?_
  refine r_get_14 C w dX4_collect_1 ?_
  refine lv_iload_n hx hb dX4_collect_4 rfl (lv_at hl 1 rfl) ?_
  refine lv_iconst (v := 1) hx hb dX4_collect_5 (by decide) ?_
  refine r_st_14 C w (ok.n31 hk) dX4_collect_6 (fun H locs w => ?_)
  have ok : rOK n _ := rOK.st ok (k := 14) (i := k.toNatClampNeg) (v := 1) (fun b hb => by cases hb)
  refine lv_aload_n hx hb dX4_collect_7 rfl (lv_at hl 0 rfl) ?_
  refine r_get_32 C w dX4_collect_8 ?_
  refine lv_aload_n hx hb dX4_collect_11 rfl (lv_at hl 0 rfl) ?_
  refine r_get_16 C w dX4_collect_12 ?_
  refine lv_iload_n hx hb dX4_collect_15 rfl (lv_at hl 1 rfl) ?_
  refine r_ld_16 C w (ok.n31 hk) dX4_collect_16 ?_
  refine lv_topi (fun t_1 et_1 => ?_)
  refine lv_dup2_11 hx hb dX4_collect_17 rfl rfl ?_
  refine r_ld_32 C w (show vp_in t_1 512 from by rw [et_1]; exact ok.at 16 rfl _) dX4_collect_18 ?_
  refine lv_topi (fun t_2 et_2 => ?_)
  refine lv_iconst (v := 1) hx hb dX4_collect_19 (by decide) ?_
  refine lv_iadd hx hb dX4_collect_20 ?_
  refine lv_topi (fun t_3 et_3 => ?_)
  refine r_st_32 C w (show vp_in t_1 512 from by rw [et_1]; exact ok.at 16 rfl _) dX4_collect_21 (fun H locs w => ?_)
  have ok : rOK n _ := rOK.st ok (k := 32) (i := t_1.toNatClampNeg) (v := t_3) (fun b hb => by cases hb)
  refine lv_iconst (v := 0) hx hb dX4_collect_22 (by decide) ?_
  refine lv_istore_n (lv' := [(2, _), (0, _), (1, _)]) C.1 C.2.1 dX4_collect_23 rfl hl (by decide) rfl (fun ls hl => ?_)
  subst et_3 et_2 et_1
  rw [← nI_0] at hl
  refine ql_collect C hml ok.2.1 hk ?_ n 0 (by omega) _ _ w ok ls (lv_sub hl [0, 1, 2] rfl)
  intro H locs w ok ls hl
  refine lv_aload_n hx hb dX4_collect_50 rfl (lv_at hl 1 rfl) ?_
  refine lv_iload_n hx hb dX4_collect_51 rfl (lv_at hl 2 rfl) ?_
  refine lv_iconst (v := 0) hx hb dX4_collect_52 (by decide) ?_
  refine lv_aload_n hx hb dX4_collect_53 rfl (lv_at hl 1 rfl) ?_
  refine r_get_21 C w dX4_collect_54 ?_
  refine r_callv (As := [.int k, .int 0, .ref ((d 21))]) (rest := []) C w hml hl.1 (q_toC l D cI cZ cN cO A mm d n _ k ok hk (((hrm.st (by decide)).st (by decide)).zero (by decide) k n)) kM_X4_125 kI_X4_toAll kS_X4_toAll kD_X4_toAll (show yX4_toAll.cls = RX4 ∧ yX4_toAll.cls ≠ "java/lang/invoke/MethodHandle" ∧ yX4_toAll.cls ≠ "java/lang/invoke/VarHandle" ∧ (parseMethodDescriptor yX4_toAll.desc).map (fun d => d.parameters.length) = some 3 from by decide +kernel) rfl rfl ⟨Nat.le_of_ble_eq_true rfl, Nat.le_of_ble_eq_true rfl⟩ rfl (lv_room (Nat.le_of_ble_eq_true rfl)) dX4_collect_57 ⟨Nat.zero_le _, Nat.zero_le _⟩ (fun H locs w ok => ?_)
  exact W.vret hx hb hr (fun t ht hW => ⟨⟨(), rfl, trivial, ⟨by rw [ht]; exact w.1, va_K.moved hW.alike hK, w.2.1⟩, ok⟩, w.2.2.F ht⟩) w.2.2.2.2 dX4_collect_60
set_option maxHeartbeats 4000000 in
set_option maxRecDepth 100000 in
theorem ql_begin {p : Program} {l : Launch} {e : Env} {R : Room} {s : State} {m : MethodId} {args : Array Value} {below : List Frame} {meth : Method} {c : Code} {cells slots : Nat} {Q : State → Prop} {D : va_G} {cI cZ cN cO : ClassId} {A : Nat → Prop} {H0 : Heap} {mm : Nat} {d : Nat → Nat} {n : Nat} (C : Cx p c cX4_begin s m args RX4 D (gTy cI cZ cN cO)) (hml : c.maxLocals = 7) {σ : RS} {k o a1 b2 c3 : Int32} (hn : n ≤ 31) (hk : vp_in k n) (kk : ∀ (H : Heap) (locs : List Loc), rWd D cI cZ A H0 mm d (itr (rZero 25 k) n σ) H locs → rOK n (itr (rZero 25 k) n σ) → ∀ ls : Array Slot, lv_has ls 7 [(6, .int (nI n)), (5, .int o), (4, .int c3), (0, .ref mm), (1, .int k), (2, .int a1), (3, .int b2)] → W p l e R s m args below meth c H locs cells slots Q (F0 m 173 ls [])) : ∀ (fu i : Nat), i + fu = n → ∀ (H : Heap) (locs : List Loc), rWd D cI cZ A H0 mm d (itr (rZero 25 k) i σ) H locs → rOK n (itr (rZero 25 k) i σ) → ∀ ls : Array Slot, lv_has ls 7 [(6, .int (nI i)), (5, .int o), (4, .int c3), (0, .ref mm), (1, .int k), (2, .int a1), (3, .int b2)] → W p l e R s m args below meth c H locs cells slots Q (F0 m 145 ls []) := by
  intro fu
  induction fu with
  | zero =>
    intro i hik
    intro H locs w ok ls hl
    have hx := C.1
    have hb := C.2.1
    have hi : n = i := by omega
    subst hi
    refine lv_iload hx hb dX4_begin_145 (lv_at hl 0 rfl) ?_
    refine lv_aload_n hx hb dX4_begin_147 rfl (lv_at hl 3 rfl) ?_
    refine r_get_0 C w dX4_begin_148 ?_
    rw [ok.nn]
    refine lv_icmp_ge (tgt := 173) hx hb dX4_begin_151 (by decide) (fun c_151 => ?_) (fun c_151 => absurd (Int32.le_refl _) c_151)
    exact kk _ _ w ok ls (lv_sub hl [0, 1, 2, 3, 4, 5, 6] rfl)
  | succ fu ih =>
    intro i hik
    intro H locs w ok ls hl
    have hx := C.1
    have hb := C.2.1
    have hi : i < n := by omega
    refine lv_iload hx hb dX4_begin_145 (lv_at hl 0 rfl) ?_
    refine lv_aload_n hx hb dX4_begin_147 rfl (lv_at hl 3 rfl) ?_
    refine r_get_0 C w dX4_begin_148 ?_
    rw [ok.nn]
    refine lv_icmp_ge (tgt := 173) hx hb dX4_begin_151 (by decide) (fun c_151 => absurd c_151 (nI_ge hi (by omega))) (fun c_151 => ?_)
    refine lv_aload_n hx hb dX4_begin_154 rfl (lv_at hl 3 rfl) ?_
    refine r_get_25 C w dX4_begin_155 ?_
    refine lv_bipush (v := 31) hx hb dX4_begin_158 (by decide) ?_
    refine lv_iload_n hx hb dX4_begin_160 rfl (lv_at hl 4 rfl) ?_
    refine lv_imul hx hb dX4_begin_161 ?_
    refine lv_topi (fun t_1 et_1 => ?_)
    refine lv_iload hx hb dX4_begin_162 (lv_at hl 0 rfl) ?_
    refine lv_iadd hx hb dX4_begin_164 ?_
    refine lv_topi (fun t_2 et_2 => ?_)
    refine lv_iconst (v := 0) hx hb dX4_begin_165 (by decide) ?_
    refine r_st_25 C w (by rw [et_2, et_1]; exact gIx (c := 31) (N := 31) rfl (by decide) (ok.n31 hk) (vp_in_nI (by omega) (by omega))) dX4_begin_166 (fun H locs w => ?_)
    have ok : rOK n _ := rOK.st ok (k := 25) (i := t_2.toNatClampNeg) (v := 0) (fun b hb => by cases hb)
    obtain ⟨x_3, ex_3⟩ : ∃ y : Int32, y = (nI i) + 1 := ⟨_, rfl⟩
    refine lv_iinc (v := x_3) (lv' := [(6, _), (5, _), (4, _), (0, _), (1, _), (2, _), (3, _)]) C.1 C.2.1 dX4_begin_167 hl (k := 0) rfl (by rw [ex_3]; rfl) (by decide) rfl (fun ls hl => ?_)
    refine lv_goto (tgt := 145) hx hb dX4_begin_170 (by decide) ?_
    subst et_2 et_1
    have hx2 : x_3 = nI (i + 1) := by rw [ex_3]; exact nI_1 i
    rw [hx2] at hl
    exact ih (i + 1) (by omega) _ _ w ok ls (lv_sub hl [0, 1, 2, 3, 4, 5, 6] rfl)
set_option maxHeartbeats 4000000 in
set_option maxRecDepth 100000 in
theorem q_begin_no (l : Launch) (D : va_G) (cI cZ cN cO : ClassId) (A : Nat → Prop) (mm : Nat) (d : Nat → Nat) (n : Nat) (σ : RS) (k a1 b2 c3 : Int32) (ok : rOK n σ) (hk : vp_in k n) (hno : ¬ (σ.2 13 k.toNatClampNeg = 0 ∧ σ.2 14 k.toNatClampNeg = 0 ∧ ¬ σ.1 37 = 511 ∧ ¬ 2000 < σ.1 9 + nI n)) : Met l yX4_begin (.code yX4_begin cX4_begin 7 (some .int) :: gw) ({ frames := 3, cells := 0, slots := 0, locals := 73 }) (va_Pc (.ref mm :: [.int k, .int a1, .int b2, .int c3]) (rH D cI cZ cN cO A mm d σ)) (va_Qi (fun (r : Int32) (_ : Unit) => r = -1) (fun _ t => rH D cI cZ cN cO A mm d (σ) t ∧ rOK n (σ)) A) 0 0 A := by
  refine Met.ofW (cc := cX4_begin) (maxL := 7) (ret := (some .int)) (by decide) rfl ?_
  intro p e s m args below meth c s₁ B hml hv
  obtain ⟨rfl, hP, hK, hD⟩ := hv
  have hx := B.exec
  have hb := B.bytes
  have hr := B.returns
  have hts := atoms_spec (ws := (.code yX4_begin cX4_begin 7 (some .int) :: gw)) B.pre
  have hg : ∀ w ∈ gw, w.before _ s = true := fun w h => hts w (List.mem_cons_of_mem _ h)
  have hown : s.vm.findClass RX4 = some m.cls := findClass_of_methodNamed B.named
  have hlocks := B.notSynchronized
  have C : Cx p c cX4_begin s m _ RX4 D (gTy cI cZ cN cO) := ⟨hx, hb, hown, hg, hK⟩
  have w : rWd D cI cZ A s.heap mm d σ s.heap [] := ⟨hP, hD, va_S.rf⟩
  have hl := lv_entry ([.ref mm, .int k, .int a1, .int b2, .int c3]) (n := 7) (Nat.le_of_ble_eq_true rfl)
  rw [lg_entry_eq]
  generalize (lg_sl ([.ref mm, .int k, .int a1, .int b2, .int c3]) ++ List.replicate (7 - (lg_sl ([.ref mm, .int k, .int a1, .int b2, .int c3])).length) Slot.unset).toArray = ls at hl ⊢
  have hl : lv_has ls 7 [(0, .ref mm), (1, .int k), (2, .int a1), (3, .int b2), (4, .int c3)] := hl
  refine lv_aload_n hx hb dX4_begin_0 rfl (lv_at hl 0 rfl) ?_
  refine r_get_13 C w dX4_begin_1 ?_
  refine lv_iload_n hx hb dX4_begin_4 rfl (lv_at hl 1 rfl) ?_
  refine r_ld_13 C w (ok.n31 hk) dX4_begin_5 ?_
  refine lv_topi (fun t_1 et_1 => ?_)
  refine lv_if_ne (tgt := 39) hx hb dX4_begin_6 (by decide) (fun c_6 => ?_) (fun c_6 => ?_)
  · refine lv_iconst (v := (-1)) hx hb dX4_begin_39 (by decide) ?_
    exact W.iret hx hb hr (fun t ht hW => ⟨⟨_, (), rfl, rfl, ⟨by rw [ht]; exact w.1, va_K.moved hW.alike hK, w.2.1⟩, ok⟩, w.2.2.F ht⟩) w.2.2.2.2 dX4_begin_40
  · refine lv_aload_n hx hb dX4_begin_9 rfl (lv_at hl 0 rfl) ?_
    refine r_get_14 C w dX4_begin_10 ?_
    refine lv_iload_n hx hb dX4_begin_13 rfl (lv_at hl 1 rfl) ?_
    refine r_ld_14 C w (ok.n31 hk) dX4_begin_14 ?_
    refine lv_topi (fun t_2 et_2 => ?_)
    refine lv_if_ne (tgt := 39) hx hb dX4_begin_15 (by decide) (fun c_15 => ?_) (fun c_15 => ?_)
    · refine lv_iconst (v := (-1)) hx hb dX4_begin_39 (by decide) ?_
      exact W.iret hx hb hr (fun t ht hW => ⟨⟨_, (), rfl, rfl, ⟨by rw [ht]; exact w.1, va_K.moved hW.alike hK, w.2.1⟩, ok⟩, w.2.2.F ht⟩) w.2.2.2.2 dX4_begin_40
    · refine lv_aload_n hx hb dX4_begin_18 rfl (lv_at hl 0 rfl) ?_
      refine r_get_37 C w dX4_begin_19 ?_
      refine lv_topi (fun t_3 et_3 => ?_)
      refine lv_sipush (v := 511) hx hb dX4_begin_22 (by decide) ?_
      refine lv_icmp_eq (tgt := 39) hx hb dX4_begin_25 (by decide) (fun c_25 => ?_) (fun c_25 => ?_)
      · refine lv_iconst (v := (-1)) hx hb dX4_begin_39 (by decide) ?_
        exact W.iret hx hb hr (fun t ht hW => ⟨⟨_, (), rfl, rfl, ⟨by rw [ht]; exact w.1, va_K.moved hW.alike hK, w.2.1⟩, ok⟩, w.2.2.F ht⟩) w.2.2.2.2 dX4_begin_40
      · refine lv_aload_n hx hb dX4_begin_28 rfl (lv_at hl 0 rfl) ?_
        refine lv_aload_n hx hb dX4_begin_29 rfl (lv_at hl 0 rfl) ?_
        refine r_get_0 C w dX4_begin_30 ?_
        rw [ok.nn]
        refine r_callp (As := [.int (nI n)]) (rest := []) C w hml hl.1 (q_hasRoom l D cI cZ cN cO A mm d n _ (nI n) ok ) kM_X4_132 kI_X4_hasRoom kS_X4_hasRoom kD_X4_hasRoom (show yX4_hasRoom.cls = RX4 ∧ yX4_hasRoom.cls ≠ "java/lang/invoke/MethodHandle" ∧ yX4_hasRoom.cls ≠ "java/lang/invoke/VarHandle" ∧ (parseMethodDescriptor yX4_hasRoom.desc).map (fun d => d.parameters.length) = some 1 from by decide +kernel) rfl rfl ⟨Nat.le_of_ble_eq_true rfl, Nat.le_of_ble_eq_true rfl⟩ rfl (lv_room (Nat.le_of_ble_eq_true rfl)) dX4_begin_33 ⟨Nat.zero_le _, Nat.zero_le _⟩ (fun r_4 hr_4 => ?_)
        refine lv_if_ne (tgt := 41) hx hb dX4_begin_36 (by decide) (fun c_36 => absurd ⟨by rw [← et_1]; exact c_6, by rw [← et_2]; exact c_15, by rw [← et_3]; exact c_25, ite_ne0 hr_4 c_36⟩ hno) (fun c_36 => ?_)
        refine lv_iconst (v := (-1)) hx hb dX4_begin_39 (by decide) ?_
        exact W.iret hx hb hr (fun t ht hW => ⟨⟨_, (), rfl, rfl, ⟨by rw [ht]; exact w.1, va_K.moved hW.alike hK, w.2.1⟩, ok⟩, w.2.2.F ht⟩) w.2.2.2.2 dX4_begin_40
set_option maxHeartbeats 4000000 in
set_option maxRecDepth 100000 in
theorem q_begin_go (l : Launch) (D : va_G) (cI cZ cN cO : ClassId) (A : Nat → Prop) (mm : Nat) (d : Nat → Nat) (n : Nat) (σ : RS) (k a1 b2 c3 : Int32) (ok : rOK n σ) (hk : vp_in k n) (hgo : σ.2 13 k.toNatClampNeg = 0 ∧ σ.2 14 k.toNatClampNeg = 0 ∧ ¬ σ.1 37 = 511 ∧ ¬ 2000 < σ.1 9 + nI n) (hrm : rRm σ n) : Met l yX4_begin (.code yX4_begin cX4_begin 7 (some .int) :: gw) ({ frames := 3, cells := 0, slots := 0, locals := 73 }) (va_Pc (.ref mm :: [.int k, .int a1, .int b2, .int c3]) (rH D cI cZ cN cO A mm d σ)) (va_Qi (fun (r : Int32) (_ : Unit) => r = σ.1 37 + 1) (fun _ t => rH D cI cZ cN cO A mm d (rBeg n k a1 b2 c3 σ) t ∧ rOK n (rBeg n k a1 b2 c3 σ)) A) 0 0 A := by
  refine Met.ofW (cc := cX4_begin) (maxL := 7) (ret := (some .int)) (by decide) rfl ?_
  intro p e s m args below meth c s₁ B hml hv
  obtain ⟨rfl, hP, hK, hD⟩ := hv
  have hx := B.exec
  have hb := B.bytes
  have hr := B.returns
  have hts := atoms_spec (ws := (.code yX4_begin cX4_begin 7 (some .int) :: gw)) B.pre
  have hg : ∀ w ∈ gw, w.before _ s = true := fun w h => hts w (List.mem_cons_of_mem _ h)
  have hown : s.vm.findClass RX4 = some m.cls := findClass_of_methodNamed B.named
  have hlocks := B.notSynchronized
  have C : Cx p c cX4_begin s m _ RX4 D (gTy cI cZ cN cO) := ⟨hx, hb, hown, hg, hK⟩
  have w : rWd D cI cZ A s.heap mm d σ s.heap [] := ⟨hP, hD, va_S.rf⟩
  have hl := lv_entry ([.ref mm, .int k, .int a1, .int b2, .int c3]) (n := 7) (Nat.le_of_ble_eq_true rfl)
  rw [lg_entry_eq]
  generalize (lg_sl ([.ref mm, .int k, .int a1, .int b2, .int c3]) ++ List.replicate (7 - (lg_sl ([.ref mm, .int k, .int a1, .int b2, .int c3])).length) Slot.unset).toArray = ls at hl ⊢
  have hl : lv_has ls 7 [(0, .ref mm), (1, .int k), (2, .int a1), (3, .int b2), (4, .int c3)] := hl
  refine lv_aload_n hx hb dX4_begin_0 rfl (lv_at hl 0 rfl) ?_
  refine r_get_13 C w dX4_begin_1 ?_
  refine lv_iload_n hx hb dX4_begin_4 rfl (lv_at hl 1 rfl) ?_
  refine r_ld_13 C w (ok.n31 hk) dX4_begin_5 ?_
  refine lv_topi (fun t_1 et_1 => ?_)
  refine lv_if_ne (tgt := 39) hx hb dX4_begin_6 (by decide) (fun c_6 => absurd (by rw [et_1]; exact hgo.1) c_6) (fun c_6 => ?_)
  refine lv_aload_n hx hb dX4_begin_9 rfl (lv_at hl 0 rfl) ?_
  refine r_get_14 C w dX4_begin_10 ?_
  refine lv_iload_n hx hb dX4_begin_13 rfl (lv_at hl 1 rfl) ?_
  refine r_ld_14 C w (ok.n31 hk) dX4_begin_14 ?_
  refine lv_topi (fun t_2 et_2 => ?_)
  refine lv_if_ne (tgt := 39) hx hb dX4_begin_15 (by decide) (fun c_15 => absurd (by rw [et_2]; exact hgo.2.1) c_15) (fun c_15 => ?_)
  refine lv_aload_n hx hb dX4_begin_18 rfl (lv_at hl 0 rfl) ?_
  refine r_get_37 C w dX4_begin_19 ?_
  refine lv_topi (fun t_3 et_3 => ?_)
  refine lv_sipush (v := 511) hx hb dX4_begin_22 (by decide) ?_
  refine lv_icmp_eq (tgt := 39) hx hb dX4_begin_25 (by decide) (fun c_25 => absurd (by rw [← et_3]; exact c_25) hgo.2.2.1) (fun c_25 => ?_)
  refine lv_aload_n hx hb dX4_begin_28 rfl (lv_at hl 0 rfl) ?_
  refine lv_aload_n hx hb dX4_begin_29 rfl (lv_at hl 0 rfl) ?_
  refine r_get_0 C w dX4_begin_30 ?_
  rw [ok.nn]
  refine r_callp (As := [.int (nI n)]) (rest := []) C w hml hl.1 (q_hasRoom l D cI cZ cN cO A mm d n _ (nI n) ok ) kM_X4_132 kI_X4_hasRoom kS_X4_hasRoom kD_X4_hasRoom (show yX4_hasRoom.cls = RX4 ∧ yX4_hasRoom.cls ≠ "java/lang/invoke/MethodHandle" ∧ yX4_hasRoom.cls ≠ "java/lang/invoke/VarHandle" ∧ (parseMethodDescriptor yX4_hasRoom.desc).map (fun d => d.parameters.length) = some 1 from by decide +kernel) rfl rfl ⟨Nat.le_of_ble_eq_true rfl, Nat.le_of_ble_eq_true rfl⟩ rfl (lv_room (Nat.le_of_ble_eq_true rfl)) dX4_begin_33 ⟨Nat.zero_le _, Nat.zero_le _⟩ (fun r_4 hr_4 => ?_)
  refine lv_if_ne (tgt := 41) hx hb dX4_begin_36 (by decide) (fun c_36 => ?_) (fun c_36 => absurd hgo.2.2.2 (ite_eq0 hr_4 c_36))
  refine lv_aload_n hx hb dX4_begin_41 rfl (lv_at hl 0 rfl) ?_
  refine lv_dup hx hb dX4_begin_42 rfl ?_
  refine r_get_12 C w dX4_begin_43 ?_
  refine lv_topi (fun t_5 et_5 => ?_)
  refine lv_iconst (v := 1) hx hb dX4_begin_46 (by decide) ?_
  refine lv_iadd hx hb dX4_begin_47 ?_
  refine lv_topi (fun t_6 et_6 => ?_)
  refine r_put_12 C w dX4_begin_48 (fun H locs w => ?_)
  have ok : rOK n _ := rOK.put ok (k := 12) (v := t_6) (by decide) (fun h => absurd h (by decide)) (fun h => absurd h (by decide))
  refine lv_aload_n hx hb dX4_begin_51 rfl (lv_at hl 0 rfl) ?_
  refine lv_dup hx hb dX4_begin_52 rfl ?_
  refine r_get_37 C w dX4_begin_53 ?_
  refine lv_topi (fun t_7 et_7 => ?_)
  refine lv_iconst (v := 1) hx hb dX4_begin_56 (by decide) ?_
  refine lv_iadd hx hb dX4_begin_57 ?_
  refine lv_topi (fun t_8 et_8 => ?_)
  refine r_put_37 C w dX4_begin_58 (fun H locs w => ?_)
  have ok : rOK n _ := rOK.put ok (k := 37) (v := t_8) (by decide) (fun h => absurd h (by decide)) (fun _ => (by rw [et_8, et_7]; exact vp_in.inc ok.2.2.2.2.1 (by decide +kernel) (by decide) hgo.2.2.1))
  refine lv_aload_n hx hb dX4_begin_61 rfl (lv_at hl 0 rfl) ?_
  refine r_get_37 C w dX4_begin_62 ?_
  refine lv_topi (fun t_9 et_9 => ?_)
  have hO : vp_in t_9 512 := by rw [et_9]; exact ok.2.2.2.2.1
  refine lv_istore (lv' := [(5, _), (0, _), (1, _), (2, _), (3, _), (4, _)]) C.1 C.2.1 dX4_begin_65 hl (by decide) rfl (fun ls hl => ?_)
  refine lv_aload_n hx hb dX4_begin_67 rfl (lv_at hl 1 rfl) ?_
  refine r_get_26 C w dX4_begin_68 ?_
  refine lv_iload hx hb dX4_begin_71 (lv_at hl 0 rfl) ?_
  refine lv_iload_n hx hb dX4_begin_73 rfl (lv_at hl 2 rfl) ?_
  refine r_st_26 C w hO dX4_begin_74 (fun H locs w => ?_)
  have ok : rOK n _ := rOK.st ok (k := 26) (i := t_9.toNatClampNeg) (v := k) (fun b hb => by cases hb; exact hk)
  refine lv_aload_n hx hb dX4_begin_75 rfl (lv_at hl 1 rfl) ?_
  refine r_get_27 C w dX4_begin_76 ?_
  refine lv_iload hx hb dX4_begin_79 (lv_at hl 0 rfl) ?_
  refine lv_iload_n hx hb dX4_begin_81 rfl (lv_at hl 3 rfl) ?_
  refine r_st_27 C w hO dX4_begin_82 (fun H locs w => ?_)
  have ok : rOK n _ := rOK.st ok (k := 27) (i := t_9.toNatClampNeg) (v := a1) (fun b hb => by cases hb)
  refine lv_aload_n hx hb dX4_begin_83 rfl (lv_at hl 1 rfl) ?_
  refine r_get_28 C w dX4_begin_84 ?_
  refine lv_iload hx hb dX4_begin_87 (lv_at hl 0 rfl) ?_
  refine lv_iload_n hx hb dX4_begin_89 rfl (lv_at hl 4 rfl) ?_
  refine r_st_28 C w hO dX4_begin_90 (fun H locs w => ?_)
  have ok : rOK n _ := rOK.st ok (k := 28) (i := t_9.toNatClampNeg) (v := b2) (fun b hb => by cases hb)
  refine lv_aload_n hx hb dX4_begin_91 rfl (lv_at hl 1 rfl) ?_
  refine r_get_29 C w dX4_begin_92 ?_
  refine lv_iload hx hb dX4_begin_95 (lv_at hl 0 rfl) ?_
  refine lv_iload hx hb dX4_begin_97 (lv_at hl 5 rfl) ?_
  refine r_st_29 C w hO dX4_begin_99 (fun H locs w => ?_)
  have ok : rOK n _ := rOK.st ok (k := 29) (i := t_9.toNatClampNeg) (v := c3) (fun b hb => by cases hb)
  refine lv_aload_n hx hb dX4_begin_100 rfl (lv_at hl 1 rfl) ?_
  refine r_get_30 C w dX4_begin_101 ?_
  refine lv_iload hx hb dX4_begin_104 (lv_at hl 0 rfl) ?_
  refine lv_aload_n hx hb dX4_begin_106 rfl (lv_at hl 1 rfl) ?_
  refine r_get_12 C w dX4_begin_107 ?_
  refine lv_topi (fun t_10 et_10 => ?_)
  refine r_st_30 C w hO dX4_begin_110 (fun H locs w => ?_)
  have ok : rOK n _ := rOK.st ok (k := 30) (i := t_9.toNatClampNeg) (v := t_10) (fun b hb => by cases hb)
  refine lv_aload_n hx hb dX4_begin_111 rfl (lv_at hl 1 rfl) ?_
  refine r_get_31 C w dX4_begin_112 ?_
  refine lv_iload hx hb dX4_begin_115 (lv_at hl 0 rfl) ?_
  refine lv_iconst (v := (-1)) hx hb dX4_begin_117 (by decide) ?_
  refine r_st_31 C w hO dX4_begin_118 (fun H locs w => ?_)
  have ok : rOK n _ := rOK.st ok (k := 31) (i := t_9.toNatClampNeg) (v := (-1)) (fun b hb => by cases hb)
  refine lv_aload_n hx hb dX4_begin_119 rfl (lv_at hl 1 rfl) ?_
  refine r_get_33 C w dX4_begin_120 ?_
  refine lv_iload hx hb dX4_begin_123 (lv_at hl 0 rfl) ?_
  refine lv_iconst (v := (-1)) hx hb dX4_begin_125 (by decide) ?_
  refine r_st_33 C w hO dX4_begin_126 (fun H locs w => ?_)
  have ok : rOK n _ := rOK.st ok (k := 33) (i := t_9.toNatClampNeg) (v := (-1)) (fun b hb => by cases hb)
  refine lv_aload_n hx hb dX4_begin_127 rfl (lv_at hl 1 rfl) ?_
  refine r_get_16 C w dX4_begin_128 ?_
  refine lv_iload_n hx hb dX4_begin_131 rfl (lv_at hl 2 rfl) ?_
  refine lv_iload hx hb dX4_begin_132 (lv_at hl 0 rfl) ?_
  refine r_st_16 C w (ok.n31 hk) dX4_begin_134 (fun H locs w => ?_)
  have ok : rOK n _ := rOK.st ok (k := 16) (i := k.toNatClampNeg) (v := t_9) (fun b hb => by cases hb; exact hO)
  refine lv_aload_n hx hb dX4_begin_135 rfl (lv_at hl 1 rfl) ?_
  refine r_get_24 C w dX4_begin_136 ?_
  refine lv_iload_n hx hb dX4_begin_139 rfl (lv_at hl 2 rfl) ?_
  refine lv_iconst (v := 0) hx hb dX4_begin_140 (by decide) ?_
  refine r_st_24 (v := 0) C w rfl (ok.n31 hk) dX4_begin_141 (fun H locs w => ?_)
  have ok : rOK n _ := rOK.st ok (k := 24) (i := k.toNatClampNeg) (v := 0) (fun b hb => by cases hb)
  refine lv_iconst (v := 0) hx hb dX4_begin_142 (by decide) ?_
  refine lv_istore (lv' := [(6, _), (5, _), (0, _), (1, _), (2, _), (3, _), (4, _)]) C.1 C.2.1 dX4_begin_143 hl (by decide) rfl (fun ls hl => ?_)
  subst et_10 et_9 et_8 et_7 et_6 et_5
  rw [← nI_0] at hl
  refine ql_begin C hml ok.2.1 hk ?_ n 0 (by omega) _ _ w ok ls (lv_sub hl [0, 1, 6, 2, 3, 4, 5] rfl)
  intro H locs w ok ls hl
  refine lv_aload_n hx hb dX4_begin_173 rfl (lv_at hl 3 rfl) ?_
  refine lv_iload_n hx hb dX4_begin_174 rfl (lv_at hl 4 rfl) ?_
  refine r_callv (As := [.int k]) (rest := []) C w hml hl.1 (q_collect l D cI cZ cN cO A mm d n _ k ok hk (rRm.zero (rRm.st (rRm.st (rRm.st (rRm.st (rRm.st (rRm.st (rRm.st (rRm.st (rRm.st (rRm.put (rRm.put hrm (by decide)) (by decide)) (by decide)) (by decide)) (by decide)) (by decide)) (by decide)) (by decide)) (by decide)) (by decide)) (by decide)) (by decide) k n)) kM_X4_139 kI_X4_collect kS_X4_collect kD_X4_collect (show yX4_collect.cls = RX4 ∧ yX4_collect.cls ≠ "java/lang/invoke/MethodHandle" ∧ yX4_collect.cls ≠ "java/lang/invoke/VarHandle" ∧ (parseMethodDescriptor yX4_collect.desc).map (fun d => d.parameters.length) = some 1 from by decide +kernel) rfl rfl ⟨Nat.le_of_ble_eq_true rfl, Nat.le_of_ble_eq_true rfl⟩ rfl (lv_room (Nat.le_of_ble_eq_true rfl)) dX4_begin_175 ⟨Nat.zero_le _, Nat.zero_le _⟩ (fun H locs w ok => ?_)
  refine lv_iload hx hb dX4_begin_178 (lv_at hl 1 rfl) ?_
  exact W.iret hx hb hr (fun t ht hW => ⟨⟨_, (), rfl, rfl, ⟨by rw [ht]; exact w.1, va_K.moved hW.alike hK, w.2.1⟩, ok⟩, w.2.2.F ht⟩) w.2.2.2.2 dX4_begin_180
end
section
set_option maxHeartbeats 4000000 in
set_option maxRecDepth 100000 in
theorem ql_isSame {p : Program} {l : Launch} {e : Env} {R : Room} {s : State} {m : MethodId} {args : Array Value} {below : List Frame} {meth : Method} {c : Code} {cells slots : Nat} {Q : State → Prop} {D : va_G} {cI cZ cN cO : ClassId} {A : Nat → Prop} {H0 : Heap} {mm : Nat} {d : Nat → Nat} {n : Nat} {H : Heap} {locs : List Loc} (C : Cx p c cX4_isSame s m args RX4 D (gTy cI cZ cN cO)) (hml : c.maxLocals = 3) {σ : RS} {k : Int32} (w : rWd D cI cZ A H0 mm d σ H locs) (ok : rOK n σ) (hk : vp_in k n) (kk : (∀ j, j < n → σ.2 23 ((31 : Int32) * k + nI j).toNatClampNeg = σ.2 22 ((31 : Int32) * k + nI j).toNatClampNeg) → ∀ ls : Array Slot, lv_has ls 3 [(2, .int (nI n)), (0, .ref mm), (1, .int k)] → W p l e R s m args below meth c H locs cells slots Q (F0 m 43 ls [])) (kx : ∀ (i : Nat), i < n → ¬ σ.2 23 ((31 : Int32) * k + nI i).toNatClampNeg = σ.2 22 ((31 : Int32) * k + nI i).toNatClampNeg → ∀ ls : Array Slot, lv_has ls 3 [(2, .int (nI i)), (0, .ref mm), (1, .int k)] → W p l e R s m args below meth c H locs cells slots Q (F0 m 35 ls [])) : ∀ (fu i : Nat), i + fu = n → (∀ j, j < i → σ.2 23 ((31 : Int32) * k + nI j).toNatClampNeg = σ.2 22 ((31 : Int32) * k + nI j).toNatClampNeg) → ∀ ls : Array Slot, lv_has ls 3 [(2, .int (nI i)), (0, .ref mm), (1, .int k)] → W p l e R s m args below meth c H locs cells slots Q (F0 m 2 ls []) := by
  intro fu
  induction fu with
  | zero =>
    intro i hik
    intro hI ls hl
    have hx := C.1
    have hb := C.2.1
    have hn9 := ok.2.1
    have hi : n = i := by omega
    subst hi
    refine lv_iload_n hx hb dX4_isSame_2 rfl (lv_at hl 0 rfl) ?_
    refine lv_aload_n hx hb dX4_isSame_3 rfl (lv_at hl 1 rfl) ?_
    refine r_get_0 C w dX4_isSame_4 ?_
    rw [ok.nn]
    refine lv_icmp_ge (tgt := 43) hx hb dX4_isSame_7 (by decide) (fun c_7 => ?_) (fun c_7 => absurd (Int32.le_refl _) c_7)
    exact kk hI ls (lv_sub hl [0, 1, 2] rfl)
  | succ fu ih =>
    intro i hik
    intro hI ls hl
    have hx := C.1
    have hb := C.2.1
    have hn9 := ok.2.1
    have hi : i < n := by omega
    refine lv_iload_n hx hb dX4_isSame_2 rfl (lv_at hl 0 rfl) ?_
    refine lv_aload_n hx hb dX4_isSame_3 rfl (lv_at hl 1 rfl) ?_
    refine r_get_0 C w dX4_isSame_4 ?_
    rw [ok.nn]
    refine lv_icmp_ge (tgt := 43) hx hb dX4_isSame_7 (by decide) (fun c_7 => absurd c_7 (nI_ge hi (by omega))) (fun c_7 => ?_)
    refine lv_aload_n hx hb dX4_isSame_10 rfl (lv_at hl 1 rfl) ?_
    refine r_get_23 C w dX4_isSame_11 ?_
    refine lv_bipush (v := 31) hx hb dX4_isSame_14 (by decide) ?_
    refine lv_iload_n hx hb dX4_isSame_16 rfl (lv_at hl 2 rfl) ?_
    refine lv_imul hx hb dX4_isSame_17 ?_
    refine lv_topi (fun t_1 et_1 => ?_)
    refine lv_iload_n hx hb dX4_isSame_18 rfl (lv_at hl 0 rfl) ?_
    refine lv_iadd hx hb dX4_isSame_19 ?_
    refine lv_topi (fun t_2 et_2 => ?_)
    refine r_ld_23 C w (by rw [et_2, et_1]; exact gIx (c := 31) (N := 31) rfl (by decide) (ok.n31 hk) (vp_in_nI (by omega) (by omega))) dX4_isSame_20 ?_
    refine lv_topi (fun t_3 et_3 => ?_)
    refine lv_aload_n hx hb dX4_isSame_21 rfl (lv_at hl 1 rfl) ?_
    refine r_get_22 C w dX4_isSame_22 ?_
    refine lv_bipush (v := 31) hx hb dX4_isSame_25 (by decide) ?_
    refine lv_iload_n hx hb dX4_isSame_27 rfl (lv_at hl 2 rfl) ?_
    refine lv_imul hx hb dX4_isSame_28 ?_
    refine lv_topi (fun t_4 et_4 => ?_)
    refine lv_iload_n hx hb dX4_isSame_29 rfl (lv_at hl 0 rfl) ?_
    refine lv_iadd hx hb dX4_isSame_30 ?_
    refine lv_topi (fun t_5 et_5 => ?_)
    refine r_ld_22 C w (by rw [et_5, et_4]; exact gIx (c := 31) (N := 31) rfl (by decide) (ok.n31 hk) (vp_in_nI (by omega) (by omega))) dX4_isSame_31 ?_
    refine lv_topi (fun t_6 et_6 => ?_)
    refine lv_icmp_eq (tgt := 37) hx hb dX4_isSame_32 (by decide) (fun c_32 => ?_) (fun c_32 => ?_)
    · obtain ⟨x_7, ex_7⟩ : ∃ y : Int32, y = (nI i) + 1 := ⟨_, rfl⟩
      refine lv_iinc (v := x_7) (lv' := [(2, _), (0, _), (1, _)]) C.1 C.2.1 dX4_isSame_37 hl (k := 0) rfl (by rw [ex_7]; rfl) (by decide) rfl (fun ls hl => ?_)
      refine lv_goto (tgt := 2) hx hb dX4_isSame_40 (by decide) ?_
      subst et_6 et_5 et_4 et_3 et_2 et_1
      have hx2 : x_7 = nI (i + 1) := by rw [ex_7]; exact nI_1 i
      rw [hx2] at hl
      exact ih (i + 1) (by omega) (fun j hj => by by_cases h : j = i; (subst h; exact c_32); exact hI j (by omega)) ls (lv_sub hl [0, 1, 2] rfl)
    · exact kx i hi (by subst et_6 et_5 et_4 et_3 et_2 et_1; exact c_32) ls (lv_sub hl [0, 1, 2] rfl)
set_option maxHeartbeats 4000000 in
set_option maxRecDepth 100000 in
theorem q_isSame (l : Launch) (D : va_G) (cI cZ cN cO : ClassId) (A : Nat → Prop) (mm : Nat) (d : Nat → Nat) (n : Nat) (σ : RS) (k : Int32) (ok : rOK n σ) (hk : vp_in k n) : Met l yX4_isSame (.code yX4_isSame cX4_isSame 3 (some .boolean) :: gw) ({ frames := 0, cells := 0, slots := 0, locals := 0 }) (va_Pc (.ref mm :: [.int k]) (rH D cI cZ cN cO A mm d σ)) (vp_Si (fun r => (r = 1 ∧ rSame n k σ) ∨ (r = 0 ∧ ¬ rSame n k σ))) 0 0 (fun _ => False) := by
  refine Met.ofW (cc := cX4_isSame) (maxL := 3) (ret := (some .boolean)) (by decide) rfl ?_
  intro p e s m args below meth c s₁ B hml hv
  obtain ⟨rfl, hP, hK, hD⟩ := hv
  have hx := B.exec
  have hb := B.bytes
  have hr := B.returns
  have hts := atoms_spec (ws := (.code yX4_isSame cX4_isSame 3 (some .boolean) :: gw)) B.pre
  have hg : ∀ w ∈ gw, w.before _ s = true := fun w h => hts w (List.mem_cons_of_mem _ h)
  have hown : s.vm.findClass RX4 = some m.cls := findClass_of_methodNamed B.named
  have hlocks := B.notSynchronized
  have C : Cx p c cX4_isSame s m _ RX4 D (gTy cI cZ cN cO) := ⟨hx, hb, hown, hg, hK⟩
  have w : rWd D cI cZ A s.heap mm d σ s.heap [] := ⟨hP, hD, va_S.rf⟩
  have hl := lv_entry ([.ref mm, .int k]) (n := 3) (Nat.le_of_ble_eq_true rfl)
  rw [lg_entry_eq]
  generalize (lg_sl ([.ref mm, .int k]) ++ List.replicate (3 - (lg_sl ([.ref mm, .int k])).length) Slot.unset).toArray = ls at hl ⊢
  have hl : lv_has ls 3 [(0, .ref mm), (1, .int k)] := hl
  refine lv_iconst (v := 0) hx hb dX4_isSame_0 (by decide) ?_
  refine lv_istore_n (lv' := [(2, _), (0, _), (1, _)]) C.1 C.2.1 dX4_isSame_1 rfl hl (by decide) rfl (fun ls hl => ?_)
  rw [← nI_0] at hl
  have hn9 := ok.2.1
  refine ql_isSame C hml w ok hk ?_ ?_ n 0 (by omega) (fun j hj => absurd hj (Nat.not_lt_zero j)) ls (lv_sub hl [0, 1, 2] rfl)
  · intro hI ls hl
    refine lv_iconst (v := 1) hx hb dX4_isSame_43 (by decide) ?_
    exact W.zret (v := 1) (ty := .boolean) hx hb hr rfl (fun t ht hW => ⟨_, rfl, Or.inl ⟨rfl, hI⟩, ht⟩) (fun _ h => by cases h) dX4_isSame_44
  · intro i hi hc ls hl
    refine lv_iconst (v := 0) hx hb dX4_isSame_35 (by decide) ?_
    exact W.zret (v := 0) (ty := .boolean) hx hb hr rfl (fun t ht hW => ⟨_, rfl, Or.inr ⟨rfl, fun h => hc (h i hi)⟩, ht⟩) (fun _ h => by cases h) dX4_isSame_36
set_option maxHeartbeats 4000000 in
set_option maxRecDepth 100000 in
theorem ql_movedTwice {p : Program} {l : Launch} {e : Env} {R : Room} {s : State} {m : MethodId} {args : Array Value} {below : List Frame} {meth : Method} {c : Code} {cells slots : Nat} {Q : State → Prop} {D : va_G} {cI cZ cN cO : ClassId} {A : Nat → Prop} {H0 : Heap} {mm : Nat} {d : Nat → Nat} {n : Nat} {H : Heap} {locs : List Loc} (C : Cx p c cX4_movedTwice s m args RX4 D (gTy cI cZ cN cO)) (hml : c.maxLocals = 4) {σ : RS} {k : Int32} (w : rWd D cI cZ A H0 mm d σ H locs) (ok : rOK n σ) (hk : vp_in k n) (kk : (∀ j, j < n → ¬ rMv k σ j) → ∀ ls : Array Slot, lv_has ls 4 [(2, .int (nI n)), (0, .ref mm), (1, .int k)] → W p l e R s m args below meth c H locs cells slots Q (F0 m 74 ls [])) (kx : ∀ (i : Nat), i < n → rMv k σ i → (∀ j, j < i → ¬ rMv k σ j) → ∀ ls : Array Slot, lv_has ls 4 [(2, .int (nI i)), (0, .ref mm), (1, .int k)] → W p l e R s m args below meth c H locs cells slots Q (F0 m 66 ls [])) : ∀ (fu i : Nat), i + fu = n → (∀ j, j < i → ¬ rMv k σ j) → ∀ ls : Array Slot, lv_has ls 4 [(2, .int (nI i)), (0, .ref mm), (1, .int k)] → W p l e R s m args below meth c H locs cells slots Q (F0 m 2 ls []) := by
  intro fu
  induction fu with
  | zero =>
    intro i hik
    intro hI ls hl
    have hx := C.1
    have hb := C.2.1
    have hn9 := ok.2.1
    have hi : n = i := by omega
    subst hi
    refine lv_iload_n hx hb dX4_movedTwice_2 rfl (lv_at hl 0 rfl) ?_
    refine lv_aload_n hx hb dX4_movedTwice_3 rfl (lv_at hl 1 rfl) ?_
    refine r_get_0 C w dX4_movedTwice_4 ?_
    rw [ok.nn]
    refine lv_icmp_ge (tgt := 74) hx hb dX4_movedTwice_7 (by decide) (fun c_7 => ?_) (fun c_7 => absurd (Int32.le_refl _) c_7)
    exact kk hI ls (lv_sub hl [0, 1, 2] rfl)
  | succ fu ih =>
    intro i hik
    intro hI ls hl
    have hx := C.1
    have hb := C.2.1
    have hn9 := ok.2.1
    have hi : i < n := by omega
    refine lv_iload_n hx hb dX4_movedTwice_2 rfl (lv_at hl 0 rfl) ?_
    refine lv_aload_n hx hb dX4_movedTwice_3 rfl (lv_at hl 1 rfl) ?_
    refine r_get_0 C w dX4_movedTwice_4 ?_
    rw [ok.nn]
    refine lv_icmp_ge (tgt := 74) hx hb dX4_movedTwice_7 (by decide) (fun c_7 => absurd c_7 (nI_ge hi (by omega))) (fun c_7 => ?_)
    refine lv_aload_n hx hb dX4_movedTwice_10 rfl (lv_at hl 1 rfl) ?_
    refine r_get_23 C w dX4_movedTwice_11 ?_
    refine lv_bipush (v := 31) hx hb dX4_movedTwice_14 (by decide) ?_
    refine lv_iload_n hx hb dX4_movedTwice_16 rfl (lv_at hl 2 rfl) ?_
    refine lv_imul hx hb dX4_movedTwice_17 ?_
    refine lv_topi (fun t_1 et_1 => ?_)
    refine lv_iload_n hx hb dX4_movedTwice_18 rfl (lv_at hl 0 rfl) ?_
    refine lv_iadd hx hb dX4_movedTwice_19 ?_
    refine lv_topi (fun t_2 et_2 => ?_)
    refine r_ld_23 C w (by rw [et_2, et_1]; exact gIx (c := 31) (N := 31) rfl (by decide) (ok.n31 hk) (vp_in_nI (by omega) (by omega))) dX4_movedTwice_20 ?_
    refine lv_topi (fun t_3 et_3 => ?_)
    refine lv_aload_n hx hb dX4_movedTwice_21 rfl (lv_at hl 1 rfl) ?_
    refine r_get_22 C w dX4_movedTwice_22 ?_
    refine lv_bipush (v := 31) hx hb dX4_movedTwice_25 (by decide) ?_
    refine lv_iload_n hx hb dX4_movedTwice_27 rfl (lv_at hl 2 rfl) ?_
    refine lv_imul hx hb dX4_movedTwice_28 ?_
    refine lv_topi (fun t_4 et_4 => ?_)
    refine lv_iload_n hx hb dX4_movedTwice_29 rfl (lv_at hl 0 rfl) ?_
    refine lv_iadd hx hb dX4_movedTwice_30 ?_
    refine lv_topi (fun t_5 et_5 => ?_)
    refine r_ld_22 C w (by rw [et_5, et_4]; exact gIx (c := 31) (N := 31) rfl (by decide) (ok.n31 hk) (vp_in_nI (by omega) (by omega))) dX4_movedTwice_31 ?_
    refine lv_topi (fun t_6 et_6 => ?_)
    refine lv_icmp_eq (tgt := 39) hx hb dX4_movedTwice_32 (by decide) (fun c_32 => ?_) (fun c_32 => ?_)
    · refine lv_iconst (v := 0) hx hb dX4_movedTwice_39 (by decide) ?_
      refine lv_istore_n (lv' := [(3, _), (2, _), (0, _), (1, _)]) C.1 C.2.1 dX4_movedTwice_40 rfl hl (by decide) rfl (fun ls hl => ?_)
      refine lv_aload_n hx hb dX4_movedTwice_41 rfl (lv_at hl 2 rfl) ?_
      refine r_get_25 C w dX4_movedTwice_42 ?_
      refine lv_bipush (v := 31) hx hb dX4_movedTwice_45 (by decide) ?_
      refine lv_iload_n hx hb dX4_movedTwice_47 rfl (lv_at hl 3 rfl) ?_
      refine lv_imul hx hb dX4_movedTwice_48 ?_
      refine lv_topi (fun t_7 et_7 => ?_)
      refine lv_iload_n hx hb dX4_movedTwice_49 rfl (lv_at hl 1 rfl) ?_
      refine lv_iadd hx hb dX4_movedTwice_50 ?_
      refine lv_topi (fun t_8 et_8 => ?_)
      refine r_ld_25 C w (by rw [et_8, et_7]; exact gIx (c := 31) (N := 31) rfl (by decide) (ok.n31 hk) (vp_in_nI (by omega) (by omega))) dX4_movedTwice_51 ?_
      refine lv_topi (fun t_9 et_9 => ?_)
      refine lv_iload_n hx hb dX4_movedTwice_52 rfl (lv_at hl 0 rfl) ?_
      refine lv_if_eq (tgt := 60) hx hb dX4_movedTwice_53 (by decide) (fun c_53 => ?_) (fun c_53 => absurd rfl c_53)
      refine lv_iconst (v := 0) hx hb dX4_movedTwice_60 (by decide) ?_
      refine lv_iadd hx hb dX4_movedTwice_61 ?_
      refine lv_topi (fun t_10 et_10 => ?_)
      refine lv_iconst (v := 2) hx hb dX4_movedTwice_62 (by decide) ?_
      refine lv_icmp_lt (tgt := 68) hx hb dX4_movedTwice_63 (by decide) (fun c_63 => ?_) (fun c_63 => ?_)
      · obtain ⟨x_11, ex_11⟩ : ∃ y : Int32, y = (nI i) + 1 := ⟨_, rfl⟩
        refine lv_iinc (v := x_11) (lv' := [(2, _), (3, _), (0, _), (1, _)]) C.1 C.2.1 dX4_movedTwice_68 hl (k := 1) rfl (by rw [ex_11]; rfl) (by decide) rfl (fun ls hl => ?_)
        refine lv_goto (tgt := 2) hx hb dX4_movedTwice_71 (by decide) ?_
        subst et_10 et_9 et_8 et_7 et_6 et_5 et_4 et_3 et_2 et_1
        have hx2 : x_11 = nI (i + 1) := by rw [ex_11]; exact nI_1 i
        rw [hx2] at hl
        exact ih (i + 1) (by omega) (fun j hj => by by_cases h : j = i; (subst h; intro hm; unfold rMv at hm; first | (rw [if_pos c_32] at hm; exact absurd c_63 (Int32.not_lt.mpr hm)) | (rw [if_neg c_32] at hm; exact absurd c_63 (Int32.not_lt.mpr hm))); exact hI j (by omega)) ls (lv_sub hl [0, 2, 3] rfl)
      · exact kx i hi (by subst et_10 et_9 et_8 et_7 et_6 et_5 et_4 et_3 et_2 et_1; unfold rMv; first | (rw [if_pos c_32]; exact Int32.not_lt.mp c_63) | (rw [if_neg c_32]; exact Int32.not_lt.mp c_63)) hI ls (lv_sub hl [1, 2, 3] rfl)
    · refine lv_iconst (v := 1) hx hb dX4_movedTwice_35 (by decide) ?_
      refine lv_goto (tgt := 40) hx hb dX4_movedTwice_36 (by decide) ?_
      refine lv_istore_n (lv' := [(3, _), (2, _), (0, _), (1, _)]) C.1 C.2.1 dX4_movedTwice_40 rfl hl (by decide) rfl (fun ls hl => ?_)
      refine lv_aload_n hx hb dX4_movedTwice_41 rfl (lv_at hl 2 rfl) ?_
      refine r_get_25 C w dX4_movedTwice_42 ?_
      refine lv_bipush (v := 31) hx hb dX4_movedTwice_45 (by decide) ?_
      refine lv_iload_n hx hb dX4_movedTwice_47 rfl (lv_at hl 3 rfl) ?_
      refine lv_imul hx hb dX4_movedTwice_48 ?_
      refine lv_topi (fun t_12 et_12 => ?_)
      refine lv_iload_n hx hb dX4_movedTwice_49 rfl (lv_at hl 1 rfl) ?_
      refine lv_iadd hx hb dX4_movedTwice_50 ?_
      refine lv_topi (fun t_13 et_13 => ?_)
      refine r_ld_25 C w (by rw [et_13, et_12]; exact gIx (c := 31) (N := 31) rfl (by decide) (ok.n31 hk) (vp_in_nI (by omega) (by omega))) dX4_movedTwice_51 ?_
      refine lv_topi (fun t_14 et_14 => ?_)
      refine lv_iload_n hx hb dX4_movedTwice_52 rfl (lv_at hl 0 rfl) ?_
      refine lv_if_eq (tgt := 60) hx hb dX4_movedTwice_53 (by decide) (fun c_53 => absurd c_53 (by decide)) (fun c_53 => ?_)
      refine lv_iconst (v := 1) hx hb dX4_movedTwice_56 (by decide) ?_
      refine lv_goto (tgt := 61) hx hb dX4_movedTwice_57 (by decide) ?_
      refine lv_iadd hx hb dX4_movedTwice_61 ?_
      refine lv_topi (fun t_15 et_15 => ?_)
      refine lv_iconst (v := 2) hx hb dX4_movedTwice_62 (by decide) ?_
      refine lv_icmp_lt (tgt := 68) hx hb dX4_movedTwice_63 (by decide) (fun c_63 => ?_) (fun c_63 => ?_)
      · obtain ⟨x_16, ex_16⟩ : ∃ y : Int32, y = (nI i) + 1 := ⟨_, rfl⟩
        refine lv_iinc (v := x_16) (lv' := [(2, _), (3, _), (0, _), (1, _)]) C.1 C.2.1 dX4_movedTwice_68 hl (k := 1) rfl (by rw [ex_16]; rfl) (by decide) rfl (fun ls hl => ?_)
        refine lv_goto (tgt := 2) hx hb dX4_movedTwice_71 (by decide) ?_
        subst et_15 et_14 et_13 et_12 et_6 et_5 et_4 et_3 et_2 et_1
        have hx2 : x_16 = nI (i + 1) := by rw [ex_16]; exact nI_1 i
        rw [hx2] at hl
        exact ih (i + 1) (by omega) (fun j hj => by by_cases h : j = i; (subst h; intro hm; unfold rMv at hm; first | (rw [if_pos c_32] at hm; exact absurd c_63 (Int32.not_lt.mpr hm)) | (rw [if_neg c_32] at hm; exact absurd c_63 (Int32.not_lt.mpr hm))); exact hI j (by omega)) ls (lv_sub hl [0, 2, 3] rfl)
      · exact kx i hi (by subst et_15 et_14 et_13 et_12 et_6 et_5 et_4 et_3 et_2 et_1; unfold rMv; first | (rw [if_pos c_32]; exact Int32.not_lt.mp c_63) | (rw [if_neg c_32]; exact Int32.not_lt.mp c_63)) hI ls (lv_sub hl [1, 2, 3] rfl)
set_option maxHeartbeats 4000000 in
set_option maxRecDepth 100000 in
theorem q_movedTwice (l : Launch) (D : va_G) (cI cZ cN cO : ClassId) (A : Nat → Prop) (mm : Nat) (d : Nat → Nat) (n : Nat) (σ : RS) (k : Int32) (ok : rOK n σ) (hk : vp_in k n) : Met l yX4_movedTwice (.code yX4_movedTwice cX4_movedTwice 4 (some .int) :: gw) ({ frames := 0, cells := 0, slots := 0, locals := 0 }) (va_Pc (.ref mm :: [.int k]) (rH D cI cZ cN cO A mm d σ)) (vp_Si (fun r => (∃ i, i < n ∧ r = nI i ∧ rMv k σ i ∧ ∀ j, j < i → ¬ rMv k σ j) ∨ (r = -1 ∧ ∀ j, j < n → ¬ rMv k σ j))) 0 0 (fun _ => False) := by
  refine Met.ofW (cc := cX4_movedTwice) (maxL := 4) (ret := (some .int)) (by decide) rfl ?_
  intro p e s m args below meth c s₁ B hml hv
  obtain ⟨rfl, hP, hK, hD⟩ := hv
  have hx := B.exec
  have hb := B.bytes
  have hr := B.returns
  have hts := atoms_spec (ws := (.code yX4_movedTwice cX4_movedTwice 4 (some .int) :: gw)) B.pre
  have hg : ∀ w ∈ gw, w.before _ s = true := fun w h => hts w (List.mem_cons_of_mem _ h)
  have hown : s.vm.findClass RX4 = some m.cls := findClass_of_methodNamed B.named
  have hlocks := B.notSynchronized
  have C : Cx p c cX4_movedTwice s m _ RX4 D (gTy cI cZ cN cO) := ⟨hx, hb, hown, hg, hK⟩
  have w : rWd D cI cZ A s.heap mm d σ s.heap [] := ⟨hP, hD, va_S.rf⟩
  have hl := lv_entry ([.ref mm, .int k]) (n := 4) (Nat.le_of_ble_eq_true rfl)
  rw [lg_entry_eq]
  generalize (lg_sl ([.ref mm, .int k]) ++ List.replicate (4 - (lg_sl ([.ref mm, .int k])).length) Slot.unset).toArray = ls at hl ⊢
  have hl : lv_has ls 4 [(0, .ref mm), (1, .int k)] := hl
  refine lv_iconst (v := 0) hx hb dX4_movedTwice_0 (by decide) ?_
  refine lv_istore_n (lv' := [(2, _), (0, _), (1, _)]) C.1 C.2.1 dX4_movedTwice_1 rfl hl (by decide) rfl (fun ls hl => ?_)
  rw [← nI_0] at hl
  have hn9 := ok.2.1
  refine ql_movedTwice C hml w ok hk ?_ ?_ n 0 (by omega) (fun j hj => absurd hj (Nat.not_lt_zero j)) ls (lv_sub hl [0, 1, 2] rfl)
  · intro hI ls hl
    refine lv_iconst (v := (-1)) hx hb dX4_movedTwice_74 (by decide) ?_
    exact W.iret hx hb hr (fun t ht hW => ⟨_, rfl, Or.inr ⟨rfl, hI⟩, ht⟩) (fun _ h => by cases h) dX4_movedTwice_75
  · intro i hi hc hI ls hl
    refine lv_iload_n hx hb dX4_movedTwice_66 rfl (lv_at hl 0 rfl) ?_
    exact W.iret hx hb hr (fun t ht hW => ⟨_, rfl, Or.inl ⟨i, hi, rfl, hc, hI⟩, ht⟩) (fun _ h => by cases h) dX4_movedTwice_67
theorem nI_nm1 {i : Nat} (h : i < 2 ^ 31) : ¬ nI i = -1 := by
  intro q
  have := nI_pos h
  rw [q] at this
  exact this (by decide)
set_option maxHeartbeats 4000000 in
set_option maxRecDepth 100000 in
theorem q_isSeen (l : Launch) (D : va_G) (cI cZ cN cO : ClassId) (A : Nat → Prop) (mm : Nat) (d : Nat → Nat) (n : Nat) (σ : RS) (k : Int32) (ok : rOK n σ) (hk : vp_in k n) : Met l yX4_isSeen (.code yX4_isSeen cX4_isSeen 2 (some .boolean) :: gw) ({ frames := 1, cells := 0, slots := 0, locals := 23 }) (va_Pc (.ref mm :: [.int k]) (rH D cI cZ cN cO A mm d σ)) (vp_Si (fun r => (r = 1 ∧ rSeen n k σ) ∨ (r = 0 ∧ ¬ rSeen n k σ))) 0 0 (fun _ => False) := by
  refine Met.ofW (cc := cX4_isSeen) (maxL := 2) (ret := (some .boolean)) (by decide) rfl ?_
  intro p e s m args below meth c s₁ B hml hv
  obtain ⟨rfl, hP, hK, hD⟩ := hv
  have hx := B.exec
  have hb := B.bytes
  have hr := B.returns
  have hts := atoms_spec (ws := (.code yX4_isSeen cX4_isSeen 2 (some .boolean) :: gw)) B.pre
  have hg : ∀ w ∈ gw, w.before _ s = true := fun w h => hts w (List.mem_cons_of_mem _ h)
  have hown : s.vm.findClass RX4 = some m.cls := findClass_of_methodNamed B.named
  have hlocks := B.notSynchronized
  have C : Cx p c cX4_isSeen s m _ RX4 D (gTy cI cZ cN cO) := ⟨hx, hb, hown, hg, hK⟩
  have w : rWd D cI cZ A s.heap mm d σ s.heap [] := ⟨hP, hD, va_S.rf⟩
  have hl := lv_entry ([.ref mm, .int k]) (n := 2) (Nat.le_of_ble_eq_true rfl)
  rw [lg_entry_eq]
  generalize (lg_sl ([.ref mm, .int k]) ++ List.replicate (2 - (lg_sl ([.ref mm, .int k])).length) Slot.unset).toArray = ls at hl ⊢
  have hl : lv_has ls 2 [(0, .ref mm), (1, .int k)] := hl
  refine lv_aload_n hx hb dX4_isSeen_0 rfl (lv_at hl 0 rfl) ?_
  refine r_get_24 C w dX4_isSeen_1 ?_
  refine lv_iload_n hx hb dX4_isSeen_4 rfl (lv_at hl 1 rfl) ?_
  refine r_ld_24 C w (ok.n31 hk) dX4_isSeen_5 ?_
  refine lv_topi (fun t_1 et_1 => ?_)
  refine lv_if_eq (tgt := 30) hx hb dX4_isSeen_6 (by decide) (fun c_6 => ?_) (fun c_6 => ?_)
  · refine lv_iconst (v := 0) hx hb dX4_isSeen_30 (by decide) ?_
    exact W.zret (v := 0) (ty := .boolean) hx hb hr rfl (fun t ht hW => ⟨_, rfl, (by first | exact Or.inr ⟨rfl, fun h => h.1 (by rw [← et_1]; assumption)⟩ | (rcases hr_2 with ⟨q1, q2⟩ | ⟨q1, q2⟩; (exact Or.inl ⟨rfl, fun z => c_6 (by rw [et_1]; exact z), Or.inl q2⟩); (exact absurd q1 c_14)) | (rcases hr_2 with ⟨q1, q2⟩ | ⟨q1, q2⟩; (rw [q1] at c_14; exact absurd c_14 (by decide)); (rcases hr_3 with ⟨i, h1, h2, h3, h4⟩ | ⟨h1, h2⟩; (first | exact Or.inl ⟨rfl, fun z => c_6 (by rw [et_1]; exact z), Or.inr ⟨i, h1, h3⟩⟩ | exact absurd (h2.symm.trans c_23) (nI_nm1 (by have := ok.2.1; omega))); (first | exact absurd h1 c_23 | exact Or.inr ⟨rfl, fun h => h.2.elim q2 (fun ⟨i, hi, hm⟩ => h2 i hi hm)⟩)))), ht⟩) (fun _ h => by cases h) dX4_isSeen_31
  · refine lv_aload_n hx hb dX4_isSeen_9 rfl (lv_at hl 0 rfl) ?_
    refine lv_iload_n hx hb dX4_isSeen_10 rfl (lv_at hl 1 rfl) ?_
    refine r_callp (As := [.int k]) (rest := []) C w hml hl.1 (q_isSame l D cI cZ cN cO A mm d n _ k ok hk) kM_X4_149 kI_X4_isSame kS_X4_isSame kD_X4_isSame (show yX4_isSame.cls = RX4 ∧ yX4_isSame.cls ≠ "java/lang/invoke/MethodHandle" ∧ yX4_isSame.cls ≠ "java/lang/invoke/VarHandle" ∧ (parseMethodDescriptor yX4_isSame.desc).map (fun d => d.parameters.length) = some 1 from by decide +kernel) rfl rfl ⟨Nat.le_of_ble_eq_true rfl, Nat.le_of_ble_eq_true rfl⟩ rfl (lv_room (Nat.le_of_ble_eq_true rfl)) dX4_isSeen_11 ⟨Nat.zero_le _, Nat.zero_le _⟩ (fun r_2 hr_2 => ?_)
    refine lv_if_ne (tgt := 26) hx hb dX4_isSeen_14 (by decide) (fun c_14 => ?_) (fun c_14 => ?_)
    · refine lv_iconst (v := 1) hx hb dX4_isSeen_26 (by decide) ?_
      refine lv_goto (tgt := 31) hx hb dX4_isSeen_27 (by decide) ?_
      exact W.zret (v := 1) (ty := .boolean) hx hb hr rfl (fun t ht hW => ⟨_, rfl, (by first | exact Or.inr ⟨rfl, fun h => h.1 (by rw [← et_1]; assumption)⟩ | (rcases hr_2 with ⟨q1, q2⟩ | ⟨q1, q2⟩; (exact Or.inl ⟨rfl, fun z => c_6 (by rw [et_1]; exact z), Or.inl q2⟩); (exact absurd q1 c_14)) | (rcases hr_2 with ⟨q1, q2⟩ | ⟨q1, q2⟩; (rw [q1] at c_14; exact absurd c_14 (by decide)); (rcases hr_3 with ⟨i, h1, h2, h3, h4⟩ | ⟨h1, h2⟩; (first | exact Or.inl ⟨rfl, fun z => c_6 (by rw [et_1]; exact z), Or.inr ⟨i, h1, h3⟩⟩ | exact absurd (h2.symm.trans c_23) (nI_nm1 (by have := ok.2.1; omega))); (first | exact absurd h1 c_23 | exact Or.inr ⟨rfl, fun h => h.2.elim q2 (fun ⟨i, hi, hm⟩ => h2 i hi hm)⟩)))), ht⟩) (fun _ h => by cases h) dX4_isSeen_31
    · refine lv_aload_n hx hb dX4_isSeen_17 rfl (lv_at hl 0 rfl) ?_
      refine lv_iload_n hx hb dX4_isSeen_18 rfl (lv_at hl 1 rfl) ?_
      refine r_callp (As := [.int k]) (rest := []) C w hml hl.1 (q_movedTwice l D cI cZ cN cO A mm d n _ k ok hk) kM_X4_152 kI_X4_movedTwice kS_X4_movedTwice kD_X4_movedTwice (show yX4_movedTwice.cls = RX4 ∧ yX4_movedTwice.cls ≠ "java/lang/invoke/MethodHandle" ∧ yX4_movedTwice.cls ≠ "java/lang/invoke/VarHandle" ∧ (parseMethodDescriptor yX4_movedTwice.desc).map (fun d => d.parameters.length) = some 1 from by decide +kernel) rfl rfl ⟨Nat.le_of_ble_eq_true rfl, Nat.le_of_ble_eq_true rfl⟩ rfl (lv_room (Nat.le_of_ble_eq_true rfl)) dX4_isSeen_19 ⟨Nat.zero_le _, Nat.zero_le _⟩ (fun r_3 hr_3 => ?_)
      refine lv_iconst (v := (-1)) hx hb dX4_isSeen_22 (by decide) ?_
      refine lv_icmp_eq (tgt := 30) hx hb dX4_isSeen_23 (by decide) (fun c_23 => ?_) (fun c_23 => ?_)
      · refine lv_iconst (v := 0) hx hb dX4_isSeen_30 (by decide) ?_
        exact W.zret (v := 0) (ty := .boolean) hx hb hr rfl (fun t ht hW => ⟨_, rfl, (by first | exact Or.inr ⟨rfl, fun h => h.1 (by rw [← et_1]; assumption)⟩ | (rcases hr_2 with ⟨q1, q2⟩ | ⟨q1, q2⟩; (exact Or.inl ⟨rfl, fun z => c_6 (by rw [et_1]; exact z), Or.inl q2⟩); (exact absurd q1 c_14)) | (rcases hr_2 with ⟨q1, q2⟩ | ⟨q1, q2⟩; (rw [q1] at c_14; exact absurd c_14 (by decide)); (rcases hr_3 with ⟨i, h1, h2, h3, h4⟩ | ⟨h1, h2⟩; (first | exact Or.inl ⟨rfl, fun z => c_6 (by rw [et_1]; exact z), Or.inr ⟨i, h1, h3⟩⟩ | exact absurd (h2.symm.trans c_23) (nI_nm1 (by have := ok.2.1; omega))); (first | exact absurd h1 c_23 | exact Or.inr ⟨rfl, fun h => h.2.elim q2 (fun ⟨i, hi, hm⟩ => h2 i hi hm)⟩)))), ht⟩) (fun _ h => by cases h) dX4_isSeen_31
      · refine lv_iconst (v := 1) hx hb dX4_isSeen_26 (by decide) ?_
        refine lv_goto (tgt := 31) hx hb dX4_isSeen_27 (by decide) ?_
        exact W.zret (v := 1) (ty := .boolean) hx hb hr rfl (fun t ht hW => ⟨_, rfl, (by first | exact Or.inr ⟨rfl, fun h => h.1 (by rw [← et_1]; assumption)⟩ | (rcases hr_2 with ⟨q1, q2⟩ | ⟨q1, q2⟩; (exact Or.inl ⟨rfl, fun z => c_6 (by rw [et_1]; exact z), Or.inl q2⟩); (exact absurd q1 c_14)) | (rcases hr_2 with ⟨q1, q2⟩ | ⟨q1, q2⟩; (rw [q1] at c_14; exact absurd c_14 (by decide)); (rcases hr_3 with ⟨i, h1, h2, h3, h4⟩ | ⟨h1, h2⟩; (first | exact Or.inl ⟨rfl, fun z => c_6 (by rw [et_1]; exact z), Or.inr ⟨i, h1, h3⟩⟩ | exact absurd (h2.symm.trans c_23) (nI_nm1 (by have := ok.2.1; omega))); (first | exact absurd h1 c_23 | exact Or.inr ⟨rfl, fun h => h.2.elim q2 (fun ⟨i, hi, hm⟩ => h2 i hi hm)⟩)))), ht⟩) (fun _ h => by cases h) dX4_isSeen_31
set_option maxHeartbeats 4000000 in
set_option maxRecDepth 100000 in
theorem q_ends (l : Launch) (D : va_G) (cI cZ cN cO : ClassId) (A : Nat → Prop) (mm : Nat) (d : Nat → Nat) (n : Nat) (σ : RS) (k : Int32) (ok : rOK n σ) (hk : vp_in k n) : Met l yX4_ends (.code yX4_ends cX4_ends 2 none :: gw) ({ frames := 0, cells := 0, slots := 0, locals := 0 }) (va_Pc (.ref mm :: [.int k]) (rH D cI cZ cN cO A mm d σ)) (va_Qv (fun _ : Unit => True) (fun _ t => rH D cI cZ cN cO A mm d (rEnds k σ) t ∧ rOK n (rEnds k σ)) A) 0 0 A := by
  refine Met.ofW (cc := cX4_ends) (maxL := 2) (ret := none) (by decide) rfl ?_
  intro p e s m args below meth c s₁ B hml hv
  obtain ⟨rfl, hP, hK, hD⟩ := hv
  have hx := B.exec
  have hb := B.bytes
  have hr := B.returns
  have hts := atoms_spec (ws := (.code yX4_ends cX4_ends 2 none :: gw)) B.pre
  have hg : ∀ w ∈ gw, w.before _ s = true := fun w h => hts w (List.mem_cons_of_mem _ h)
  have hown : s.vm.findClass RX4 = some m.cls := findClass_of_methodNamed B.named
  have hlocks := B.notSynchronized
  have C : Cx p c cX4_ends s m _ RX4 D (gTy cI cZ cN cO) := ⟨hx, hb, hown, hg, hK⟩
  have w : rWd D cI cZ A s.heap mm d σ s.heap [] := ⟨hP, hD, va_S.rf⟩
  have hl := lv_entry ([.ref mm, .int k]) (n := 2) (Nat.le_of_ble_eq_true rfl)
  rw [lg_entry_eq]
  generalize (lg_sl ([.ref mm, .int k]) ++ List.replicate (2 - (lg_sl ([.ref mm, .int k])).length) Slot.unset).toArray = ls at hl ⊢
  have hl : lv_has ls 2 [(0, .ref mm), (1, .int k)] := hl
  refine lv_aload_n hx hb dX4_ends_0 rfl (lv_at hl 0 rfl) ?_
  refine r_get_31 C w dX4_ends_1 ?_
  refine lv_aload_n hx hb dX4_ends_4 rfl (lv_at hl 0 rfl) ?_
  refine r_get_16 C w dX4_ends_5 ?_
  refine lv_iload_n hx hb dX4_ends_8 rfl (lv_at hl 1 rfl) ?_
  refine r_ld_16 C w (ok.n31 hk) dX4_ends_9 ?_
  refine lv_topi (fun t_1 et_1 => ?_)
  refine lv_aload_n hx hb dX4_ends_10 rfl (lv_at hl 0 rfl) ?_
  refine r_get_12 C w dX4_ends_11 ?_
  refine lv_topi (fun t_2 et_2 => ?_)
  refine r_st_31 C w (show vp_in t_1 512 from by rw [et_1]; exact ok.at 16 rfl _) dX4_ends_14 (fun H locs w => ?_)
  have ok : rOK n _ := rOK.st ok (k := 31) (i := t_1.toNatClampNeg) (v := t_2) (fun b hb => by cases hb)
  refine lv_aload_n hx hb dX4_ends_15 rfl (lv_at hl 0 rfl) ?_
  refine r_get_14 C w dX4_ends_16 ?_
  refine lv_iload_n hx hb dX4_ends_19 rfl (lv_at hl 1 rfl) ?_
  refine lv_iconst (v := 0) hx hb dX4_ends_20 (by decide) ?_
  refine r_st_14 C w (ok.n31 hk) dX4_ends_21 (fun H locs w => ?_)
  have ok : rOK n _ := rOK.st ok (k := 14) (i := k.toNatClampNeg) (v := 0) (fun b hb => by cases hb)
  refine lv_aload_n hx hb dX4_ends_22 rfl (lv_at hl 0 rfl) ?_
  refine r_get_17 C w dX4_ends_23 ?_
  refine lv_iload_n hx hb dX4_ends_26 rfl (lv_at hl 1 rfl) ?_
  refine lv_iconst (v := 0) hx hb dX4_ends_27 (by decide) ?_
  refine r_st_17 C w (ok.n31 hk) dX4_ends_28 (fun H locs w => ?_)
  have ok : rOK n _ := rOK.st ok (k := 17) (i := k.toNatClampNeg) (v := 0) (fun b hb => by cases hb)
  refine lv_aload_n hx hb dX4_ends_29 rfl (lv_at hl 0 rfl) ?_
  refine r_get_16 C w dX4_ends_30 ?_
  refine lv_iload_n hx hb dX4_ends_33 rfl (lv_at hl 1 rfl) ?_
  refine lv_iconst (v := 0) hx hb dX4_ends_34 (by decide) ?_
  refine r_st_16 C w (ok.n31 hk) dX4_ends_35 (fun H locs w => ?_)
  have ok : rOK n _ := rOK.st ok (k := 16) (i := k.toNatClampNeg) (v := 0) (fun b hb => by cases hb; exact (by unfold vp_in; decide +kernel))
  subst et_2 et_1
  exact W.vret hx hb hr (fun t ht hW => ⟨⟨(), rfl, trivial, ⟨by rw [ht]; exact w.1, va_K.moved hW.alike hK, w.2.1⟩, ok⟩, w.2.2.F ht⟩) w.2.2.2.2 dX4_ends_36
/-- slot s counts for its receiver -/
def rCnt (x : Int32) (σ : RS) : Prop := σ.2 13 (σ.2 4 x.toNatClampNeg).toNatClampNeg = 0 ∧ σ.2 5 x.toNatClampNeg = σ.2 15 (σ.2 4 x.toNatClampNeg).toNatClampNeg ∧ ((σ.2 2 x.toNatClampNeg = 1 ∧ σ.2 14 (σ.2 4 x.toNatClampNeg).toNatClampNeg = 1) ∨ (¬ σ.2 2 x.toNatClampNeg = 1 ∧ (σ.2 14 (σ.2 4 x.toNatClampNeg).toNatClampNeg = 2 ∨ σ.2 14 (σ.2 4 x.toNatClampNeg).toNatClampNeg = 3)))
set_option maxHeartbeats 4000000 in
set_option maxRecDepth 100000 in
theorem q_counts (l : Launch) (D : va_G) (cI cZ cN cO : ClassId) (A : Nat → Prop) (mm : Nat) (d : Nat → Nat) (n : Nat) (σ : RS) (x : Int32) (ok : rOK n σ) (hx1 : vp_in x 2001) : Met l yX4_counts (.code yX4_counts cX4_counts 3 (some .boolean) :: gw) ({ frames := 0, cells := 0, slots := 0, locals := 0 }) (va_Pc (.ref mm :: [.int x]) (rH D cI cZ cN cO A mm d σ)) (vp_Si (fun r => (r = 1 ∧ rCnt x σ) ∨ (r = 0 ∧ ¬ rCnt x σ))) 0 0 (fun _ => False) := by
  refine Met.ofW (cc := cX4_counts) (maxL := 3) (ret := (some .boolean)) (by decide) rfl ?_
  intro p e s m args below meth c s₁ B hml hv
  obtain ⟨rfl, hP, hK, hD⟩ := hv
  have hx := B.exec
  have hb := B.bytes
  have hr := B.returns
  have hts := atoms_spec (ws := (.code yX4_counts cX4_counts 3 (some .boolean) :: gw)) B.pre
  have hg : ∀ w ∈ gw, w.before _ s = true := fun w h => hts w (List.mem_cons_of_mem _ h)
  have hown : s.vm.findClass RX4 = some m.cls := findClass_of_methodNamed B.named
  have hlocks := B.notSynchronized
  have C : Cx p c cX4_counts s m _ RX4 D (gTy cI cZ cN cO) := ⟨hx, hb, hown, hg, hK⟩
  have w : rWd D cI cZ A s.heap mm d σ s.heap [] := ⟨hP, hD, va_S.rf⟩
  have hl := lv_entry ([.ref mm, .int x]) (n := 3) (Nat.le_of_ble_eq_true rfl)
  rw [lg_entry_eq]
  generalize (lg_sl ([.ref mm, .int x]) ++ List.replicate (3 - (lg_sl ([.ref mm, .int x])).length) Slot.unset).toArray = ls at hl ⊢
  have hl : lv_has ls 3 [(0, .ref mm), (1, .int x)] := hl
  refine lv_aload_n hx hb dX4_counts_0 rfl (lv_at hl 0 rfl) ?_
  refine r_get_4 C w dX4_counts_1 ?_
  refine lv_iload_n hx hb dX4_counts_4 rfl (lv_at hl 1 rfl) ?_
  refine r_ld_4 C w hx1 dX4_counts_5 ?_
  refine lv_topi (fun t_1 et_1 => ?_)
  refine lv_istore_n (lv' := [(2, _), (0, _), (1, _)]) C.1 C.2.1 dX4_counts_6 rfl hl (by decide) rfl (fun ls hl => ?_)
  refine lv_aload_n hx hb dX4_counts_7 rfl (lv_at hl 1 rfl) ?_
  refine r_get_13 C w dX4_counts_8 ?_
  refine lv_iload_n hx hb dX4_counts_11 rfl (lv_at hl 0 rfl) ?_
  refine r_ld_13 C w (ok.n31 (show vp_in t_1 n from by rw [et_1]; exact ok.at 4 rfl _)) dX4_counts_12 ?_
  refine lv_topi (fun t_2 et_2 => ?_)
  refine lv_if_ne (tgt := 31) hx hb dX4_counts_13 (by decide) (fun c_13 => ?_) (fun c_13 => ?_)
  · refine lv_iconst (v := 0) hx hb dX4_counts_31 (by decide) ?_
    subst et_2 et_1
    exact W.zret (v := 0) (ty := .boolean) hx hb hr rfl (fun t ht hW => ⟨_, rfl, (by unfold rCnt; first | exact Or.inl ⟨rfl, by simp_all⟩ | exact Or.inr ⟨rfl, by simp_all⟩), ht⟩) (fun _ h => by cases h) dX4_counts_32
  · refine lv_aload_n hx hb dX4_counts_16 rfl (lv_at hl 1 rfl) ?_
    refine r_get_5 C w dX4_counts_17 ?_
    refine lv_iload_n hx hb dX4_counts_20 rfl (lv_at hl 2 rfl) ?_
    refine r_ld_5 C w hx1 dX4_counts_21 ?_
    refine lv_topi (fun t_3 et_3 => ?_)
    refine lv_aload_n hx hb dX4_counts_22 rfl (lv_at hl 1 rfl) ?_
    refine r_get_15 C w dX4_counts_23 ?_
    refine lv_iload_n hx hb dX4_counts_26 rfl (lv_at hl 0 rfl) ?_
    refine r_ld_15 C w (ok.n31 (show vp_in t_1 n from by rw [et_1]; exact ok.at 4 rfl _)) dX4_counts_27 ?_
    refine lv_topi (fun t_4 et_4 => ?_)
    refine lv_icmp_eq (tgt := 33) hx hb dX4_counts_28 (by decide) (fun c_28 => ?_) (fun c_28 => ?_)
    · refine lv_aload_n hx hb dX4_counts_33 rfl (lv_at hl 1 rfl) ?_
      refine r_get_2 C w dX4_counts_34 ?_
      refine lv_iload_n hx hb dX4_counts_37 rfl (lv_at hl 2 rfl) ?_
      refine r_ld_2 C w hx1 dX4_counts_38 ?_
      refine lv_topi (fun t_5 et_5 => ?_)
      refine lv_iconst (v := 1) hx hb dX4_counts_39 (by decide) ?_
      refine lv_icmp_ne (tgt := 61) hx hb dX4_counts_40 (by decide) (fun c_40 => ?_) (fun c_40 => ?_)
      · refine lv_aload_n hx hb dX4_counts_61 rfl (lv_at hl 1 rfl) ?_
        refine r_get_14 C w dX4_counts_62 ?_
        refine lv_iload_n hx hb dX4_counts_65 rfl (lv_at hl 0 rfl) ?_
        refine r_ld_14 C w (ok.n31 (show vp_in t_1 n from by rw [et_1]; exact ok.at 4 rfl _)) dX4_counts_66 ?_
        refine lv_topi (fun t_6 et_6 => ?_)
        refine lv_iconst (v := 2) hx hb dX4_counts_67 (by decide) ?_
        refine lv_icmp_eq (tgt := 81) hx hb dX4_counts_68 (by decide) (fun c_68 => ?_) (fun c_68 => ?_)
        · refine lv_iconst (v := 1) hx hb dX4_counts_81 (by decide) ?_
          refine lv_goto (tgt := 86) hx hb dX4_counts_82 (by decide) ?_
          subst et_6 et_5 et_4 et_3 et_2 et_1
          exact W.zret (v := 1) (ty := .boolean) hx hb hr rfl (fun t ht hW => ⟨_, rfl, (by unfold rCnt; first | exact Or.inl ⟨rfl, by simp_all⟩ | exact Or.inr ⟨rfl, by simp_all⟩), ht⟩) (fun _ h => by cases h) dX4_counts_86
        · refine lv_aload_n hx hb dX4_counts_71 rfl (lv_at hl 1 rfl) ?_
          refine r_get_14 C w dX4_counts_72 ?_
          refine lv_iload_n hx hb dX4_counts_75 rfl (lv_at hl 0 rfl) ?_
          refine r_ld_14 C w (ok.n31 (show vp_in t_1 n from by rw [et_1]; exact ok.at 4 rfl _)) dX4_counts_76 ?_
          refine lv_topi (fun t_7 et_7 => ?_)
          refine lv_iconst (v := 3) hx hb dX4_counts_77 (by decide) ?_
          refine lv_icmp_ne (tgt := 85) hx hb dX4_counts_78 (by decide) (fun c_78 => ?_) (fun c_78 => ?_)
          · refine lv_iconst (v := 0) hx hb dX4_counts_85 (by decide) ?_
            subst et_7 et_6 et_5 et_4 et_3 et_2 et_1
            exact W.zret (v := 0) (ty := .boolean) hx hb hr rfl (fun t ht hW => ⟨_, rfl, (by unfold rCnt; first | exact Or.inl ⟨rfl, by simp_all⟩ | exact Or.inr ⟨rfl, by simp_all⟩), ht⟩) (fun _ h => by cases h) dX4_counts_86
          · refine lv_iconst (v := 1) hx hb dX4_counts_81 (by decide) ?_
            refine lv_goto (tgt := 86) hx hb dX4_counts_82 (by decide) ?_
            subst et_7 et_6 et_5 et_4 et_3 et_2 et_1
            exact W.zret (v := 1) (ty := .boolean) hx hb hr rfl (fun t ht hW => ⟨_, rfl, (by unfold rCnt; first | exact Or.inl ⟨rfl, by simp_all⟩ | exact Or.inr ⟨rfl, by simp_all⟩), ht⟩) (fun _ h => by cases h) dX4_counts_86
      · refine lv_aload_n hx hb dX4_counts_43 rfl (lv_at hl 1 rfl) ?_
        refine r_get_14 C w dX4_counts_44 ?_
        refine lv_iload_n hx hb dX4_counts_47 rfl (lv_at hl 0 rfl) ?_
        refine r_ld_14 C w (ok.n31 (show vp_in t_1 n from by rw [et_1]; exact ok.at 4 rfl _)) dX4_counts_48 ?_
        refine lv_topi (fun t_8 et_8 => ?_)
        refine lv_iconst (v := 1) hx hb dX4_counts_49 (by decide) ?_
        refine lv_icmp_ne (tgt := 57) hx hb dX4_counts_50 (by decide) (fun c_50 => ?_) (fun c_50 => ?_)
        · refine lv_iconst (v := 0) hx hb dX4_counts_57 (by decide) ?_
          refine lv_goto (tgt := 86) hx hb dX4_counts_58 (by decide) ?_
          subst et_8 et_5 et_4 et_3 et_2 et_1
          exact W.zret (v := 0) (ty := .boolean) hx hb hr rfl (fun t ht hW => ⟨_, rfl, (by unfold rCnt; first | exact Or.inl ⟨rfl, by simp_all⟩ | exact Or.inr ⟨rfl, by simp_all⟩), ht⟩) (fun _ h => by cases h) dX4_counts_86
        · refine lv_iconst (v := 1) hx hb dX4_counts_53 (by decide) ?_
          refine lv_goto (tgt := 86) hx hb dX4_counts_54 (by decide) ?_
          subst et_8 et_5 et_4 et_3 et_2 et_1
          exact W.zret (v := 1) (ty := .boolean) hx hb hr rfl (fun t ht hW => ⟨_, rfl, (by unfold rCnt; first | exact Or.inl ⟨rfl, by simp_all⟩ | exact Or.inr ⟨rfl, by simp_all⟩), ht⟩) (fun _ h => by cases h) dX4_counts_86
    · refine lv_iconst (v := 0) hx hb dX4_counts_31 (by decide) ?_
      subst et_4 et_3 et_2 et_1
      exact W.zret (v := 0) (ty := .boolean) hx hb hr rfl (fun t ht hW => ⟨_, rfl, (by unfold rCnt; first | exact Or.inl ⟨rfl, by simp_all⟩ | exact Or.inr ⟨rfl, by simp_all⟩), ht⟩) (fun _ h => by cases h) dX4_counts_32
end
section
/-- how many MESSAGES are wanted as slot x comes -/
def rWant (n : Nat) (x : Int32) (σ : RS) (r : Int32) : Prop :=
  (¬ σ.2 13 (σ.2 4 x.toNatClampNeg).toNatClampNeg = 0 ∧ r = 0) ∨
  (σ.2 13 (σ.2 4 x.toNatClampNeg).toNatClampNeg = 0 ∧ (σ.2 2 x.toNatClampNeg = 0 ∨ σ.2 2 x.toNatClampNeg = 2) ∧ r = 1) ∨
  (σ.2 13 (σ.2 4 x.toNatClampNeg).toNatClampNeg = 0 ∧ ¬ σ.2 2 x.toNatClampNeg = 0 ∧ ¬ σ.2 2 x.toNatClampNeg = 2 ∧ (¬ rCnt x σ ∨ (2 : Int32) * (σ.2 17 (σ.2 4 x.toNatClampNeg).toNatClampNeg + 1) ≤ nI n ∨ σ.2 14 (σ.2 4 x.toNatClampNeg).toNatClampNeg = 3) ∧ r = 0) ∨
  (σ.2 13 (σ.2 4 x.toNatClampNeg).toNatClampNeg = 0 ∧ ¬ σ.2 2 x.toNatClampNeg = 0 ∧ ¬ σ.2 2 x.toNatClampNeg = 2 ∧ rCnt x σ ∧ ¬ (2 : Int32) * (σ.2 17 (σ.2 4 x.toNatClampNeg).toNatClampNeg + 1) ≤ nI n ∧ ¬ σ.2 14 (σ.2 4 x.toNatClampNeg).toNatClampNeg = 3 ∧
    (((σ.2 14 (σ.2 4 x.toNatClampNeg).toNatClampNeg = 2 ∧ rSeen n (σ.2 4 x.toNatClampNeg) σ ∧ ¬ σ.2 27 (σ.2 16 (σ.2 4 x.toNatClampNeg).toNatClampNeg).toNatClampNeg < 10) ∧ r = 0) ∨
     (¬ (σ.2 14 (σ.2 4 x.toNatClampNeg).toNatClampNeg = 2 ∧ rSeen n (σ.2 4 x.toNatClampNeg) σ ∧ ¬ σ.2 27 (σ.2 16 (σ.2 4 x.toNatClampNeg).toNatClampNeg).toNatClampNeg < 10) ∧ r = nI n)))
set_option maxHeartbeats 4000000 in
set_option maxRecDepth 100000 in
theorem q_wanted (l : Launch) (D : va_G) (cI cZ cN cO : ClassId) (A : Nat → Prop) (mm : Nat) (d : Nat → Nat) (n : Nat) (σ : RS) (x : Int32) (ok : rOK n σ) (hx1 : vp_in x 2001) : Met l yX4_wanted (.code yX4_wanted cX4_wanted 3 (some .int) :: gw) ({ frames := 2, cells := 0, slots := 0, locals := 44 }) (va_Pc (.ref mm :: [.int x]) (rH D cI cZ cN cO A mm d σ)) (vp_Si (fun r => rWant n x σ r)) 0 0 (fun _ => False) := by
  refine Met.ofW (cc := cX4_wanted) (maxL := 3) (ret := (some .int)) (by decide) rfl ?_
  intro p e s m args below meth c s₁ B hml hv
  obtain ⟨rfl, hP, hK, hD⟩ := hv
  have hx := B.exec
  have hb := B.bytes
  have hr := B.returns
  have hts := atoms_spec (ws := (.code yX4_wanted cX4_wanted 3 (some .int) :: gw)) B.pre
  have hg : ∀ w ∈ gw, w.before _ s = true := fun w h => hts w (List.mem_cons_of_mem _ h)
  have hown : s.vm.findClass RX4 = some m.cls := findClass_of_methodNamed B.named
  have hlocks := B.notSynchronized
  have C : Cx p c cX4_wanted s m _ RX4 D (gTy cI cZ cN cO) := ⟨hx, hb, hown, hg, hK⟩
  have w : rWd D cI cZ A s.heap mm d σ s.heap [] := ⟨hP, hD, va_S.rf⟩
  have hl := lv_entry ([.ref mm, .int x]) (n := 3) (Nat.le_of_ble_eq_true rfl)
  rw [lg_entry_eq]
  generalize (lg_sl ([.ref mm, .int x]) ++ List.replicate (3 - (lg_sl ([.ref mm, .int x])).length) Slot.unset).toArray = ls at hl ⊢
  have hl : lv_has ls 3 [(0, .ref mm), (1, .int x)] := hl
  refine lv_aload_n hx hb dX4_wanted_0 rfl (lv_at hl 0 rfl) ?_
  refine r_get_4 C w dX4_wanted_1 ?_
  refine lv_iload_n hx hb dX4_wanted_4 rfl (lv_at hl 1 rfl) ?_
  refine r_ld_4 C w hx1 dX4_wanted_5 ?_
  refine lv_topi (fun t_1 et_1 => ?_)
  refine lv_istore_n (lv' := [(2, _), (0, _), (1, _)]) C.1 C.2.1 dX4_wanted_6 rfl hl (by decide) rfl (fun ls hl => ?_)
  refine lv_aload_n hx hb dX4_wanted_7 rfl (lv_at hl 1 rfl) ?_
  refine r_get_13 C w dX4_wanted_8 ?_
  refine lv_iload_n hx hb dX4_wanted_11 rfl (lv_at hl 0 rfl) ?_
  refine r_ld_13 C w (ok.n31 (show vp_in t_1 n from by rw [et_1]; exact ok.at 4 rfl _)) dX4_wanted_12 ?_
  refine lv_topi (fun t_2 et_2 => ?_)
  refine lv_if_eq (tgt := 18) hx hb dX4_wanted_13 (by decide) (fun c_13 => ?_) (fun c_13 => ?_)
  · refine lv_aload_n hx hb dX4_wanted_18 rfl (lv_at hl 1 rfl) ?_
    refine r_get_2 C w dX4_wanted_19 ?_
    refine lv_iload_n hx hb dX4_wanted_22 rfl (lv_at hl 2 rfl) ?_
    refine r_ld_2 C w hx1 dX4_wanted_23 ?_
    refine lv_topi (fun t_3 et_3 => ?_)
    refine lv_if_eq (tgt := 37) hx hb dX4_wanted_24 (by decide) (fun c_24 => ?_) (fun c_24 => ?_)
    · refine lv_iconst (v := 1) hx hb dX4_wanted_37 (by decide) ?_
      subst et_3 et_2 et_1
      exact W.iret hx hb hr (fun t ht hW => ⟨_, rfl, (by unfold rWant; simp_all), ht⟩) (fun _ h => by cases h) dX4_wanted_38
    · refine lv_aload_n hx hb dX4_wanted_27 rfl (lv_at hl 1 rfl) ?_
      refine r_get_2 C w dX4_wanted_28 ?_
      refine lv_iload_n hx hb dX4_wanted_31 rfl (lv_at hl 2 rfl) ?_
      refine r_ld_2 C w hx1 dX4_wanted_32 ?_
      refine lv_topi (fun t_4 et_4 => ?_)
      refine lv_iconst (v := 2) hx hb dX4_wanted_33 (by decide) ?_
      refine lv_icmp_ne (tgt := 39) hx hb dX4_wanted_34 (by decide) (fun c_34 => ?_) (fun c_34 => ?_)
      · refine lv_aload_n hx hb dX4_wanted_39 rfl (lv_at hl 1 rfl) ?_
        refine lv_iload_n hx hb dX4_wanted_40 rfl (lv_at hl 2 rfl) ?_
        refine r_callp (As := [.int x]) (rest := []) C w hml hl.1 (q_counts l D cI cZ cN cO A mm d n _ x ok hx1) kM_X4_171 kI_X4_counts kS_X4_counts kD_X4_counts (show yX4_counts.cls = RX4 ∧ yX4_counts.cls ≠ "java/lang/invoke/MethodHandle" ∧ yX4_counts.cls ≠ "java/lang/invoke/VarHandle" ∧ (parseMethodDescriptor yX4_counts.desc).map (fun d => d.parameters.length) = some 1 from by decide +kernel) rfl rfl ⟨Nat.le_of_ble_eq_true rfl, Nat.le_of_ble_eq_true rfl⟩ rfl (lv_room (Nat.le_of_ble_eq_true rfl)) dX4_wanted_41 ⟨Nat.zero_le _, Nat.zero_le _⟩ (fun r_5 hr_5 => ?_)
        rcases hr_5 with ⟨er_5, hr_5⟩ | ⟨er_5, hr_5⟩
        · subst er_5
          refine lv_if_eq (tgt := 74) hx hb dX4_wanted_44 (by decide) (fun z => absurd z (by decide)) (fun _ => ?_)
          refine lv_iconst (v := 2) hx hb dX4_wanted_47 (by decide) ?_
          refine lv_aload_n hx hb dX4_wanted_48 rfl (lv_at hl 1 rfl) ?_
          refine r_get_17 C w dX4_wanted_49 ?_
          refine lv_iload_n hx hb dX4_wanted_52 rfl (lv_at hl 0 rfl) ?_
          refine r_ld_17 C w (ok.n31 (show vp_in t_1 n from by rw [et_1]; exact ok.at 4 rfl _)) dX4_wanted_53 ?_
          refine lv_topi (fun t_6 et_6 => ?_)
          refine lv_iconst (v := 1) hx hb dX4_wanted_54 (by decide) ?_
          refine lv_iadd hx hb dX4_wanted_55 ?_
          refine lv_topi (fun t_7 et_7 => ?_)
          refine lv_imul hx hb dX4_wanted_56 ?_
          refine lv_topi (fun t_8 et_8 => ?_)
          refine lv_aload_n hx hb dX4_wanted_57 rfl (lv_at hl 1 rfl) ?_
          refine r_get_0 C w dX4_wanted_58 ?_
          rw [ok.nn]
          refine lv_icmp_le (tgt := 74) hx hb dX4_wanted_61 (by decide) (fun c_61 => ?_) (fun c_61 => ?_)
          · refine lv_iconst (v := 0) hx hb dX4_wanted_74 (by decide) ?_
            subst et_8 et_7 et_6 et_4 et_3 et_2 et_1
            exact W.iret hx hb hr (fun t ht hW => ⟨_, rfl, (by unfold rWant; simp_all), ht⟩) (fun _ h => by cases h) dX4_wanted_75
          · refine lv_aload_n hx hb dX4_wanted_64 rfl (lv_at hl 1 rfl) ?_
            refine r_get_14 C w dX4_wanted_65 ?_
            refine lv_iload_n hx hb dX4_wanted_68 rfl (lv_at hl 0 rfl) ?_
            refine r_ld_14 C w (ok.n31 (show vp_in t_1 n from by rw [et_1]; exact ok.at 4 rfl _)) dX4_wanted_69 ?_
            refine lv_topi (fun t_9 et_9 => ?_)
            refine lv_iconst (v := 3) hx hb dX4_wanted_70 (by decide) ?_
            refine lv_icmp_ne (tgt := 76) hx hb dX4_wanted_71 (by decide) (fun c_71 => ?_) (fun c_71 => ?_)
            · refine lv_aload_n hx hb dX4_wanted_76 rfl (lv_at hl 1 rfl) ?_
              refine r_get_14 C w dX4_wanted_77 ?_
              refine lv_iload_n hx hb dX4_wanted_80 rfl (lv_at hl 0 rfl) ?_
              refine r_ld_14 C w (ok.n31 (show vp_in t_1 n from by rw [et_1]; exact ok.at 4 rfl _)) dX4_wanted_81 ?_
              refine lv_topi (fun t_10 et_10 => ?_)
              refine lv_iconst (v := 2) hx hb dX4_wanted_82 (by decide) ?_
              refine lv_icmp_ne (tgt := 111) hx hb dX4_wanted_83 (by decide) (fun c_83 => ?_) (fun c_83 => ?_)
              · refine lv_aload_n hx hb dX4_wanted_111 rfl (lv_at hl 1 rfl) ?_
                refine r_get_0 C w dX4_wanted_112 ?_
                rw [ok.nn]
                subst et_10 et_9 et_8 et_7 et_6 et_4 et_3 et_2 et_1
                exact W.iret hx hb hr (fun t ht hW => ⟨_, rfl, (by unfold rWant; simp_all), ht⟩) (fun _ h => by cases h) dX4_wanted_115
              · refine lv_aload_n hx hb dX4_wanted_86 rfl (lv_at hl 1 rfl) ?_
                refine lv_iload_n hx hb dX4_wanted_87 rfl (lv_at hl 0 rfl) ?_
                refine r_callp (As := [.int t_1]) (rest := []) C w hml hl.1 (q_isSeen l D cI cZ cN cO A mm d n _ t_1 ok (show vp_in t_1 n from by rw [et_1]; exact ok.at 4 rfl _)) kM_X4_165 kI_X4_isSeen kS_X4_isSeen kD_X4_isSeen (show yX4_isSeen.cls = RX4 ∧ yX4_isSeen.cls ≠ "java/lang/invoke/MethodHandle" ∧ yX4_isSeen.cls ≠ "java/lang/invoke/VarHandle" ∧ (parseMethodDescriptor yX4_isSeen.desc).map (fun d => d.parameters.length) = some 1 from by decide +kernel) rfl rfl ⟨Nat.le_of_ble_eq_true rfl, Nat.le_of_ble_eq_true rfl⟩ rfl (lv_room (Nat.le_of_ble_eq_true rfl)) dX4_wanted_88 ⟨Nat.zero_le _, Nat.zero_le _⟩ (fun r_11 hr_11 => ?_)
                rcases hr_11 with ⟨er_11, hr_11⟩ | ⟨er_11, hr_11⟩
                · subst er_11
                  refine lv_if_eq (tgt := 111) hx hb dX4_wanted_91 (by decide) (fun z => absurd z (by decide)) (fun _ => ?_)
                  refine lv_aload_n hx hb dX4_wanted_94 rfl (lv_at hl 1 rfl) ?_
                  refine lv_aload_n hx hb dX4_wanted_95 rfl (lv_at hl 1 rfl) ?_
                  refine r_get_16 C w dX4_wanted_96 ?_
                  refine lv_iload_n hx hb dX4_wanted_99 rfl (lv_at hl 0 rfl) ?_
                  refine r_ld_16 C w (ok.n31 (show vp_in t_1 n from by rw [et_1]; exact ok.at 4 rfl _)) dX4_wanted_100 ?_
                  refine lv_topi (fun t_12 et_12 => ?_)
                  refine r_callp (As := [.int t_12]) (rest := []) C w hml hl.1 (q_isQuery l D cI cZ cN cO A mm d n _ t_12 ok (show vp_in t_12 512 from by rw [et_12]; exact ok.at 16 rfl _)) kM_X4_159 kI_X4_isQuery kS_X4_isQuery kD_X4_isQuery (show yX4_isQuery.cls = RX4 ∧ yX4_isQuery.cls ≠ "java/lang/invoke/MethodHandle" ∧ yX4_isQuery.cls ≠ "java/lang/invoke/VarHandle" ∧ (parseMethodDescriptor yX4_isQuery.desc).map (fun d => d.parameters.length) = some 1 from by decide +kernel) rfl rfl ⟨Nat.le_of_ble_eq_true rfl, Nat.le_of_ble_eq_true rfl⟩ rfl (lv_room (Nat.le_of_ble_eq_true rfl)) dX4_wanted_101 ⟨Nat.zero_le _, Nat.zero_le _⟩ (fun r_13 hr_13 => ?_)
                  refine lv_if_eq (tgt := 111) hx hb dX4_wanted_104 (by decide) (fun c_104 => ?_) (fun c_104 => ?_)
                  · refine lv_aload_n hx hb dX4_wanted_111 rfl (lv_at hl 1 rfl) ?_
                    refine r_get_0 C w dX4_wanted_112 ?_
                    rw [ok.nn]
                    subst et_12 et_10 et_9 et_8 et_7 et_6 et_4 et_3 et_2 et_1
                    exact W.iret hx hb hr (fun t ht hW => ⟨_, rfl, (by unfold rWant; simp_all), ht⟩) (fun _ h => by cases h) dX4_wanted_115
                  · refine lv_iconst (v := 0) hx hb dX4_wanted_107 (by decide) ?_
                    refine lv_goto (tgt := 115) hx hb dX4_wanted_108 (by decide) ?_
                    subst et_12 et_10 et_9 et_8 et_7 et_6 et_4 et_3 et_2 et_1
                    exact W.iret hx hb hr (fun t ht hW => ⟨_, rfl, (by unfold rWant; simp_all), ht⟩) (fun _ h => by cases h) dX4_wanted_115
                · subst er_11
                  refine lv_if_eq (tgt := 111) hx hb dX4_wanted_91 (by decide) (fun _ => ?_) (fun z => absurd (by decide) z)
                  refine lv_aload_n hx hb dX4_wanted_111 rfl (lv_at hl 1 rfl) ?_
                  refine r_get_0 C w dX4_wanted_112 ?_
                  rw [ok.nn]
                  subst et_10 et_9 et_8 et_7 et_6 et_4 et_3 et_2 et_1
                  exact W.iret hx hb hr (fun t ht hW => ⟨_, rfl, (by unfold rWant; simp_all), ht⟩) (fun _ h => by cases h) dX4_wanted_115
            · refine lv_iconst (v := 0) hx hb dX4_wanted_74 (by decide) ?_
              subst et_9 et_8 et_7 et_6 et_4 et_3 et_2 et_1
              exact W.iret hx hb hr (fun t ht hW => ⟨_, rfl, (by unfold rWant; simp_all), ht⟩) (fun _ h => by cases h) dX4_wanted_75
        · subst er_5
          refine lv_if_eq (tgt := 74) hx hb dX4_wanted_44 (by decide) (fun _ => ?_) (fun z => absurd (by decide) z)
          refine lv_iconst (v := 0) hx hb dX4_wanted_74 (by decide) ?_
          subst et_4 et_3 et_2 et_1
          exact W.iret hx hb hr (fun t ht hW => ⟨_, rfl, (by unfold rWant; simp_all), ht⟩) (fun _ h => by cases h) dX4_wanted_75
      · refine lv_iconst (v := 1) hx hb dX4_wanted_37 (by decide) ?_
        subst et_4 et_3 et_2 et_1
        exact W.iret hx hb hr (fun t ht hW => ⟨_, rfl, (by unfold rWant; simp_all), ht⟩) (fun _ h => by cases h) dX4_wanted_38
  · refine lv_iconst (v := 0) hx hb dX4_wanted_16 (by decide) ?_
    subst et_2 et_1
    exact W.iret hx hb hr (fun t ht hW => ⟨_, rfl, (by unfold rWant; simp_all), ht⟩) (fun _ h => by cases h) dX4_wanted_17
end
section
def mx (a b : Int32) : Int32 := if a < b then b else a
theorem mx_in {a b : Int32} {N : Nat} (ha : vp_in a N) (hb : vp_in b N) : vp_in (mx a b) N := by
  unfold mx; split
  · exact hb
  · exact ha
def rMax (q : Nat) (k x : Int32) (i : Nat) (σ : RS) : RS := rA σ q ((31 : Int32) * k + nI i).toNatClampNeg (mx (σ.2 q ((31 : Int32) * k + nI i).toNatClampNeg) (σ.2 6 ((31 : Int32) * x + nI i).toNatClampNeg))
theorem rRm.max {σ : RS} {m : Nat} (h : rRm σ m) {q : Nat} (hq : q ≠ 7) (k x : Int32) : ∀ i, rRm (itr (rMax q k x) i σ) m := by
  intro i
  induction i with
  | zero => exact h
  | succ i ih => exact ih.st hq
def rRepC (n : Nat) (x : Int32) (σ : RS) : RS := itr (rVec 18 (σ.2 4 x.toNatClampNeg) (fr (σ.2 7))) n (rSend σ (fr (σ.2 7)) 1 (σ.2 4 x.toNatClampNeg) (σ.2 3 x.toNatClampNeg) (σ.2 5 x.toNatClampNeg))
def rRepS (n : Nat) (x : Int32) (σ : RS) : RS := rSend (itr (rMax 18 (σ.2 4 x.toNatClampNeg) x) n σ) (fr ((itr (rMax 18 (σ.2 4 x.toNatClampNeg) x) n σ).2 7)) 3 (σ.2 4 x.toNatClampNeg) (σ.2 3 x.toNatClampNeg) (σ.2 5 x.toNatClampNeg)
set_option maxHeartbeats 4000000 in
set_option maxRecDepth 100000 in
theorem ql_repS {p : Program} {l : Launch} {e : Env} {R : Room} {s : State} {m : MethodId} {args : Array Value} {below : List Frame} {meth : Method} {c : Code} {cells slots : Nat} {Q : State → Prop} {D : va_G} {cI cZ cN cO : ClassId} {A : Nat → Prop} {H0 : Heap} {mm : Nat} {d : Nat → Nat} {n : Nat} (C : Cx p c cX4_replies s m args RX4 D (gTy cI cZ cN cO)) (hml : c.maxLocals = 8) {σ : RS} {k x to r0 : Int32} (hn : n ≤ 31) (hk : vp_in k n) (hx1 : vp_in x 2001) (hRf : 1 ≤ R.frames) (hRl : 24 ≤ R.locals) (hRc : cells + 0 ≤ R.cells) (hRs : slots + 0 ≤ R.slots) (kk : ∀ (H : Heap) (locs : List Loc), rWd D cI cZ A H0 mm d (itr (rMax 18 k x) n σ) H locs → rOK n (itr (rMax 18 k x) n σ) → ∀ ls : Array Slot, lv_has ls 8 [(6, .int (nI n)), (5, .int r0), (4, .int to), (3, .int 2), (2, .int k), (0, .ref mm), (1, .int x)] → W p l e R s m args below meth c H locs cells slots Q (F0 m 91 ls [])) : ∀ (fu i : Nat), i + fu = n → ∀ (H : Heap) (locs : List Loc), rWd D cI cZ A H0 mm d (itr (rMax 18 k x) i σ) H locs → rOK n (itr (rMax 18 k x) i σ) → ∀ ls : Array Slot, lv_has ls 8 [(6, .int (nI i)), (5, .int r0), (4, .int to), (3, .int 2), (2, .int k), (0, .ref mm), (1, .int x)] → W p l e R s m args below meth c H locs cells slots Q (F0 m 33 ls []) := by
  intro fu
  induction fu with
  | zero =>
    intro i hik
    intro H locs w ok ls hl
    have hx := C.1
    have hb := C.2.1
    have hi : n = i := by omega
    subst hi
    refine lv_iload hx hb dX4_replies_33 (lv_at hl 0 rfl) ?_
    refine lv_aload_n hx hb dX4_replies_35 rfl (lv_at hl 5 rfl) ?_
    refine r_get_0 C w dX4_replies_36 ?_
    rw [ok.nn]
    refine lv_icmp_ge (tgt := 91) hx hb dX4_replies_39 (by decide) (fun c_39 => ?_) (fun c_39 => absurd (Int32.le_refl _) c_39)
    exact kk _ _ w ok ls (lv_sub hl [0, 1, 2, 3, 4, 5, 6] rfl)
  | succ fu ih =>
    intro i hik
    intro H locs w ok ls hl
    have hx := C.1
    have hb := C.2.1
    have hi : i < n := by omega
    refine lv_iload hx hb dX4_replies_33 (lv_at hl 0 rfl) ?_
    refine lv_aload_n hx hb dX4_replies_35 rfl (lv_at hl 5 rfl) ?_
    refine r_get_0 C w dX4_replies_36 ?_
    rw [ok.nn]
    refine lv_icmp_ge (tgt := 91) hx hb dX4_replies_39 (by decide) (fun c_39 => absurd c_39 (nI_ge hi (by omega))) (fun c_39 => ?_)
    refine lv_iload_n hx hb dX4_replies_42 rfl (lv_at hl 3 rfl) ?_
    refine lv_iconst (v := 2) hx hb dX4_replies_43 (by decide) ?_
    refine lv_icmp_ne (tgt := 91) hx hb dX4_replies_44 (by decide) (fun c_44 => absurd rfl c_44) (fun c_44 => ?_)
    refine lv_bipush (v := 31) hx hb dX4_replies_47 (by decide) ?_
    refine lv_iload_n hx hb dX4_replies_49 rfl (lv_at hl 4 rfl) ?_
    refine lv_imul hx hb dX4_replies_50 ?_
    refine lv_topi (fun t_1 et_1 => ?_)
    refine lv_iload hx hb dX4_replies_51 (lv_at hl 0 rfl) ?_
    refine lv_iadd hx hb dX4_replies_53 ?_
    refine lv_topi (fun t_2 et_2 => ?_)
    refine lv_istore (lv' := [(7, _), (6, _), (5, _), (4, _), (3, _), (2, _), (0, _), (1, _)]) C.1 C.2.1 dX4_replies_54 hl (by decide) rfl (fun ls hl => ?_)
    refine lv_aload_n hx hb dX4_replies_56 rfl (lv_at hl 6 rfl) ?_
    refine r_get_18 C w dX4_replies_57 ?_
    refine lv_iload hx hb dX4_replies_60 (lv_at hl 0 rfl) ?_
    refine lv_aload_n hx hb dX4_replies_62 rfl (lv_at hl 6 rfl) ?_
    refine r_get_18 C w dX4_replies_63 ?_
    refine lv_iload hx hb dX4_replies_66 (lv_at hl 0 rfl) ?_
    refine r_ld_18 C w (by rw [et_2, et_1]; exact gIx (c := 31) (N := 31) rfl (by decide) (ok.n31 hk) (vp_in_nI (by omega) (by omega))) dX4_replies_68 ?_
    refine lv_topi (fun t_3 et_3 => ?_)
    refine lv_aload_n hx hb dX4_replies_69 rfl (lv_at hl 6 rfl) ?_
    refine r_get_6 C w dX4_replies_70 ?_
    refine lv_bipush (v := 31) hx hb dX4_replies_73 (by decide) ?_
    refine lv_iload_n hx hb dX4_replies_75 rfl (lv_at hl 7 rfl) ?_
    refine lv_imul hx hb dX4_replies_76 ?_
    refine lv_topi (fun t_4 et_4 => ?_)
    refine lv_iload hx hb dX4_replies_77 (lv_at hl 1 rfl) ?_
    refine lv_iadd hx hb dX4_replies_79 ?_
    refine lv_topi (fun t_5 et_5 => ?_)
    refine r_ld_6 C w (by rw [et_5, et_4]; exact gIx (c := 31) (N := 2001) rfl (by decide) hx1 (vp_in_nI (by omega) (by omega))) dX4_replies_80 ?_
    refine lv_topi (fun t_6 et_6 => ?_)
    refine va_mmax C.1 C.2.1 (hml.trans hl.1.symm) C.2.2.1 (C.2.2.2.1 _ kM_X4_174) (C.2.2.2.1 _ kT_Lib_Math_max_name) (C.2.2.2.1 _ kN_java_lang_Math) (C.2.2.2.1 _ kD_Lib_Math_max_name) hRf (by show 2 + 13 ≤ R.locals; omega) hRc hRs dX4_replies_81 ?_
    refine lv_topi (fun t_7 et_7 => ?_)
    have et_7 : t_7 = mx t_3 t_6 := et_7
    refine r_st_18 C w (by rw [et_2, et_1]; exact gIx (c := 31) (N := 31) rfl (by decide) (ok.n31 hk) (vp_in_nI (by omega) (by omega))) dX4_replies_84 (fun H locs w => ?_)
    have ok : rOK n _ := rOK.st ok (k := 18) (i := t_2.toNatClampNeg) (v := t_7) (fun b hb => by cases hb; rw [et_7]; exact mx_in (by rw [et_3]; exact ok.at 18 rfl _) (by rw [et_6]; exact ok.at 6 rfl _))
    obtain ⟨x_8, ex_8⟩ : ∃ y : Int32, y = (nI i) + 1 := ⟨_, rfl⟩
    refine lv_iinc (v := x_8) (lv' := [(6, _), (7, _), (5, _), (4, _), (3, _), (2, _), (0, _), (1, _)]) C.1 C.2.1 dX4_replies_85 hl (k := 1) rfl (by rw [ex_8]; rfl) (by decide) rfl (fun ls hl => ?_)
    refine lv_goto (tgt := 33) hx hb dX4_replies_88 (by decide) ?_
    subst et_7 et_6 et_5 et_4 et_3 et_2 et_1
    have hx2 : x_8 = nI (i + 1) := by rw [ex_8]; exact nI_1 i
    rw [hx2] at hl
    exact ih (i + 1) (by omega) _ _ w ok ls (lv_sub hl [0, 2, 3, 4, 5, 6, 7] rfl)
set_option maxHeartbeats 4000000 in
set_option maxRecDepth 100000 in
theorem ql_repC {p : Program} {l : Launch} {e : Env} {R : Room} {s : State} {m : MethodId} {args : Array Value} {below : List Frame} {meth : Method} {c : Code} {cells slots : Nat} {Q : State → Prop} {D : va_G} {cI cZ cN cO : ClassId} {A : Nat → Prop} {H0 : Heap} {mm : Nat} {d : Nat → Nat} {n : Nat} (C : Cx p c cX4_replies s m args RX4 D (gTy cI cZ cN cO)) (hml : c.maxLocals = 8) {σ : RS} {k x to r0 : Int32} (j : Nat) (hn : n ≤ 31) (hk : vp_in k n) (hj : j < 2001) (kk : ∀ (H : Heap) (locs : List Loc), rWd D cI cZ A H0 mm d (itr (rVec 18 k j) n σ) H locs → rOK n (itr (rVec 18 k j) n σ) → ∀ ls : Array Slot, lv_has ls 8 [(7, .int (nI n)), (6, .int (nI j)), (5, .int r0), (4, .int to), (3, .int 0), (2, .int k), (0, .ref mm), (1, .int x)] → W p l e R s m args below meth c H locs cells slots Q (F0 m 159 ls [])) : ∀ (fu i : Nat), i + fu = n → ∀ (H : Heap) (locs : List Loc), rWd D cI cZ A H0 mm d (itr (rVec 18 k j) i σ) H locs → rOK n (itr (rVec 18 k j) i σ) → ∀ ls : Array Slot, lv_has ls 8 [(7, .int (nI i)), (6, .int (nI j)), (5, .int r0), (4, .int to), (3, .int 0), (2, .int k), (0, .ref mm), (1, .int x)] → W p l e R s m args below meth c H locs cells slots Q (F0 m 115 ls []) := by
  intro fu
  induction fu with
  | zero =>
    intro i hik
    intro H locs w ok ls hl
    have hx := C.1
    have hb := C.2.1
    have hi : n = i := by omega
    subst hi
    refine lv_iload hx hb dX4_replies_115 (lv_at hl 0 rfl) ?_
    refine lv_aload_n hx hb dX4_replies_117 rfl (lv_at hl 6 rfl) ?_
    refine r_get_0 C w dX4_replies_118 ?_
    rw [ok.nn]
    refine lv_icmp_ge (tgt := 159) hx hb dX4_replies_121 (by decide) (fun c_121 => ?_) (fun c_121 => absurd (Int32.le_refl _) c_121)
    exact kk _ _ w ok ls (lv_sub hl [0, 1, 2, 3, 4, 5, 6, 7] rfl)
  | succ fu ih =>
    intro i hik
    intro H locs w ok ls hl
    have hx := C.1
    have hb := C.2.1
    have hi : i < n := by omega
    refine lv_iload hx hb dX4_replies_115 (lv_at hl 0 rfl) ?_
    refine lv_aload_n hx hb dX4_replies_117 rfl (lv_at hl 6 rfl) ?_
    refine r_get_0 C w dX4_replies_118 ?_
    rw [ok.nn]
    refine lv_icmp_ge (tgt := 159) hx hb dX4_replies_121 (by decide) (fun c_121 => absurd c_121 (nI_ge hi (by omega))) (fun c_121 => ?_)
    refine lv_iload_n hx hb dX4_replies_124 rfl (lv_at hl 4 rfl) ?_
    refine lv_if_ne (tgt := 159) hx hb dX4_replies_125 (by decide) (fun c_125 => absurd rfl c_125) (fun c_125 => ?_)
    refine lv_aload_n hx hb dX4_replies_128 rfl (lv_at hl 6 rfl) ?_
    refine r_get_6 C w dX4_replies_129 ?_
    refine lv_bipush (v := 31) hx hb dX4_replies_132 (by decide) ?_
    refine lv_iload hx hb dX4_replies_134 (lv_at hl 1 rfl) ?_
    refine lv_imul hx hb dX4_replies_136 ?_
    refine lv_topi (fun t_1 et_1 => ?_)
    refine lv_iload hx hb dX4_replies_137 (lv_at hl 0 rfl) ?_
    refine lv_iadd hx hb dX4_replies_139 ?_
    refine lv_topi (fun t_2 et_2 => ?_)
    refine lv_aload_n hx hb dX4_replies_140 rfl (lv_at hl 6 rfl) ?_
    refine r_get_18 C w dX4_replies_141 ?_
    refine lv_bipush (v := 31) hx hb dX4_replies_144 (by decide) ?_
    refine lv_iload_n hx hb dX4_replies_146 rfl (lv_at hl 5 rfl) ?_
    refine lv_imul hx hb dX4_replies_147 ?_
    refine lv_topi (fun t_3 et_3 => ?_)
    refine lv_iload hx hb dX4_replies_148 (lv_at hl 0 rfl) ?_
    refine lv_iadd hx hb dX4_replies_150 ?_
    refine lv_topi (fun t_4 et_4 => ?_)
    refine r_ld_18 C w (by rw [et_4, et_3]; exact gIx (c := 31) (N := 31) rfl (by decide) (ok.n31 hk) (vp_in_nI (by omega) (by omega))) dX4_replies_151 ?_
    refine lv_topi (fun t_5 et_5 => ?_)
    refine r_st_6 C w (by rw [et_2, et_1]; exact gIx (c := 31) (N := 2001) rfl (by decide) (vp_in_nI hj (by omega)) (vp_in_nI (by omega) (by omega))) dX4_replies_152 (fun H locs w => ?_)
    have ok : rOK n _ := rOK.st ok (k := 6) (i := t_2.toNatClampNeg) (v := t_5) (fun b hb => by cases hb; rw [et_5]; exact ok.at 18 rfl _)
    obtain ⟨x_6, ex_6⟩ : ∃ y : Int32, y = (nI i) + 1 := ⟨_, rfl⟩
    refine lv_iinc (v := x_6) (lv' := [(7, _), (6, _), (5, _), (4, _), (3, _), (2, _), (0, _), (1, _)]) C.1 C.2.1 dX4_replies_153 hl (k := 0) rfl (by rw [ex_6]; rfl) (by decide) rfl (fun ls hl => ?_)
    refine lv_goto (tgt := 115) hx hb dX4_replies_156 (by decide) ?_
    subst et_5 et_4 et_3 et_2 et_1
    have hx2 : x_6 = nI (i + 1) := by rw [ex_6]; exact nI_1 i
    rw [hx2] at hl
    exact ih (i + 1) (by omega) _ _ w ok ls (lv_sub hl [0, 1, 2, 3, 4, 5, 6, 7] rfl)
set_option maxHeartbeats 4000000 in
set_option maxRecDepth 100000 in
theorem q_repC (l : Launch) (D : va_G) (cI cZ cN cO : ClassId) (A : Nat → Prop) (mm : Nat) (d : Nat → Nat) (n : Nat) (σ : RS) (x : Int32) (ok : rOK n σ) (hx1 : vp_in x 2001) (hkd : σ.2 2 x.toNatClampNeg = 0) (hrm : rRm σ (0 + 1)) : Met l yX4_replies (.code yX4_replies cX4_replies 8 none :: gw) ({ frames := 1, cells := 0, slots := 0, locals := 25 }) (va_Pc (.ref mm :: [.int x]) (rH D cI cZ cN cO A mm d σ)) (va_Qv (fun _ : Unit => True) (fun _ t => rH D cI cZ cN cO A mm d (rRepC n x σ) t ∧ rOK n (rRepC n x σ)) A) 0 0 A := by
  refine Met.ofW (cc := cX4_replies) (maxL := 8) (ret := none) (by decide) rfl ?_
  intro p e s m args below meth c s₁ B hml hv
  obtain ⟨rfl, hP, hK, hD⟩ := hv
  have hx := B.exec
  have hb := B.bytes
  have hr := B.returns
  have hts := atoms_spec (ws := (.code yX4_replies cX4_replies 8 none :: gw)) B.pre
  have hg : ∀ w ∈ gw, w.before _ s = true := fun w h => hts w (List.mem_cons_of_mem _ h)
  have hown : s.vm.findClass RX4 = some m.cls := findClass_of_methodNamed B.named
  have hlocks := B.notSynchronized
  have C : Cx p c cX4_replies s m _ RX4 D (gTy cI cZ cN cO) := ⟨hx, hb, hown, hg, hK⟩
  have w : rWd D cI cZ A s.heap mm d σ s.heap [] := ⟨hP, hD, va_S.rf⟩
  have hl := lv_entry ([.ref mm, .int x]) (n := 8) (Nat.le_of_ble_eq_true rfl)
  rw [lg_entry_eq]
  generalize (lg_sl ([.ref mm, .int x]) ++ List.replicate (8 - (lg_sl ([.ref mm, .int x])).length) Slot.unset).toArray = ls at hl ⊢
  have hl : lv_has ls 8 [(0, .ref mm), (1, .int x)] := hl
  refine lv_aload_n hx hb dX4_replies_0 rfl (lv_at hl 0 rfl) ?_
  refine r_get_4 C w dX4_replies_1 ?_
  refine lv_iload_n hx hb dX4_replies_4 rfl (lv_at hl 1 rfl) ?_
  refine r_ld_4 C w hx1 dX4_replies_5 ?_
  refine lv_topi (fun t_1 et_1 => ?_)
  have hk1 : vp_in t_1 n := by rw [et_1]; exact ok.at 4 rfl _
  refine lv_istore_n (lv' := [(2, _), (0, _), (1, _)]) C.1 C.2.1 dX4_replies_6 rfl hl (by decide) rfl (fun ls hl => ?_)
  refine lv_aload_n hx hb dX4_replies_7 rfl (lv_at hl 1 rfl) ?_
  refine r_get_2 C w dX4_replies_8 ?_
  refine lv_iload_n hx hb dX4_replies_11 rfl (lv_at hl 2 rfl) ?_
  refine r_ld_2 C w hx1 dX4_replies_12 ?_
  rw [hkd]
  refine lv_istore_n (lv' := [(3, _), (2, _), (0, _), (1, _)]) C.1 C.2.1 dX4_replies_13 rfl hl (by decide) rfl (fun ls hl => ?_)
  refine lv_aload_n hx hb dX4_replies_14 rfl (lv_at hl 2 rfl) ?_
  refine r_get_3 C w dX4_replies_15 ?_
  refine lv_iload_n hx hb dX4_replies_18 rfl (lv_at hl 3 rfl) ?_
  refine r_ld_3 C w hx1 dX4_replies_19 ?_
  refine lv_topi (fun t_2 et_2 => ?_)
  have hk3 : vp_in t_2 n := by rw [et_2]; exact ok.at 3 rfl _
  refine lv_istore (lv' := [(4, _), (3, _), (2, _), (0, _), (1, _)]) C.1 C.2.1 dX4_replies_20 hl (by decide) rfl (fun ls hl => ?_)
  refine lv_aload_n hx hb dX4_replies_22 rfl (lv_at hl 3 rfl) ?_
  refine r_get_5 C w dX4_replies_23 ?_
  refine lv_iload_n hx hb dX4_replies_26 rfl (lv_at hl 4 rfl) ?_
  refine r_ld_5 C w hx1 dX4_replies_27 ?_
  refine lv_topi (fun t_3 et_3 => ?_)
  refine lv_istore (lv' := [(5, _), (4, _), (3, _), (2, _), (0, _), (1, _)]) C.1 C.2.1 dX4_replies_28 hl (by decide) rfl (fun ls hl => ?_)
  refine lv_iconst (v := 0) hx hb dX4_replies_30 (by decide) ?_
  refine lv_istore (lv' := [(6, _), (5, _), (4, _), (3, _), (2, _), (0, _), (1, _)]) C.1 C.2.1 dX4_replies_31 hl (by decide) rfl (fun ls hl => ?_)
  refine lv_iload hx hb dX4_replies_33 (lv_at hl 0 rfl) ?_
  refine lv_aload_n hx hb dX4_replies_35 rfl (lv_at hl 5 rfl) ?_
  refine r_get_0 C w dX4_replies_36 ?_
  rw [ok.nn]
  refine lv_icmp_ge (tgt := 91) hx hb dX4_replies_39 (by decide) (fun c_39 => absurd c_39 (by rw [← nI_0]; exact nI_ge (by have := ok.1; omega) (by have := ok.2.1; omega))) (fun c_39 => ?_)
  refine lv_iload_n hx hb dX4_replies_42 rfl (lv_at hl 3 rfl) ?_
  refine lv_iconst (v := 2) hx hb dX4_replies_43 (by decide) ?_
  refine lv_icmp_ne (tgt := 91) hx hb dX4_replies_44 (by decide) (fun c_44 => ?_) (fun c_44 => absurd c_44 (by decide))
  refine lv_aload_n hx hb dX4_replies_91 rfl (lv_at hl 5 rfl) ?_
  refine lv_iload_n hx hb dX4_replies_92 rfl (lv_at hl 3 rfl) ?_
  refine lv_iconst (v := 2) hx hb dX4_replies_93 (by decide) ?_
  refine lv_icmp_ne (tgt := 101) hx hb dX4_replies_94 (by decide) (fun c_94 => ?_) (fun c_94 => absurd c_94 (by decide))
  refine lv_iconst (v := 1) hx hb dX4_replies_101 (by decide) ?_
  refine lv_iload_n hx hb dX4_replies_102 rfl (lv_at hl 4 rfl) ?_
  refine lv_iload hx hb dX4_replies_103 (lv_at hl 2 rfl) ?_
  refine lv_iload hx hb dX4_replies_105 (lv_at hl 1 rfl) ?_
  refine r_calli (As := [.int 1, .int t_1, .int t_2, .int t_3]) (rest := []) C w hml hl.1 (q_send l D cI cZ cN cO A mm d n _ (fr _) 1 t_1 t_2 t_3 ok hrm.free.1 hrm.free.2.1 hrm.free.2.2 hk1 hk3 hrm.inc) kM_X4_121 kI_X4_send kS_X4_send kD_X4_send (show yX4_send.cls = RX4 ∧ yX4_send.cls ≠ "java/lang/invoke/MethodHandle" ∧ yX4_send.cls ≠ "java/lang/invoke/VarHandle" ∧ (parseMethodDescriptor yX4_send.desc).map (fun d => d.parameters.length) = some 4 from by decide +kernel) rfl rfl ⟨Nat.le_of_ble_eq_true rfl, Nat.le_of_ble_eq_true rfl⟩ rfl (lv_room (Nat.le_of_ble_eq_true rfl)) dX4_replies_107 ⟨Nat.zero_le _, Nat.zero_le _⟩ (fun r_4 H locs hr_4 w ok => ?_)
  rw [hr_4]
  refine lv_istore (lv' := [(6, _), (5, _), (4, _), (3, _), (2, _), (0, _), (1, _)]) C.1 C.2.1 dX4_replies_110 hl (by decide) rfl (fun ls hl => ?_)
  refine lv_iconst (v := 0) hx hb dX4_replies_112 (by decide) ?_
  refine lv_istore (lv' := [(7, _), (6, _), (5, _), (4, _), (3, _), (2, _), (0, _), (1, _)]) C.1 C.2.1 dX4_replies_113 hl (by decide) rfl (fun ls hl => ?_)
  rw [← nI_0] at hl
  refine ql_repC C hml _ ok.2.1 hk1 hrm.free.1 ?_ n 0 (by omega) _ _ w ok ls (lv_sub hl [0, 1, 2, 3, 4, 5, 6, 7] rfl)
  intro H locs w ok ls hl
  subst et_3 et_2 et_1
  exact W.vret hx hb hr (fun t ht hW => ⟨⟨(), rfl, trivial, ⟨by rw [ht]; exact w.1, va_K.moved hW.alike hK, w.2.1⟩, ok⟩, w.2.2.F ht⟩) w.2.2.2.2 dX4_replies_159
set_option maxHeartbeats 4000000 in
set_option maxRecDepth 100000 in
theorem q_repS (l : Launch) (D : va_G) (cI cZ cN cO : ClassId) (A : Nat → Prop) (mm : Nat) (d : Nat → Nat) (n : Nat) (σ : RS) (x : Int32) (ok : rOK n σ) (hx1 : vp_in x 2001) (hkd : σ.2 2 x.toNatClampNeg = 2) (hrm : rRm σ (0 + 1)) : Met l yX4_replies (.code yX4_replies cX4_replies 8 none :: gw) ({ frames := 1, cells := 0, slots := 0, locals := 25 }) (va_Pc (.ref mm :: [.int x]) (rH D cI cZ cN cO A mm d σ)) (va_Qv (fun _ : Unit => True) (fun _ t => rH D cI cZ cN cO A mm d (rRepS n x σ) t ∧ rOK n (rRepS n x σ)) A) 0 0 A := by
  refine Met.ofW (cc := cX4_replies) (maxL := 8) (ret := none) (by decide) rfl ?_
  intro p e s m args below meth c s₁ B hml hv
  obtain ⟨rfl, hP, hK, hD⟩ := hv
  have hx := B.exec
  have hb := B.bytes
  have hr := B.returns
  have hts := atoms_spec (ws := (.code yX4_replies cX4_replies 8 none :: gw)) B.pre
  have hg : ∀ w ∈ gw, w.before _ s = true := fun w h => hts w (List.mem_cons_of_mem _ h)
  have hown : s.vm.findClass RX4 = some m.cls := findClass_of_methodNamed B.named
  have hlocks := B.notSynchronized
  have C : Cx p c cX4_replies s m _ RX4 D (gTy cI cZ cN cO) := ⟨hx, hb, hown, hg, hK⟩
  have w : rWd D cI cZ A s.heap mm d σ s.heap [] := ⟨hP, hD, va_S.rf⟩
  have hl := lv_entry ([.ref mm, .int x]) (n := 8) (Nat.le_of_ble_eq_true rfl)
  rw [lg_entry_eq]
  generalize (lg_sl ([.ref mm, .int x]) ++ List.replicate (8 - (lg_sl ([.ref mm, .int x])).length) Slot.unset).toArray = ls at hl ⊢
  have hl : lv_has ls 8 [(0, .ref mm), (1, .int x)] := hl
  refine lv_aload_n hx hb dX4_replies_0 rfl (lv_at hl 0 rfl) ?_
  refine r_get_4 C w dX4_replies_1 ?_
  refine lv_iload_n hx hb dX4_replies_4 rfl (lv_at hl 1 rfl) ?_
  refine r_ld_4 C w hx1 dX4_replies_5 ?_
  refine lv_topi (fun t_1 et_1 => ?_)
  have hk1 : vp_in t_1 n := by rw [et_1]; exact ok.at 4 rfl _
  refine lv_istore_n (lv' := [(2, _), (0, _), (1, _)]) C.1 C.2.1 dX4_replies_6 rfl hl (by decide) rfl (fun ls hl => ?_)
  refine lv_aload_n hx hb dX4_replies_7 rfl (lv_at hl 1 rfl) ?_
  refine r_get_2 C w dX4_replies_8 ?_
  refine lv_iload_n hx hb dX4_replies_11 rfl (lv_at hl 2 rfl) ?_
  refine r_ld_2 C w hx1 dX4_replies_12 ?_
  rw [hkd]
  refine lv_istore_n (lv' := [(3, _), (2, _), (0, _), (1, _)]) C.1 C.2.1 dX4_replies_13 rfl hl (by decide) rfl (fun ls hl => ?_)
  refine lv_aload_n hx hb dX4_replies_14 rfl (lv_at hl 2 rfl) ?_
  refine r_get_3 C w dX4_replies_15 ?_
  refine lv_iload_n hx hb dX4_replies_18 rfl (lv_at hl 3 rfl) ?_
  refine r_ld_3 C w hx1 dX4_replies_19 ?_
  refine lv_topi (fun t_2 et_2 => ?_)
  have hk3 : vp_in t_2 n := by rw [et_2]; exact ok.at 3 rfl _
  refine lv_istore (lv' := [(4, _), (3, _), (2, _), (0, _), (1, _)]) C.1 C.2.1 dX4_replies_20 hl (by decide) rfl (fun ls hl => ?_)
  refine lv_aload_n hx hb dX4_replies_22 rfl (lv_at hl 3 rfl) ?_
  refine r_get_5 C w dX4_replies_23 ?_
  refine lv_iload_n hx hb dX4_replies_26 rfl (lv_at hl 4 rfl) ?_
  refine r_ld_5 C w hx1 dX4_replies_27 ?_
  refine lv_topi (fun t_3 et_3 => ?_)
  refine lv_istore (lv' := [(5, _), (4, _), (3, _), (2, _), (0, _), (1, _)]) C.1 C.2.1 dX4_replies_28 hl (by decide) rfl (fun ls hl => ?_)
  refine lv_iconst (v := 0) hx hb dX4_replies_30 (by decide) ?_
  refine lv_istore (lv' := [(6, _), (5, _), (4, _), (3, _), (2, _), (0, _), (1, _)]) C.1 C.2.1 dX4_replies_31 hl (by decide) rfl (fun ls hl => ?_)
  rw [← nI_0] at hl
  refine ql_repS C hml ok.2.1 hk1 hx1 (Nat.le_of_ble_eq_true rfl) (Nat.le_of_ble_eq_true rfl) (Nat.zero_le _) (Nat.zero_le _) ?_ n 0 (by omega) _ _ w ok ls (lv_sub hl [0, 1, 2, 3, 4, 5, 6] rfl)
  intro H locs w ok ls hl
  refine lv_aload_n hx hb dX4_replies_91 rfl (lv_at hl 5 rfl) ?_
  refine lv_iload_n hx hb dX4_replies_92 rfl (lv_at hl 3 rfl) ?_
  refine lv_iconst (v := 2) hx hb dX4_replies_93 (by decide) ?_
  refine lv_icmp_ne (tgt := 101) hx hb dX4_replies_94 (by decide) (fun c_94 => absurd rfl c_94) (fun c_94 => ?_)
  refine lv_iconst (v := 3) hx hb dX4_replies_97 (by decide) ?_
  refine lv_goto (tgt := 102) hx hb dX4_replies_98 (by decide) ?_
  refine lv_iload_n hx hb dX4_replies_102 rfl (lv_at hl 4 rfl) ?_
  refine lv_iload hx hb dX4_replies_103 (lv_at hl 2 rfl) ?_
  refine lv_iload hx hb dX4_replies_105 (lv_at hl 1 rfl) ?_
  have hrm : rRm _ (0 + 1) := hrm.max (q := 18) (by decide) t_1 x n
  refine r_calli (As := [.int 3, .int t_1, .int t_2, .int t_3]) (rest := []) C w hml hl.1 (q_send l D cI cZ cN cO A mm d n _ (fr _) 3 t_1 t_2 t_3 ok hrm.free.1 hrm.free.2.1 hrm.free.2.2 hk1 hk3 hrm.inc) kM_X4_121 kI_X4_send kS_X4_send kD_X4_send (show yX4_send.cls = RX4 ∧ yX4_send.cls ≠ "java/lang/invoke/MethodHandle" ∧ yX4_send.cls ≠ "java/lang/invoke/VarHandle" ∧ (parseMethodDescriptor yX4_send.desc).map (fun d => d.parameters.length) = some 4 from by decide +kernel) rfl rfl ⟨Nat.le_of_ble_eq_true rfl, Nat.le_of_ble_eq_true rfl⟩ rfl (lv_room (Nat.le_of_ble_eq_true rfl)) dX4_replies_107 ⟨Nat.zero_le _, Nat.zero_le _⟩ (fun r_4 H locs hr_4 w ok => ?_)
  rw [hr_4]
  refine lv_istore (lv' := [(6, _), (5, _), (4, _), (3, _), (2, _), (0, _), (1, _)]) C.1 C.2.1 dX4_replies_110 hl (by decide) rfl (fun ls hl => ?_)
  refine lv_iconst (v := 0) hx hb dX4_replies_112 (by decide) ?_
  refine lv_istore (lv' := [(7, _), (6, _), (5, _), (4, _), (3, _), (2, _), (0, _), (1, _)]) C.1 C.2.1 dX4_replies_113 hl (by decide) rfl (fun ls hl => ?_)
  refine lv_iload hx hb dX4_replies_115 (lv_at hl 0 rfl) ?_
  refine lv_aload_n hx hb dX4_replies_117 rfl (lv_at hl 6 rfl) ?_
  refine r_get_0 C w dX4_replies_118 ?_
  rw [ok.nn]
  refine lv_icmp_ge (tgt := 159) hx hb dX4_replies_121 (by decide) (fun c_121 => absurd c_121 (by rw [← nI_0]; exact nI_ge (by have := ok.1; omega) (by have := ok.2.1; omega))) (fun c_121 => ?_)
  refine lv_iload_n hx hb dX4_replies_124 rfl (lv_at hl 4 rfl) ?_
  refine lv_if_ne (tgt := 159) hx hb dX4_replies_125 (by decide) (fun c_125 => ?_) (fun c_125 => absurd c_125 (by decide))
  subst et_3 et_2 et_1
  exact W.vret hx hb hr (fun t ht hW => ⟨⟨(), rfl, trivial, ⟨by rw [ht]; exact w.1, va_K.moved hW.alike hK, w.2.1⟩, ok⟩, w.2.2.F ht⟩) w.2.2.2.2 dX4_replies_159
end
section
theorem itr_row {f : Nat → RS → RS} {r : Nat} (h : ∀ i σ, (f i σ).2 r = σ.2 r) : ∀ (n : Nat) (σ : RS), (itr f n σ).2 r = σ.2 r := by
  intro n σ
  induction n with
  | zero => rfl
  | succ n ih => exact (h n _).trans ih
theorem rRm.iter {f : Nat → RS → RS} {m : Nat} (h : ∀ i σ, rRm σ m → rRm (f i σ) m) : ∀ (n : Nat) {σ : RS}, rRm σ m → rRm (itr f n σ) m := by
  intro n σ h0
  induction n with
  | zero => exact h0
  | succ n ih => exact h n _ ih
def rVwS (o k : Int32) (i : Nat) (σ : RS) : RS := rA σ 35 ((31 : Int32) * o + nI i).toNatClampNeg (σ.2 22 ((31 : Int32) * k + nI i).toNatClampNeg)
def rVwB (o g : Int32) (i : Nat) (σ : RS) : RS := rA σ 35 ((31 : Int32) * o + nI i).toNatClampNeg (σ.2 35 ((31 : Int32) * g + nI i).toNatClampNeg)
/-- the lender's UPDATE: from the log of NODE i -/
def rFm (k : Int32) (i : Nat) (σ : RS) : Int32 := σ.2 20 ((512 : Int32) * nI i + σ.2 22 ((31 : Int32) * k + nI i).toNatClampNeg - 1).toNatClampNeg
def rTkS (n : Nat) (k : Int32) (σ : RS) : RS := rI (rA (rA (itr (rVwS (σ.2 16 k.toNatClampNeg) k) n σ) 36 (σ.2 16 k.toNatClampNeg).toNatClampNeg 1) 33 (σ.2 16 k.toNatClampNeg).toNatClampNeg (-1)) 38 ((itr (rVwS (σ.2 16 k.toNatClampNeg) k) n σ).1 38 + 0)
def rTkB (n : Nat) (k : Int32) (j : Nat) (σ : RS) : RS := rI (rA (rA (itr (rVwB (σ.2 16 k.toNatClampNeg) (rFm k j σ)) n σ) 36 (σ.2 16 k.toNatClampNeg).toNatClampNeg 1) 33 (σ.2 16 k.toNatClampNeg).toNatClampNeg (nI j)) 38 ((itr (rVwB (σ.2 16 k.toNatClampNeg) (rFm k j σ)) n σ).1 38 + 1)
def rOwn (k : Int32) (i : Nat) (σ : RS) : RS := rA σ 21 ((31 : Int32) * k + nI i).toNatClampNeg (if nI i = k then σ.2 19 k.toNatClampNeg else 0)
/-- the UPDATE o of NODE k is written into its log -/
def rLg (k o : Int32) (σ : RS) : RS := rA (rA (rA σ 20 ((512 : Int32) * k + σ.2 19 k.toNatClampNeg).toNatClampNeg o) 19 k.toNatClampNeg (σ.2 19 k.toNatClampNeg + 1)) 34 o.toNatClampNeg ((rA (rA σ 20 ((512 : Int32) * k + σ.2 19 k.toNatClampNeg).toNatClampNeg o) 19 k.toNatClampNeg (σ.2 19 k.toNatClampNeg + 1)).2 19 k.toNatClampNeg)
def rWr (n : Nat) (k o : Int32) (σ : RS) : RS := rToS n 21 k (rA (itr (rOwn k) n (rLg k o σ)) 14 k.toNatClampNeg 3)
theorem gLog {x y : Int32} (hx : vp_in x 31) (hy : vp_in y 512) (h1 : ¬ y < 1) : vp_in ((512 : Int32) * x + y - 1) 15872 := by
  obtain ⟨i, hi, rfl⟩ := vp_in_of hx (by decide)
  obtain ⟨j, hj, rfl⟩ := vp_in_of hy (by decide)
  have hj1 : j ≠ 0 := fun e => h1 (by rw [e]; decide +kernel)
  obtain ⟨j', rfl⟩ : ∃ j', j = j' + 1 := ⟨j - 1, by omega⟩
  rw [show (512 : Int32) = nI 512 from by decide +kernel, nI_mul, nI_add, show 512 * i + (j' + 1) = (512 * i + j') + 1 from by omega, nI_pred]
  exact vp_in_nI (by omega) (by decide)
theorem rMv_uniq {n : Nat} {k : Int32} {σ : RS} {r : Int32} {j : Nat} (hj : j < n) (hm : rMv k σ j) (hl : ∀ i, i < j → ¬ rMv k σ i) (h : (∃ i, i < n ∧ r = nI i ∧ rMv k σ i ∧ ∀ j, j < i → ¬ rMv k σ j) ∨ (r = -1 ∧ ∀ j, j < n → ¬ rMv k σ j)) : r = nI j := by
  rcases h with ⟨i, h1, h2, h3, h4⟩ | ⟨h1, h2⟩
  · rcases Nat.lt_trichotomy i j with q | q | q
    · exact absurd h3 (hl i q)
    · rw [h2, q]
    · exact absurd hm (h4 j q)
  · exact absurd hm (h2 j hj)
theorem rTkS_row {n : Nat} {k : Int32} {σ : RS} {r : Nat} (h1 : r ≠ 35) (h2 : r ≠ 36) (h3 : r ≠ 33) : (rTkS n k σ).2 r = σ.2 r := by
  show va_up (va_up (itr (rVwS (σ.2 16 k.toNatClampNeg) k) n σ).2 36 _) 33 _ r = _
  simp only [va_up, if_neg h2, if_neg h3]
  exact itr_row (fun i σ => by show va_up σ.2 35 _ r = _; simp only [va_up, if_neg h1]) n σ
theorem rTkB_row {n : Nat} {k : Int32} {j : Nat} {σ : RS} {r : Nat} (h1 : r ≠ 35) (h2 : r ≠ 36) (h3 : r ≠ 33) : (rTkB n k j σ).2 r = σ.2 r := by
  show va_up (va_up (itr (rVwB (σ.2 16 k.toNatClampNeg) (rFm k j σ)) n σ).2 36 _) 33 _ r = _
  simp only [va_up, if_neg h2, if_neg h3]
  exact itr_row (fun i σ => by show va_up σ.2 35 _ r = _; simp only [va_up, if_neg h1]) n σ
theorem rRm.tkS {n m : Nat} {k : Int32} {σ : RS} (h : rRm σ m) : rRm (rTkS n k σ) m := rRm.put (rRm.st (rRm.st (rRm.iter (fun i σ h => h.st (by decide)) n h) (by decide)) (by decide)) (by decide)
theorem rRm.tkB {n m : Nat} {k : Int32} {j : Nat} {σ : RS} (h : rRm σ m) : rRm (rTkB n k j σ) m := rRm.put (rRm.st (rRm.st (rRm.iter (fun i σ h => h.st (by decide)) n h) (by decide)) (by decide)) (by decide)
theorem rRm.lg {m : Nat} {k o : Int32} {σ : RS} (h : rRm σ m) : rRm (rLg k o σ) m := rRm.st (rRm.st (rRm.st h (by decide)) (by decide)) (by decide)
theorem rRm.own {n m : Nat} {k : Int32} {σ : RS} (h : rRm σ m) : rRm (rA (itr (rOwn k) n σ) 14 k.toNatClampNeg 3) m := rRm.st (rRm.iter (fun i σ h => h.st (by decide)) n h) (by decide)
set_option maxHeartbeats 4000000 in
set_option maxRecDepth 100000 in
theorem ql_viewS {p : Program} {l : Launch} {e : Env} {R : Room} {s : State} {m : MethodId} {args : Array Value} {below : List Frame} {meth : Method} {c : Code} {cells slots : Nat} {Q : State → Prop} {D : va_G} {cI cZ cN cO : ClassId} {A : Nat → Prop} {H0 : Heap} {mm : Nat} {d : Nat → Nat} {n : Nat} (C : Cx p c cX4_take s m args RX4 D (gTy cI cZ cN cO)) (hml : c.maxLocals = 6) {σ : RS} {k o g0 : Int32} (hn : n ≤ 31) (hk : vp_in k n) (hO : vp_in o 512) (kk : ∀ (H : Heap) (locs : List Loc), rWd D cI cZ A H0 mm d (itr (rVwS o k) n σ) H locs → rOK n (itr (rVwS o k) n σ) → ∀ ls : Array Slot, lv_has ls 6 [(5, .int (nI n)), (4, .int g0), (3, .int ((-1))), (2, .int o), (0, .ref mm), (1, .int k)] → W p l e R s m args below meth c H locs cells slots Q (F0 m 123 ls [])) : ∀ (fu i : Nat), i + fu = n → ∀ (H : Heap) (locs : List Loc), rWd D cI cZ A H0 mm d (itr (rVwS o k) i σ) H locs → rOK n (itr (rVwS o k) i σ) → ∀ ls : Array Slot, lv_has ls 6 [(5, .int (nI i)), (4, .int g0), (3, .int ((-1))), (2, .int o), (0, .ref mm), (1, .int k)] → W p l e R s m args below meth c H locs cells slots Q (F0 m 63 ls []) := by
  intro fu
  induction fu with
  | zero =>
    intro i hik
    intro H locs w ok ls hl
    have hx := C.1
    have hb := C.2.1
    have hi : n = i := by omega
    subst hi
    refine lv_iload hx hb dX4_take_63 (lv_at hl 0 rfl) ?_
    refine lv_aload_n hx hb dX4_take_65 rfl (lv_at hl 4 rfl) ?_
    refine r_get_0 C w dX4_take_66 ?_
    rw [ok.nn]
    refine lv_icmp_ge (tgt := 123) hx hb dX4_take_69 (by decide) (fun c_69 => ?_) (fun c_69 => absurd (Int32.le_refl _) c_69)
    exact kk _ _ w ok ls (lv_sub hl [0, 1, 2, 3, 4, 5] rfl)
  | succ fu ih =>
    intro i hik
    intro H locs w ok ls hl
    have hx := C.1
    have hb := C.2.1
    have hi : i < n := by omega
    refine lv_iload hx hb dX4_take_63 (lv_at hl 0 rfl) ?_
    refine lv_aload_n hx hb dX4_take_65 rfl (lv_at hl 4 rfl) ?_
    refine r_get_0 C w dX4_take_66 ?_
    rw [ok.nn]
    refine lv_icmp_ge (tgt := 123) hx hb dX4_take_69 (by decide) (fun c_69 => absurd c_69 (nI_ge hi (by omega))) (fun c_69 => ?_)
    refine lv_aload_n hx hb dX4_take_72 rfl (lv_at hl 4 rfl) ?_
    refine r_get_35 C w dX4_take_73 ?_
    refine lv_bipush (v := 31) hx hb dX4_take_76 (by decide) ?_
    refine lv_iload_n hx hb dX4_take_78 rfl (lv_at hl 3 rfl) ?_
    refine lv_imul hx hb dX4_take_79 ?_
    refine lv_topi (fun t_1 et_1 => ?_)
    refine lv_iload hx hb dX4_take_80 (lv_at hl 0 rfl) ?_
    refine lv_iadd hx hb dX4_take_82 ?_
    refine lv_topi (fun t_2 et_2 => ?_)
    refine lv_iload_n hx hb dX4_take_83 rfl (lv_at hl 2 rfl) ?_
    refine lv_iconst (v := (-1)) hx hb dX4_take_84 (by decide) ?_
    refine lv_icmp_ne (tgt := 103) hx hb dX4_take_85 (by decide) (fun c_85 => absurd rfl c_85) (fun c_85 => ?_)
    refine lv_aload_n hx hb dX4_take_88 rfl (lv_at hl 4 rfl) ?_
    refine r_get_22 C w dX4_take_89 ?_
    refine lv_bipush (v := 31) hx hb dX4_take_92 (by decide) ?_
    refine lv_iload_n hx hb dX4_take_94 rfl (lv_at hl 5 rfl) ?_
    refine lv_imul hx hb dX4_take_95 ?_
    refine lv_topi (fun t_3 et_3 => ?_)
    refine lv_iload hx hb dX4_take_96 (lv_at hl 0 rfl) ?_
    refine lv_iadd hx hb dX4_take_98 ?_
    refine lv_topi (fun t_4 et_4 => ?_)
    refine r_ld_22 C w (by rw [et_4, et_3]; exact gIx (c := 31) (N := 31) rfl (by decide) (ok.n31 hk) (vp_in_nI (by omega) (by omega))) dX4_take_99 ?_
    refine lv_topi (fun t_5 et_5 => ?_)
    refine lv_goto (tgt := 116) hx hb dX4_take_100 (by decide) ?_
    refine r_st_35 C w (by rw [et_2, et_1]; exact gIx (c := 31) (N := 512) rfl (by decide) hO (vp_in_nI (by omega) (by omega))) dX4_take_116 (fun H locs w => ?_)
    have ok : rOK n _ := rOK.st ok (k := 35) (i := t_2.toNatClampNeg) (v := t_5) (fun b hb => by cases hb; rw [et_5]; exact ok.at 22 rfl _)
    obtain ⟨x_6, ex_6⟩ : ∃ y : Int32, y = (nI i) + 1 := ⟨_, rfl⟩
    refine lv_iinc (v := x_6) (lv' := [(5, _), (4, _), (3, _), (2, _), (0, _), (1, _)]) C.1 C.2.1 dX4_take_117 hl (k := 0) rfl (by rw [ex_6]; rfl) (by decide) rfl (fun ls hl => ?_)
    refine lv_goto (tgt := 63) hx hb dX4_take_120 (by decide) ?_
    subst et_5 et_4 et_3 et_2 et_1
    have hx2 : x_6 = nI (i + 1) := by rw [ex_6]; exact nI_1 i
    rw [hx2] at hl
    exact ih (i + 1) (by omega) _ _ w ok ls (lv_sub hl [0, 1, 2, 3, 4, 5] rfl)
set_option maxHeartbeats 4000000 in
set_option maxRecDepth 100000 in
theorem ql_viewB {p : Program} {l : Launch} {e : Env} {R : Room} {s : State} {m : MethodId} {args : Array Value} {below : List Frame} {meth : Method} {c : Code} {cells slots : Nat} {Q : State → Prop} {D : va_G} {cI cZ cN cO : ClassId} {A : Nat → Prop} {H0 : Heap} {mm : Nat} {d : Nat → Nat} {n : Nat} (C : Cx p c cX4_take s m args RX4 D (gTy cI cZ cN cO)) (hml : c.maxLocals = 6) {σ : RS} {k o g0 : Int32} {j : Nat} (hn : n ≤ 31) (hk : vp_in k n) (hO : vp_in o 512) (hF : vp_in g0 512) (hj : j < n) (kk : ∀ (H : Heap) (locs : List Loc), rWd D cI cZ A H0 mm d (itr (rVwB o g0) n σ) H locs → rOK n (itr (rVwB o g0) n σ) → ∀ ls : Array Slot, lv_has ls 6 [(5, .int (nI n)), (4, .int g0), (3, .int ((nI j))), (2, .int o), (0, .ref mm), (1, .int k)] → W p l e R s m args below meth c H locs cells slots Q (F0 m 123 ls [])) : ∀ (fu i : Nat), i + fu = n → ∀ (H : Heap) (locs : List Loc), rWd D cI cZ A H0 mm d (itr (rVwB o g0) i σ) H locs → rOK n (itr (rVwB o g0) i σ) → ∀ ls : Array Slot, lv_has ls 6 [(5, .int (nI i)), (4, .int g0), (3, .int ((nI j))), (2, .int o), (0, .ref mm), (1, .int k)] → W p l e R s m args below meth c H locs cells slots Q (F0 m 63 ls []) := by
  intro fu
  induction fu with
  | zero =>
    intro i hik
    intro H locs w ok ls hl
    have hx := C.1
    have hb := C.2.1
    have hi : n = i := by omega
    subst hi
    refine lv_iload hx hb dX4_take_63 (lv_at hl 0 rfl) ?_
    refine lv_aload_n hx hb dX4_take_65 rfl (lv_at hl 4 rfl) ?_
    refine r_get_0 C w dX4_take_66 ?_
    rw [ok.nn]
    refine lv_icmp_ge (tgt := 123) hx hb dX4_take_69 (by decide) (fun c_69 => ?_) (fun c_69 => absurd (Int32.le_refl _) c_69)
    exact kk _ _ w ok ls (lv_sub hl [0, 1, 2, 3, 4, 5] rfl)
  | succ fu ih =>
    intro i hik
    intro H locs w ok ls hl
    have hx := C.1
    have hb := C.2.1
    have hi : i < n := by omega
    refine lv_iload hx hb dX4_take_63 (lv_at hl 0 rfl) ?_
    refine lv_aload_n hx hb dX4_take_65 rfl (lv_at hl 4 rfl) ?_
    refine r_get_0 C w dX4_take_66 ?_
    rw [ok.nn]
    refine lv_icmp_ge (tgt := 123) hx hb dX4_take_69 (by decide) (fun c_69 => absurd c_69 (nI_ge hi (by omega))) (fun c_69 => ?_)
    refine lv_aload_n hx hb dX4_take_72 rfl (lv_at hl 4 rfl) ?_
    refine r_get_35 C w dX4_take_73 ?_
    refine lv_bipush (v := 31) hx hb dX4_take_76 (by decide) ?_
    refine lv_iload_n hx hb dX4_take_78 rfl (lv_at hl 3 rfl) ?_
    refine lv_imul hx hb dX4_take_79 ?_
    refine lv_topi (fun t_1 et_1 => ?_)
    refine lv_iload hx hb dX4_take_80 (lv_at hl 0 rfl) ?_
    refine lv_iadd hx hb dX4_take_82 ?_
    refine lv_topi (fun t_2 et_2 => ?_)
    refine lv_iload_n hx hb dX4_take_83 rfl (lv_at hl 2 rfl) ?_
    refine lv_iconst (v := (-1)) hx hb dX4_take_84 (by decide) ?_
    refine lv_icmp_ne (tgt := 103) hx hb dX4_take_85 (by decide) (fun c_85 => ?_) (fun c_85 => absurd c_85 (nI_nm1 (by omega)))
    refine lv_aload_n hx hb dX4_take_103 rfl (lv_at hl 4 rfl) ?_
    refine r_get_35 C w dX4_take_104 ?_
    refine lv_bipush (v := 31) hx hb dX4_take_107 (by decide) ?_
    refine lv_iload hx hb dX4_take_109 (lv_at hl 1 rfl) ?_
    refine lv_imul hx hb dX4_take_111 ?_
    refine lv_topi (fun t_3 et_3 => ?_)
    refine lv_iload hx hb dX4_take_112 (lv_at hl 0 rfl) ?_
    refine lv_iadd hx hb dX4_take_114 ?_
    refine lv_topi (fun t_4 et_4 => ?_)
    refine r_ld_35 C w (by rw [et_4, et_3]; exact gIx (c := 31) (N := 512) rfl (by decide) hF (vp_in_nI (by omega) (by omega))) dX4_take_115 ?_
    refine lv_topi (fun t_5 et_5 => ?_)
    refine r_st_35 C w (by rw [et_2, et_1]; exact gIx (c := 31) (N := 512) rfl (by decide) hO (vp_in_nI (by omega) (by omega))) dX4_take_116 (fun H locs w => ?_)
    have ok : rOK n _ := rOK.st ok (k := 35) (i := t_2.toNatClampNeg) (v := t_5) (fun b hb => by cases hb; rw [et_5]; exact ok.at 35 rfl _)
    obtain ⟨x_6, ex_6⟩ : ∃ y : Int32, y = (nI i) + 1 := ⟨_, rfl⟩
    refine lv_iinc (v := x_6) (lv' := [(5, _), (4, _), (3, _), (2, _), (0, _), (1, _)]) C.1 C.2.1 dX4_take_117 hl (k := 0) rfl (by rw [ex_6]; rfl) (by decide) rfl (fun ls hl => ?_)
    refine lv_goto (tgt := 63) hx hb dX4_take_120 (by decide) ?_
    subst et_5 et_4 et_3 et_2 et_1
    have hx2 : x_6 = nI (i + 1) := by rw [ex_6]; exact nI_1 i
    rw [hx2] at hl
    exact ih (i + 1) (by omega) _ _ w ok ls (lv_sub hl [0, 1, 2, 3, 4, 5] rfl)
set_option maxHeartbeats 4000000 in
set_option maxRecDepth 100000 in
theorem ql_own {p : Program} {l : Launch} {e : Env} {R : Room} {s : State} {m : MethodId} {args : Array Value} {below : List Frame} {meth : Method} {c : Code} {cells slots : Nat} {Q : State → Prop} {D : va_G} {cI cZ cN cO : ClassId} {A : Nat → Prop} {H0 : Heap} {mm : Nat} {d : Nat → Nat} {n : Nat} (C : Cx p c cX4_take s m args RX4 D (gTy cI cZ cN cO)) (hml : c.maxLocals = 6) {σ : RS} {k : Int32} (hn : n ≤ 31) (hk : vp_in k n) (kk : ∀ (H : Heap) (locs : List Loc), rWd D cI cZ A H0 mm d (itr (rOwn k) n σ) H locs → rOK n (itr (rOwn k) n σ) → ∀ ls : Array Slot, lv_has ls 6 [(5, .int (nI n)), (0, .ref mm), (1, .int k)] → W p l e R s m args below meth c H locs cells slots Q (F0 m 256 ls [])) : ∀ (fu i : Nat), i + fu = n → ∀ (H : Heap) (locs : List Loc), rWd D cI cZ A H0 mm d (itr (rOwn k) i σ) H locs → rOK n (itr (rOwn k) i σ) → ∀ ls : Array Slot, lv_has ls 6 [(5, .int (nI i)), (0, .ref mm), (1, .int k)] → W p l e R s m args below meth c H locs cells slots Q (F0 m 213 ls []) := by
  intro fu
  induction fu with
  | zero =>
    intro i hik
    intro H locs w ok ls hl
    have hx := C.1
    have hb := C.2.1
    have hi : n = i := by omega
    subst hi
    refine lv_iload hx hb dX4_take_213 (lv_at hl 0 rfl) ?_
    refine lv_aload_n hx hb dX4_take_215 rfl (lv_at hl 1 rfl) ?_
    refine r_get_0 C w dX4_take_216 ?_
    rw [ok.nn]
    refine lv_icmp_ge (tgt := 256) hx hb dX4_take_219 (by decide) (fun c_219 => ?_) (fun c_219 => absurd (Int32.le_refl _) c_219)
    exact kk _ _ w ok ls (lv_sub hl [0, 1, 2] rfl)
  | succ fu ih =>
    intro i hik
    intro H locs w ok ls hl
    have hx := C.1
    have hb := C.2.1
    have hi : i < n := by omega
    refine lv_iload hx hb dX4_take_213 (lv_at hl 0 rfl) ?_
    refine lv_aload_n hx hb dX4_take_215 rfl (lv_at hl 1 rfl) ?_
    refine r_get_0 C w dX4_take_216 ?_
    rw [ok.nn]
    refine lv_icmp_ge (tgt := 256) hx hb dX4_take_219 (by decide) (fun c_219 => absurd c_219 (nI_ge hi (by omega))) (fun c_219 => ?_)
    refine lv_aload_n hx hb dX4_take_222 rfl (lv_at hl 1 rfl) ?_
    refine r_get_21 C w dX4_take_223 ?_
    refine lv_bipush (v := 31) hx hb dX4_take_226 (by decide) ?_
    refine lv_iload_n hx hb dX4_take_228 rfl (lv_at hl 2 rfl) ?_
    refine lv_imul hx hb dX4_take_229 ?_
    refine lv_topi (fun t_1 et_1 => ?_)
    refine lv_iload hx hb dX4_take_230 (lv_at hl 0 rfl) ?_
    refine lv_iadd hx hb dX4_take_232 ?_
    refine lv_topi (fun t_2 et_2 => ?_)
    refine lv_iload hx hb dX4_take_233 (lv_at hl 0 rfl) ?_
    refine lv_iload_n hx hb dX4_take_235 rfl (lv_at hl 2 rfl) ?_
    refine lv_icmp_ne (tgt := 248) hx hb dX4_take_236 (by decide) (fun c_236 => ?_) (fun c_236 => ?_)
    · refine lv_iconst (v := 0) hx hb dX4_take_248 (by decide) ?_
      refine r_st_21 C w (by rw [et_2, et_1]; exact gIx (c := 31) (N := 31) rfl (by decide) (ok.n31 hk) (vp_in_nI (by omega) (by omega))) dX4_take_249 (fun H locs w => ?_)
      have ok : rOK n _ := rOK.st ok (k := 21) (i := t_2.toNatClampNeg) (v := 0) (fun b hb => by cases hb; exact (by unfold vp_in; decide +kernel))
      obtain ⟨x_3, ex_3⟩ : ∃ y : Int32, y = (nI i) + 1 := ⟨_, rfl⟩
      refine lv_iinc (v := x_3) (lv' := [(5, _), (0, _), (1, _)]) C.1 C.2.1 dX4_take_250 hl (k := 0) rfl (by rw [ex_3]; rfl) (by decide) rfl (fun ls hl => ?_)
      refine lv_goto (tgt := 213) hx hb dX4_take_253 (by decide) ?_
      subst et_2 et_1
      have w : rWd D cI cZ A H0 mm d (itr (rOwn k) (i + 1) σ) H locs := by show rWd D cI cZ A H0 mm d (rA _ 21 _ _) H locs; first | (rw [if_pos c_236]; exact w) | (rw [if_neg c_236]; exact w)
      have ok : rOK n (itr (rOwn k) (i + 1) σ) := by show rOK n (rA _ 21 _ _); first | (rw [if_pos c_236]; exact ok) | (rw [if_neg c_236]; exact ok)
      have hx2 : x_3 = nI (i + 1) := by rw [ex_3]; exact nI_1 i
      rw [hx2] at hl
      exact ih (i + 1) (by omega) _ _ w ok ls (lv_sub hl [0, 1, 2] rfl)
    · refine lv_aload_n hx hb dX4_take_239 rfl (lv_at hl 1 rfl) ?_
      refine r_get_19 C w dX4_take_240 ?_
      refine lv_iload_n hx hb dX4_take_243 rfl (lv_at hl 2 rfl) ?_
      refine r_ld_19 C w (ok.n31 hk) dX4_take_244 ?_
      refine lv_topi (fun t_4 et_4 => ?_)
      refine lv_goto (tgt := 249) hx hb dX4_take_245 (by decide) ?_
      refine r_st_21 C w (by rw [et_2, et_1]; exact gIx (c := 31) (N := 31) rfl (by decide) (ok.n31 hk) (vp_in_nI (by omega) (by omega))) dX4_take_249 (fun H locs w => ?_)
      have ok : rOK n _ := rOK.st ok (k := 21) (i := t_2.toNatClampNeg) (v := t_4) (fun b hb => by cases hb; exact (by rw [et_4]; exact ok.at 19 rfl _))
      obtain ⟨x_5, ex_5⟩ : ∃ y : Int32, y = (nI i) + 1 := ⟨_, rfl⟩
      refine lv_iinc (v := x_5) (lv' := [(5, _), (0, _), (1, _)]) C.1 C.2.1 dX4_take_250 hl (k := 0) rfl (by rw [ex_5]; rfl) (by decide) rfl (fun ls hl => ?_)
      refine lv_goto (tgt := 213) hx hb dX4_take_253 (by decide) ?_
      subst et_4 et_2 et_1
      have w : rWd D cI cZ A H0 mm d (itr (rOwn k) (i + 1) σ) H locs := by show rWd D cI cZ A H0 mm d (rA _ 21 _ _) H locs; first | (rw [if_pos c_236]; exact w) | (rw [if_neg c_236]; exact w)
      have ok : rOK n (itr (rOwn k) (i + 1) σ) := by show rOK n (rA _ 21 _ _); first | (rw [if_pos c_236]; exact ok) | (rw [if_neg c_236]; exact ok)
      have hx2 : x_5 = nI (i + 1) := by rw [ex_5]; exact nI_1 i
      rw [hx2] at hl
      exact ih (i + 1) (by omega) _ _ w ok ls (lv_sub hl [0, 1, 2] rfl)
set_option maxHeartbeats 4000000 in
set_option maxRecDepth 100000 in
theorem q_takeSq (l : Launch) (D : va_G) (cI cZ cN cO : ClassId) (A : Nat → Prop) (mm : Nat) (d : Nat → Nat) (n : Nat) (σ : RS) (k : Int32) (ok : rOK n σ) (hk : vp_in k n) (hsm : rSame n k σ) (hq : ¬ σ.2 27 (σ.2 16 k.toNatClampNeg).toNatClampNeg < 10) : Met l yX4_take (.code yX4_take cX4_take 6 none :: gw) ({ frames := 2, cells := 0, slots := 0, locals := 51 }) (va_Pc (.ref mm :: [.int k]) (rH D cI cZ cN cO A mm d σ)) (va_Qv (fun _ : Unit => True) (fun _ t => rH D cI cZ cN cO A mm d (rEnds k (rTkS n k σ)) t ∧ rOK n (rEnds k (rTkS n k σ))) A) 0 0 A := by
  refine Met.ofW (cc := cX4_take) (maxL := 6) (ret := none) (by decide) rfl ?_
  intro p e s m args below meth c s₁ B hml hv
  obtain ⟨rfl, hP, hK, hD⟩ := hv
  have hx := B.exec
  have hb := B.bytes
  have hr := B.returns
  have hts := atoms_spec (ws := (.code yX4_take cX4_take 6 none :: gw)) B.pre
  have hg : ∀ w ∈ gw, w.before _ s = true := fun w h => hts w (List.mem_cons_of_mem _ h)
  have hown : s.vm.findClass RX4 = some m.cls := findClass_of_methodNamed B.named
  have hlocks := B.notSynchronized
  have C : Cx p c cX4_take s m _ RX4 D (gTy cI cZ cN cO) := ⟨hx, hb, hown, hg, hK⟩
  have w : rWd D cI cZ A s.heap mm d σ s.heap [] := ⟨hP, hD, va_S.rf⟩
  have hl := lv_entry ([.ref mm, .int k]) (n := 6) (Nat.le_of_ble_eq_true rfl)
  rw [lg_entry_eq]
  generalize (lg_sl ([.ref mm, .int k]) ++ List.replicate (6 - (lg_sl ([.ref mm, .int k])).length) Slot.unset).toArray = ls at hl ⊢
  have hl : lv_has ls 6 [(0, .ref mm), (1, .int k)] := hl
  refine lv_aload_n hx hb dX4_take_0 rfl (lv_at hl 0 rfl) ?_
  refine r_get_16 C w dX4_take_1 ?_
  refine lv_iload_n hx hb dX4_take_4 rfl (lv_at hl 1 rfl) ?_
  refine r_ld_16 C w (ok.n31 hk) dX4_take_5 ?_
  refine lv_topi (fun o eo => ?_)
  have hO : vp_in o 512 := by rw [eo]; exact ok.at 16 rfl _
  refine lv_istore_n (lv' := [(2, _), (0, _), (1, _)]) C.1 C.2.1 dX4_take_6 rfl hl (by decide) rfl (fun ls hl => ?_)
  refine lv_aload_n hx hb dX4_take_7 rfl (lv_at hl 1 rfl) ?_
  refine lv_iload_n hx hb dX4_take_8 rfl (lv_at hl 2 rfl) ?_
  refine r_callp (As := [.int k]) (rest := []) C w hml hl.1 (q_isSame l D cI cZ cN cO A mm d n _ k ok hk) kM_X4_149 kI_X4_isSame kS_X4_isSame kD_X4_isSame (show yX4_isSame.cls = RX4 ∧ yX4_isSame.cls ≠ "java/lang/invoke/MethodHandle" ∧ yX4_isSame.cls ≠ "java/lang/invoke/VarHandle" ∧ (parseMethodDescriptor yX4_isSame.desc).map (fun d => d.parameters.length) = some 1 from by decide +kernel) rfl rfl ⟨Nat.le_of_ble_eq_true rfl, Nat.le_of_ble_eq_true rfl⟩ rfl (lv_room (Nat.le_of_ble_eq_true rfl)) dX4_take_9 ⟨Nat.zero_le _, Nat.zero_le _⟩ (fun r_1 hr_1 => ?_)
  obtain rfl : r_1 = 1 := hr_1.elim (fun h => h.1) (fun h => absurd hsm h.2)
  refine lv_if_eq (tgt := 19) hx hb dX4_take_12 (by decide) (fun c_12 => absurd c_12 (by decide)) (fun c_12 => ?_)
  refine lv_iconst (v := (-1)) hx hb dX4_take_15 (by decide) ?_
  refine lv_goto (tgt := 24) hx hb dX4_take_16 (by decide) ?_
  refine lv_istore_n (lv' := [(3, _), (2, _), (0, _), (1, _)]) C.1 C.2.1 dX4_take_24 rfl hl (by decide) rfl (fun ls hl => ?_)
  refine lv_iload_n hx hb dX4_take_25 rfl (lv_at hl 0 rfl) ?_
  refine lv_iconst (v := (-1)) hx hb dX4_take_26 (by decide) ?_
  refine lv_icmp_ne (tgt := 34) hx hb dX4_take_27 (by decide) (fun c_27 => absurd rfl c_27) (fun c_27 => ?_)
  refine lv_iconst (v := 0) hx hb dX4_take_30 (by decide) ?_
  refine lv_goto (tgt := 58) hx hb dX4_take_31 (by decide) ?_
  refine lv_istore (lv' := [(4, _), (3, _), (2, _), (0, _), (1, _)]) C.1 C.2.1 dX4_take_58 hl (by decide) rfl (fun ls hl => ?_)
  refine lv_iconst (v := 0) hx hb dX4_take_60 (by decide) ?_
  refine lv_istore (lv' := [(5, _), (4, _), (3, _), (2, _), (0, _), (1, _)]) C.1 C.2.1 dX4_take_61 hl (by decide) rfl (fun ls hl => ?_)
  have hl : lv_has ls 6 [(5, .int (nI 0)), (4, .int 0), (3, .int (-1)), (2, .int o), (0, .ref mm), (1, .int k)] := by rw [nI_0]; exact hl
  refine ql_viewS C hml ok.2.1 hk hO ?_ n 0 (by omega) _ _ w ok ls (lv_sub hl [0, 1, 2, 3, 4, 5] rfl)
  intro H locs w ok ls hl
  refine lv_aload_n hx hb dX4_take_123 rfl (lv_at hl 4 rfl) ?_
  refine r_get_36 C w dX4_take_124 ?_
  refine lv_iload_n hx hb dX4_take_127 rfl (lv_at hl 3 rfl) ?_
  refine lv_iconst (v := 1) hx hb dX4_take_128 (by decide) ?_
  refine r_st_36 (v := 1) C w rfl hO dX4_take_129 (fun H locs w => ?_)
  have ok : rOK n _ := rOK.st ok (k := 36) (i := o.toNatClampNeg) (v := 1) (fun b hb => by cases hb)
  refine lv_aload_n hx hb dX4_take_130 rfl (lv_at hl 4 rfl) ?_
  refine r_get_33 C w dX4_take_131 ?_
  refine lv_iload_n hx hb dX4_take_134 rfl (lv_at hl 3 rfl) ?_
  refine lv_iload_n hx hb dX4_take_135 rfl (lv_at hl 2 rfl) ?_
  refine r_st_33 C w hO dX4_take_136 (fun H locs w => ?_)
  have ok : rOK n _ := rOK.st ok (k := 33) (i := o.toNatClampNeg) (v := (-1)) (fun b hb => by cases hb)
  refine lv_aload_n hx hb dX4_take_137 rfl (lv_at hl 4 rfl) ?_
  refine lv_dup hx hb dX4_take_138 rfl ?_
  refine r_get_38 C w dX4_take_139 ?_
  refine lv_topi (fun t_2 et_2 => ?_)
  refine lv_iload_n hx hb dX4_take_142 rfl (lv_at hl 2 rfl) ?_
  refine lv_iconst (v := (-1)) hx hb dX4_take_143 (by decide) ?_
  refine lv_icmp_ne (tgt := 151) hx hb dX4_take_144 (by decide) (fun c_144 => absurd rfl c_144) (fun c_144 => ?_)
  refine lv_iconst (v := 0) hx hb dX4_take_147 (by decide) ?_
  refine lv_goto (tgt := 152) hx hb dX4_take_148 (by decide) ?_
  refine lv_iadd hx hb dX4_take_152 ?_
  refine lv_topi (fun t_3 et_3 => ?_)
  refine r_put_38 C w dX4_take_153 (fun H locs w => ?_)
  have ok : rOK n _ := rOK.put ok (k := 38) (v := t_3) (by decide) (fun h => absurd h (by decide)) (fun h => absurd h (by decide))
  subst et_3 et_2
  obtain ⟨σ1, hσ1⟩ : ∃ z, z = rTkS n k σ := ⟨_, rfl⟩
  have w : rWd D cI cZ A s.heap mm d σ1 H locs := by rw [hσ1]; unfold rTkS; rw [← eo]; exact w
  have ok : rOK n σ1 := by rw [hσ1]; unfold rTkS; rw [← eo]; exact ok
  refine lv_aload_n hx hb dX4_take_156 rfl (lv_at hl 4 rfl) ?_
  refine lv_iload_n hx hb dX4_take_157 rfl (lv_at hl 3 rfl) ?_
  have e27 : ∀ r, r ≠ 35 → r ≠ 36 → r ≠ 33 → σ1.2 r = σ.2 r := fun r h1 h2 h3 => by rw [hσ1]; exact rTkS_row h1 h2 h3
  refine r_callp (As := [.int o]) (rest := []) C w hml hl.1 (q_isQuery l D cI cZ cN cO A mm d n _ o ok hO) kM_X4_159 kI_X4_isQuery kS_X4_isQuery kD_X4_isQuery (show yX4_isQuery.cls = RX4 ∧ yX4_isQuery.cls ≠ "java/lang/invoke/MethodHandle" ∧ yX4_isQuery.cls ≠ "java/lang/invoke/VarHandle" ∧ (parseMethodDescriptor yX4_isQuery.desc).map (fun d => d.parameters.length) = some 1 from by decide +kernel) rfl rfl ⟨Nat.le_of_ble_eq_true rfl, Nat.le_of_ble_eq_true rfl⟩ rfl (lv_room (Nat.le_of_ble_eq_true rfl)) dX4_take_158 ⟨Nat.zero_le _, Nat.zero_le _⟩ (fun r_4 hr_4 => ?_)
  have hr_4 : r_4 = if ¬ σ.2 27 o.toNatClampNeg < 10 then 1 else 0 := by rw [← e27 27 (by decide) (by decide) (by decide)]; exact hr_4
  obtain rfl : r_4 = 1 := by rw [hr_4, if_pos (by rw [eo]; exact hq)]
  refine lv_if_eq (tgt := 170) hx hb dX4_take_161 (by decide) (fun c_161 => absurd c_161 (by decide)) (fun c_161 => ?_)
  refine lv_aload_n hx hb dX4_take_164 rfl (lv_at hl 4 rfl) ?_
  refine lv_iload_n hx hb dX4_take_165 rfl (lv_at hl 5 rfl) ?_
  refine r_callv (As := [.int k]) (rest := []) C w hml hl.1 (q_ends l D cI cZ cN cO A mm d n _ k ok hk) kM_X4_162 kI_X4_ends kS_X4_ends kD_X4_ends (show yX4_ends.cls = RX4 ∧ yX4_ends.cls ≠ "java/lang/invoke/MethodHandle" ∧ yX4_ends.cls ≠ "java/lang/invoke/VarHandle" ∧ (parseMethodDescriptor yX4_ends.desc).map (fun d => d.parameters.length) = some 1 from by decide +kernel) rfl rfl ⟨Nat.le_of_ble_eq_true rfl, Nat.le_of_ble_eq_true rfl⟩ rfl (lv_room (Nat.le_of_ble_eq_true rfl)) dX4_take_166 ⟨Nat.zero_le _, Nat.zero_le _⟩ (fun H locs w ok => ?_)
  rw [hσ1] at w ok
  exact W.vret hx hb hr (fun t ht hW => ⟨⟨(), rfl, trivial, ⟨by rw [ht]; exact w.1, va_K.moved hW.alike hK, w.2.1⟩, ok⟩, w.2.2.F ht⟩) w.2.2.2.2 dX4_take_169
set_option maxHeartbeats 4000000 in
set_option maxRecDepth 100000 in
theorem q_takeSu (l : Launch) (D : va_G) (cI cZ cN cO : ClassId) (A : Nat → Prop) (mm : Nat) (d : Nat → Nat) (n : Nat) (σ : RS) (k : Int32) (ok : rOK n σ) (hk : vp_in k n) (hsm : rSame n k σ) (hq : σ.2 27 (σ.2 16 k.toNatClampNeg).toNatClampNeg < 10) (hlen : vp_in (σ.2 19 k.toNatClampNeg + 1) 512) (hrm : rRm σ n) : Met l yX4_take (.code yX4_take cX4_take 6 none :: gw) ({ frames := 2, cells := 0, slots := 0, locals := 51 }) (va_Pc (.ref mm :: [.int k]) (rH D cI cZ cN cO A mm d σ)) (va_Qv (fun _ : Unit => True) (fun _ t => rH D cI cZ cN cO A mm d (rWr n k (σ.2 16 k.toNatClampNeg) (rTkS n k σ)) t ∧ rOK n (rWr n k (σ.2 16 k.toNatClampNeg) (rTkS n k σ))) A) 0 0 A := by
  refine Met.ofW (cc := cX4_take) (maxL := 6) (ret := none) (by decide) rfl ?_
  intro p e s m args below meth c s₁ B hml hv
  obtain ⟨rfl, hP, hK, hD⟩ := hv
  have hx := B.exec
  have hb := B.bytes
  have hr := B.returns
  have hts := atoms_spec (ws := (.code yX4_take cX4_take 6 none :: gw)) B.pre
  have hg : ∀ w ∈ gw, w.before _ s = true := fun w h => hts w (List.mem_cons_of_mem _ h)
  have hown : s.vm.findClass RX4 = some m.cls := findClass_of_methodNamed B.named
  have hlocks := B.notSynchronized
  have C : Cx p c cX4_take s m _ RX4 D (gTy cI cZ cN cO) := ⟨hx, hb, hown, hg, hK⟩
  have w : rWd D cI cZ A s.heap mm d σ s.heap [] := ⟨hP, hD, va_S.rf⟩
  have hl := lv_entry ([.ref mm, .int k]) (n := 6) (Nat.le_of_ble_eq_true rfl)
  rw [lg_entry_eq]
  generalize (lg_sl ([.ref mm, .int k]) ++ List.replicate (6 - (lg_sl ([.ref mm, .int k])).length) Slot.unset).toArray = ls at hl ⊢
  have hl : lv_has ls 6 [(0, .ref mm), (1, .int k)] := hl
  refine lv_aload_n hx hb dX4_take_0 rfl (lv_at hl 0 rfl) ?_
  refine r_get_16 C w dX4_take_1 ?_
  refine lv_iload_n hx hb dX4_take_4 rfl (lv_at hl 1 rfl) ?_
  refine r_ld_16 C w (ok.n31 hk) dX4_take_5 ?_
  refine lv_topi (fun o eo => ?_)
  have hO : vp_in o 512 := by rw [eo]; exact ok.at 16 rfl _
  refine lv_istore_n (lv' := [(2, _), (0, _), (1, _)]) C.1 C.2.1 dX4_take_6 rfl hl (by decide) rfl (fun ls hl => ?_)
  refine lv_aload_n hx hb dX4_take_7 rfl (lv_at hl 1 rfl) ?_
  refine lv_iload_n hx hb dX4_take_8 rfl (lv_at hl 2 rfl) ?_
  refine r_callp (As := [.int k]) (rest := []) C w hml hl.1 (q_isSame l D cI cZ cN cO A mm d n _ k ok hk) kM_X4_149 kI_X4_isSame kS_X4_isSame kD_X4_isSame (show yX4_isSame.cls = RX4 ∧ yX4_isSame.cls ≠ "java/lang/invoke/MethodHandle" ∧ yX4_isSame.cls ≠ "java/lang/invoke/VarHandle" ∧ (parseMethodDescriptor yX4_isSame.desc).map (fun d => d.parameters.length) = some 1 from by decide +kernel) rfl rfl ⟨Nat.le_of_ble_eq_true rfl, Nat.le_of_ble_eq_true rfl⟩ rfl (lv_room (Nat.le_of_ble_eq_true rfl)) dX4_take_9 ⟨Nat.zero_le _, Nat.zero_le _⟩ (fun r_1 hr_1 => ?_)
  obtain rfl : r_1 = 1 := hr_1.elim (fun h => h.1) (fun h => absurd hsm h.2)
  refine lv_if_eq (tgt := 19) hx hb dX4_take_12 (by decide) (fun c_12 => absurd c_12 (by decide)) (fun c_12 => ?_)
  refine lv_iconst (v := (-1)) hx hb dX4_take_15 (by decide) ?_
  refine lv_goto (tgt := 24) hx hb dX4_take_16 (by decide) ?_
  refine lv_istore_n (lv' := [(3, _), (2, _), (0, _), (1, _)]) C.1 C.2.1 dX4_take_24 rfl hl (by decide) rfl (fun ls hl => ?_)
  refine lv_iload_n hx hb dX4_take_25 rfl (lv_at hl 0 rfl) ?_
  refine lv_iconst (v := (-1)) hx hb dX4_take_26 (by decide) ?_
  refine lv_icmp_ne (tgt := 34) hx hb dX4_take_27 (by decide) (fun c_27 => absurd rfl c_27) (fun c_27 => ?_)
  refine lv_iconst (v := 0) hx hb dX4_take_30 (by decide) ?_
  refine lv_goto (tgt := 58) hx hb dX4_take_31 (by decide) ?_
  refine lv_istore (lv' := [(4, _), (3, _), (2, _), (0, _), (1, _)]) C.1 C.2.1 dX4_take_58 hl (by decide) rfl (fun ls hl => ?_)
  refine lv_iconst (v := 0) hx hb dX4_take_60 (by decide) ?_
  refine lv_istore (lv' := [(5, _), (4, _), (3, _), (2, _), (0, _), (1, _)]) C.1 C.2.1 dX4_take_61 hl (by decide) rfl (fun ls hl => ?_)
  have hl : lv_has ls 6 [(5, .int (nI 0)), (4, .int 0), (3, .int (-1)), (2, .int o), (0, .ref mm), (1, .int k)] := by rw [nI_0]; exact hl
  refine ql_viewS C hml ok.2.1 hk hO ?_ n 0 (by omega) _ _ w ok ls (lv_sub hl [0, 1, 2, 3, 4, 5] rfl)
  intro H locs w ok ls hl
  refine lv_aload_n hx hb dX4_take_123 rfl (lv_at hl 4 rfl) ?_
  refine r_get_36 C w dX4_take_124 ?_
  refine lv_iload_n hx hb dX4_take_127 rfl (lv_at hl 3 rfl) ?_
  refine lv_iconst (v := 1) hx hb dX4_take_128 (by decide) ?_
  refine r_st_36 (v := 1) C w rfl hO dX4_take_129 (fun H locs w => ?_)
  have ok : rOK n _ := rOK.st ok (k := 36) (i := o.toNatClampNeg) (v := 1) (fun b hb => by cases hb)
  refine lv_aload_n hx hb dX4_take_130 rfl (lv_at hl 4 rfl) ?_
  refine r_get_33 C w dX4_take_131 ?_
  refine lv_iload_n hx hb dX4_take_134 rfl (lv_at hl 3 rfl) ?_
  refine lv_iload_n hx hb dX4_take_135 rfl (lv_at hl 2 rfl) ?_
  refine r_st_33 C w hO dX4_take_136 (fun H locs w => ?_)
  have ok : rOK n _ := rOK.st ok (k := 33) (i := o.toNatClampNeg) (v := (-1)) (fun b hb => by cases hb)
  refine lv_aload_n hx hb dX4_take_137 rfl (lv_at hl 4 rfl) ?_
  refine lv_dup hx hb dX4_take_138 rfl ?_
  refine r_get_38 C w dX4_take_139 ?_
  refine lv_topi (fun t_2 et_2 => ?_)
  refine lv_iload_n hx hb dX4_take_142 rfl (lv_at hl 2 rfl) ?_
  refine lv_iconst (v := (-1)) hx hb dX4_take_143 (by decide) ?_
  refine lv_icmp_ne (tgt := 151) hx hb dX4_take_144 (by decide) (fun c_144 => absurd rfl c_144) (fun c_144 => ?_)
  refine lv_iconst (v := 0) hx hb dX4_take_147 (by decide) ?_
  refine lv_goto (tgt := 152) hx hb dX4_take_148 (by decide) ?_
  refine lv_iadd hx hb dX4_take_152 ?_
  refine lv_topi (fun t_3 et_3 => ?_)
  refine r_put_38 C w dX4_take_153 (fun H locs w => ?_)
  have ok : rOK n _ := rOK.put ok (k := 38) (v := t_3) (by decide) (fun h => absurd h (by decide)) (fun h => absurd h (by decide))
  subst et_3 et_2
  obtain ⟨σ1, hσ1⟩ : ∃ z, z = rTkS n k σ := ⟨_, rfl⟩
  have w : rWd D cI cZ A s.heap mm d σ1 H locs := by rw [hσ1]; unfold rTkS; rw [← eo]; exact w
  have ok : rOK n σ1 := by rw [hσ1]; unfold rTkS; rw [← eo]; exact ok
  refine lv_aload_n hx hb dX4_take_156 rfl (lv_at hl 4 rfl) ?_
  refine lv_iload_n hx hb dX4_take_157 rfl (lv_at hl 3 rfl) ?_
  have e27 : ∀ r, r ≠ 35 → r ≠ 36 → r ≠ 33 → σ1.2 r = σ.2 r := fun r h1 h2 h3 => by rw [hσ1]; exact rTkS_row h1 h2 h3
  refine r_callp (As := [.int o]) (rest := []) C w hml hl.1 (q_isQuery l D cI cZ cN cO A mm d n _ o ok hO) kM_X4_159 kI_X4_isQuery kS_X4_isQuery kD_X4_isQuery (show yX4_isQuery.cls = RX4 ∧ yX4_isQuery.cls ≠ "java/lang/invoke/MethodHandle" ∧ yX4_isQuery.cls ≠ "java/lang/invoke/VarHandle" ∧ (parseMethodDescriptor yX4_isQuery.desc).map (fun d => d.parameters.length) = some 1 from by decide +kernel) rfl rfl ⟨Nat.le_of_ble_eq_true rfl, Nat.le_of_ble_eq_true rfl⟩ rfl (lv_room (Nat.le_of_ble_eq_true rfl)) dX4_take_158 ⟨Nat.zero_le _, Nat.zero_le _⟩ (fun r_4 hr_4 => ?_)
  have hr_4 : r_4 = if ¬ σ.2 27 o.toNatClampNeg < 10 then 1 else 0 := by rw [← e27 27 (by decide) (by decide) (by decide)]; exact hr_4
  obtain rfl : r_4 = 0 := by rw [hr_4, if_neg (fun z => z (by rw [eo]; exact hq))]
  refine lv_if_eq (tgt := 170) hx hb dX4_take_161 (by decide) (fun c_161 => ?_) (fun c_161 => absurd rfl c_161)
  refine lv_aload_n hx hb dX4_take_170 rfl (lv_at hl 4 rfl) ?_
  refine r_get_20 C w dX4_take_171 ?_
  refine lv_sipush (v := 512) hx hb dX4_take_174 (by decide) ?_
  refine lv_iload_n hx hb dX4_take_177 rfl (lv_at hl 5 rfl) ?_
  refine lv_imul hx hb dX4_take_178 ?_
  refine lv_topi (fun t_5 et_5 => ?_)
  refine lv_aload_n hx hb dX4_take_179 rfl (lv_at hl 4 rfl) ?_
  refine r_get_19 C w dX4_take_180 ?_
  refine lv_iload_n hx hb dX4_take_183 rfl (lv_at hl 5 rfl) ?_
  refine r_ld_19 C w (ok.n31 hk) dX4_take_184 ?_
  refine lv_topi (fun t_6 et_6 => ?_)
  have hle : vp_in t_6 512 := by rw [et_6]; exact ok.at 19 rfl _
  refine lv_iadd hx hb dX4_take_185 ?_
  refine lv_topi (fun t_7 et_7 => ?_)
  refine lv_iload_n hx hb dX4_take_186 rfl (lv_at hl 3 rfl) ?_
  refine r_st_20 C w (by rw [et_7, et_5]; exact gIx (c := 512) (N := 31) rfl (by decide) (ok.n31 hk) hle) dX4_take_187 (fun H locs w => ?_)
  have ok : rOK n _ := rOK.st ok (k := 20) (i := t_7.toNatClampNeg) (v := o) (fun b hb => by cases hb; exact hO)
  refine lv_aload_n hx hb dX4_take_188 rfl (lv_at hl 4 rfl) ?_
  refine r_get_19 C w dX4_take_189 ?_
  refine lv_iload_n hx hb dX4_take_192 rfl (lv_at hl 5 rfl) ?_
  refine lv_dup2_11 hx hb dX4_take_193 rfl rfl ?_
  refine r_ld_19 C w (ok.n31 hk) dX4_take_194 ?_
  refine lv_topi (fun t_8 et_8 => ?_)
  have hle : vp_in t_8 512 := by rw [et_8]; exact ok.at 19 rfl _
  refine lv_iconst (v := 1) hx hb dX4_take_195 (by decide) ?_
  refine lv_iadd hx hb dX4_take_196 ?_
  refine lv_topi (fun t_9 et_9 => ?_)
  refine r_st_19 C w (ok.n31 hk) dX4_take_197 (fun H locs w => ?_)
  have ok : rOK n _ := rOK.st ok (k := 19) (i := k.toNatClampNeg) (v := t_9) (fun b hb => by cases hb; rw [et_9, et_8]; show vp_in (σ1.2 19 k.toNatClampNeg + 1) 512; rw [e27 19 (by decide) (by decide) (by decide)]; exact hlen)
  refine lv_aload_n hx hb dX4_take_198 rfl (lv_at hl 4 rfl) ?_
  refine r_get_34 C w dX4_take_199 ?_
  refine lv_iload_n hx hb dX4_take_202 rfl (lv_at hl 3 rfl) ?_
  refine lv_aload_n hx hb dX4_take_203 rfl (lv_at hl 4 rfl) ?_
  refine r_get_19 C w dX4_take_204 ?_
  refine lv_iload_n hx hb dX4_take_207 rfl (lv_at hl 5 rfl) ?_
  refine r_ld_19 C w (ok.n31 hk) dX4_take_208 ?_
  refine lv_topi (fun t_10 et_10 => ?_)
  refine r_st_34 C w hO dX4_take_209 (fun H locs w => ?_)
  have ok : rOK n _ := rOK.st ok (k := 34) (i := o.toNatClampNeg) (v := t_10) (fun b hb => by cases hb)
  refine lv_iconst (v := 0) hx hb dX4_take_210 (by decide) ?_
  refine lv_istore (lv' := [(5, _), (4, _), (3, _), (2, _), (0, _), (1, _)]) C.1 C.2.1 dX4_take_211 hl (by decide) rfl (fun ls hl => ?_)
  subst et_10 et_9 et_8 et_7 et_6 et_5
  obtain ⟨σ2, hσ2⟩ : ∃ z, z = rLg k o σ1 := ⟨_, rfl⟩
  have w : rWd D cI cZ A s.heap mm d σ2 H locs := by rw [hσ2]; exact w
  have ok : rOK n σ2 := by rw [hσ2]; exact ok
  have hl := lv_sub hl (l' := [(5, .int (nI 0)), (0, .ref mm), (1, .int k)]) [0, 4, 5] (by rw [nI_0]; rfl)
  refine ql_own C hml ok.2.1 hk ?_ n 0 (by omega) _ _ w ok ls (lv_sub hl [0, 1, 2] rfl)
  intro H locs w ok ls hl
  refine lv_aload_n hx hb dX4_take_256 rfl (lv_at hl 1 rfl) ?_
  refine r_get_14 C w dX4_take_257 ?_
  refine lv_iload_n hx hb dX4_take_260 rfl (lv_at hl 2 rfl) ?_
  refine lv_iconst (v := 3) hx hb dX4_take_261 (by decide) ?_
  refine r_st_14 C w (ok.n31 hk) dX4_take_262 (fun H locs w => ?_)
  have ok : rOK n _ := rOK.st ok (k := 14) (i := k.toNatClampNeg) (v := 3) (fun b hb => by cases hb)
  refine lv_aload_n hx hb dX4_take_263 rfl (lv_at hl 1 rfl) ?_
  refine lv_iload_n hx hb dX4_take_264 rfl (lv_at hl 2 rfl) ?_
  refine lv_iconst (v := 2) hx hb dX4_take_265 (by decide) ?_
  refine lv_aload_n hx hb dX4_take_266 rfl (lv_at hl 1 rfl) ?_
  refine r_get_21 C w dX4_take_267 ?_
  refine r_callv (As := [.int k, .int 2, .ref ((d 21))]) (rest := []) C w hml hl.1 (q_toS21 l D cI cZ cN cO A mm d n _ k ok hk (rRm.own (by rw [hσ2, hσ1]; exact hrm.tkS.lg))) kM_X4_125 kI_X4_toAll kS_X4_toAll kD_X4_toAll (show yX4_toAll.cls = RX4 ∧ yX4_toAll.cls ≠ "java/lang/invoke/MethodHandle" ∧ yX4_toAll.cls ≠ "java/lang/invoke/VarHandle" ∧ (parseMethodDescriptor yX4_toAll.desc).map (fun d => d.parameters.length) = some 3 from by decide +kernel) rfl rfl ⟨Nat.le_of_ble_eq_true rfl, Nat.le_of_ble_eq_true rfl⟩ rfl (lv_room (Nat.le_of_ble_eq_true rfl)) dX4_take_270 ⟨Nat.zero_le _, Nat.zero_le _⟩ (fun H locs w ok => ?_)
  subst hσ2
  subst hσ1
  subst eo
  exact W.vret hx hb hr (fun t ht hW => ⟨⟨(), rfl, trivial, ⟨by rw [ht]; exact w.1, va_K.moved hW.alike hK, w.2.1⟩, ok⟩, w.2.2.F ht⟩) w.2.2.2.2 dX4_take_273
set_option maxHeartbeats 4000000 in
set_option maxRecDepth 100000 in
theorem q_takeBq (l : Launch) (D : va_G) (cI cZ cN cO : ClassId) (A : Nat → Prop) (mm : Nat) (d : Nat → Nat) (n : Nat) (σ : RS) (k : Int32) (j : Nat) (ok : rOK n σ) (hk : vp_in k n) (hns : ¬ rSame n k σ) (hj : j < n) (hm : rMv k σ j) (hlt : ∀ i, i < j → ¬ rMv k σ i) (hc1 : ¬ σ.2 22 ((31 : Int32) * k + nI j).toNatClampNeg < 1) (hq : ¬ σ.2 27 (σ.2 16 k.toNatClampNeg).toNatClampNeg < 10) : Met l yX4_take (.code yX4_take cX4_take 6 none :: gw) ({ frames := 2, cells := 0, slots := 0, locals := 51 }) (va_Pc (.ref mm :: [.int k]) (rH D cI cZ cN cO A mm d σ)) (va_Qv (fun _ : Unit => True) (fun _ t => rH D cI cZ cN cO A mm d (rEnds k (rTkB n k j σ)) t ∧ rOK n (rEnds k (rTkB n k j σ))) A) 0 0 A := by
  refine Met.ofW (cc := cX4_take) (maxL := 6) (ret := none) (by decide) rfl ?_
  intro p e s m args below meth c s₁ B hml hv
  obtain ⟨rfl, hP, hK, hD⟩ := hv
  have hx := B.exec
  have hb := B.bytes
  have hr := B.returns
  have hts := atoms_spec (ws := (.code yX4_take cX4_take 6 none :: gw)) B.pre
  have hg : ∀ w ∈ gw, w.before _ s = true := fun w h => hts w (List.mem_cons_of_mem _ h)
  have hown : s.vm.findClass RX4 = some m.cls := findClass_of_methodNamed B.named
  have hlocks := B.notSynchronized
  have C : Cx p c cX4_take s m _ RX4 D (gTy cI cZ cN cO) := ⟨hx, hb, hown, hg, hK⟩
  have w : rWd D cI cZ A s.heap mm d σ s.heap [] := ⟨hP, hD, va_S.rf⟩
  have hl := lv_entry ([.ref mm, .int k]) (n := 6) (Nat.le_of_ble_eq_true rfl)
  rw [lg_entry_eq]
  generalize (lg_sl ([.ref mm, .int k]) ++ List.replicate (6 - (lg_sl ([.ref mm, .int k])).length) Slot.unset).toArray = ls at hl ⊢
  have hl : lv_has ls 6 [(0, .ref mm), (1, .int k)] := hl
  refine lv_aload_n hx hb dX4_take_0 rfl (lv_at hl 0 rfl) ?_
  refine r_get_16 C w dX4_take_1 ?_
  refine lv_iload_n hx hb dX4_take_4 rfl (lv_at hl 1 rfl) ?_
  refine r_ld_16 C w (ok.n31 hk) dX4_take_5 ?_
  refine lv_topi (fun o eo => ?_)
  have hO : vp_in o 512 := by rw [eo]; exact ok.at 16 rfl _
  refine lv_istore_n (lv' := [(2, _), (0, _), (1, _)]) C.1 C.2.1 dX4_take_6 rfl hl (by decide) rfl (fun ls hl => ?_)
  refine lv_aload_n hx hb dX4_take_7 rfl (lv_at hl 1 rfl) ?_
  refine lv_iload_n hx hb dX4_take_8 rfl (lv_at hl 2 rfl) ?_
  refine r_callp (As := [.int k]) (rest := []) C w hml hl.1 (q_isSame l D cI cZ cN cO A mm d n _ k ok hk) kM_X4_149 kI_X4_isSame kS_X4_isSame kD_X4_isSame (show yX4_isSame.cls = RX4 ∧ yX4_isSame.cls ≠ "java/lang/invoke/MethodHandle" ∧ yX4_isSame.cls ≠ "java/lang/invoke/VarHandle" ∧ (parseMethodDescriptor yX4_isSame.desc).map (fun d => d.parameters.length) = some 1 from by decide +kernel) rfl rfl ⟨Nat.le_of_ble_eq_true rfl, Nat.le_of_ble_eq_true rfl⟩ rfl (lv_room (Nat.le_of_ble_eq_true rfl)) dX4_take_9 ⟨Nat.zero_le _, Nat.zero_le _⟩ (fun r_1 hr_1 => ?_)
  obtain rfl : r_1 = 0 := hr_1.elim (fun h => absurd h.2 hns) (fun h => h.1)
  refine lv_if_eq (tgt := 19) hx hb dX4_take_12 (by decide) (fun c_12 => ?_) (fun c_12 => absurd rfl c_12)
  refine lv_aload_n hx hb dX4_take_19 rfl (lv_at hl 1 rfl) ?_
  refine lv_iload_n hx hb dX4_take_20 rfl (lv_at hl 2 rfl) ?_
  refine r_callp (As := [.int k]) (rest := []) C w hml hl.1 (q_movedTwice l D cI cZ cN cO A mm d n _ k ok hk) kM_X4_152 kI_X4_movedTwice kS_X4_movedTwice kD_X4_movedTwice (show yX4_movedTwice.cls = RX4 ∧ yX4_movedTwice.cls ≠ "java/lang/invoke/MethodHandle" ∧ yX4_movedTwice.cls ≠ "java/lang/invoke/VarHandle" ∧ (parseMethodDescriptor yX4_movedTwice.desc).map (fun d => d.parameters.length) = some 1 from by decide +kernel) rfl rfl ⟨Nat.le_of_ble_eq_true rfl, Nat.le_of_ble_eq_true rfl⟩ rfl (lv_room (Nat.le_of_ble_eq_true rfl)) dX4_take_21 ⟨Nat.zero_le _, Nat.zero_le _⟩ (fun r_2 hr_2 => ?_)
  obtain rfl : r_2 = nI j := rMv_uniq hj hm hlt hr_2
  refine lv_istore_n (lv' := [(3, _), (2, _), (0, _), (1, _)]) C.1 C.2.1 dX4_take_24 rfl hl (by decide) rfl (fun ls hl => ?_)
  refine lv_iload_n hx hb dX4_take_25 rfl (lv_at hl 0 rfl) ?_
  refine lv_iconst (v := (-1)) hx hb dX4_take_26 (by decide) ?_
  refine lv_icmp_ne (tgt := 34) hx hb dX4_take_27 (by decide) (fun c_27 => ?_) (fun c_27 => absurd c_27 (nI_nm1 (by have := ok.2.1; omega)))
  refine lv_aload_n hx hb dX4_take_34 rfl (lv_at hl 2 rfl) ?_
  refine r_get_20 C w dX4_take_35 ?_
  refine lv_sipush (v := 512) hx hb dX4_take_38 (by decide) ?_
  refine lv_iload_n hx hb dX4_take_41 rfl (lv_at hl 0 rfl) ?_
  refine lv_imul hx hb dX4_take_42 ?_
  refine lv_topi (fun t_3 et_3 => ?_)
  refine lv_aload_n hx hb dX4_take_43 rfl (lv_at hl 2 rfl) ?_
  refine r_get_22 C w dX4_take_44 ?_
  refine lv_bipush (v := 31) hx hb dX4_take_47 (by decide) ?_
  refine lv_iload_n hx hb dX4_take_49 rfl (lv_at hl 3 rfl) ?_
  refine lv_imul hx hb dX4_take_50 ?_
  refine lv_topi (fun t_4 et_4 => ?_)
  refine lv_iload_n hx hb dX4_take_51 rfl (lv_at hl 0 rfl) ?_
  refine lv_iadd hx hb dX4_take_52 ?_
  refine lv_topi (fun t_5 et_5 => ?_)
  refine r_ld_22 C w (by rw [et_5, et_4]; exact gIx (c := 31) (N := 31) rfl (by decide) (ok.n31 hk) (vp_in_nI (by have := ok.2.1; omega) (by omega))) dX4_take_53 ?_
  refine lv_topi (fun t_6 et_6 => ?_)
  refine lv_iadd hx hb dX4_take_54 ?_
  refine lv_topi (fun t_7 et_7 => ?_)
  refine lv_iconst (v := 1) hx hb dX4_take_55 (by decide) ?_
  refine lv_isub hx hb dX4_take_56 ?_
  refine lv_topi (fun t_8 et_8 => ?_)
  subst et_8 et_7 et_6 et_5 et_4 et_3
  refine r_ld_20 C w (gLog (ok.n31 (vp_in_nI hj (by have := ok.2.1; omega))) (ok.at 22 rfl _) hc1) dX4_take_57 ?_
  refine lv_topi (fun g0 eg0 => ?_)
  have hF : vp_in g0 512 := by rw [eg0]; exact ok.at 20 rfl _
  refine lv_istore (lv' := [(4, _), (3, _), (2, _), (0, _), (1, _)]) C.1 C.2.1 dX4_take_58 hl (by decide) rfl (fun ls hl => ?_)
  refine lv_iconst (v := 0) hx hb dX4_take_60 (by decide) ?_
  refine lv_istore (lv' := [(5, _), (4, _), (3, _), (2, _), (0, _), (1, _)]) C.1 C.2.1 dX4_take_61 hl (by decide) rfl (fun ls hl => ?_)
  rw [← nI_0] at hl
  refine ql_viewB C hml ok.2.1 hk hO hF hj ?_ n 0 (by omega) _ _ w ok ls (lv_sub hl [0, 1, 2, 3, 4, 5] rfl)
  intro H locs w ok ls hl
  refine lv_aload_n hx hb dX4_take_123 rfl (lv_at hl 4 rfl) ?_
  refine r_get_36 C w dX4_take_124 ?_
  refine lv_iload_n hx hb dX4_take_127 rfl (lv_at hl 3 rfl) ?_
  refine lv_iconst (v := 1) hx hb dX4_take_128 (by decide) ?_
  refine r_st_36 (v := 1) C w rfl hO dX4_take_129 (fun H locs w => ?_)
  have ok : rOK n _ := rOK.st ok (k := 36) (i := o.toNatClampNeg) (v := 1) (fun b hb => by cases hb)
  refine lv_aload_n hx hb dX4_take_130 rfl (lv_at hl 4 rfl) ?_
  refine r_get_33 C w dX4_take_131 ?_
  refine lv_iload_n hx hb dX4_take_134 rfl (lv_at hl 3 rfl) ?_
  refine lv_iload_n hx hb dX4_take_135 rfl (lv_at hl 2 rfl) ?_
  refine r_st_33 C w hO dX4_take_136 (fun H locs w => ?_)
  have ok : rOK n _ := rOK.st ok (k := 33) (i := o.toNatClampNeg) (v := (nI j)) (fun b hb => by cases hb)
  refine lv_aload_n hx hb dX4_take_137 rfl (lv_at hl 4 rfl) ?_
  refine lv_dup hx hb dX4_take_138 rfl ?_
  refine r_get_38 C w dX4_take_139 ?_
  refine lv_topi (fun t_9 et_9 => ?_)
  refine lv_iload_n hx hb dX4_take_142 rfl (lv_at hl 2 rfl) ?_
  refine lv_iconst (v := (-1)) hx hb dX4_take_143 (by decide) ?_
  refine lv_icmp_ne (tgt := 151) hx hb dX4_take_144 (by decide) (fun c_144 => ?_) (fun c_144 => absurd c_144 (nI_nm1 (by have := ok.2.1; omega)))
  refine lv_iconst (v := 1) hx hb dX4_take_151 (by decide) ?_
  refine lv_iadd hx hb dX4_take_152 ?_
  refine lv_topi (fun t_10 et_10 => ?_)
  refine r_put_38 C w dX4_take_153 (fun H locs w => ?_)
  have ok : rOK n _ := rOK.put ok (k := 38) (v := t_10) (by decide) (fun h => absurd h (by decide)) (fun h => absurd h (by decide))
  subst et_10 et_9
  obtain ⟨σ1, hσ1⟩ : ∃ z, z = rTkB n k j σ := ⟨_, rfl⟩
  have w : rWd D cI cZ A s.heap mm d σ1 H locs := by rw [hσ1]; unfold rTkB; rw [← eo, show rFm k j σ = g0 from eg0.symm]; exact w
  have ok : rOK n σ1 := by rw [hσ1]; unfold rTkB; rw [← eo, show rFm k j σ = g0 from eg0.symm]; exact ok
  refine lv_aload_n hx hb dX4_take_156 rfl (lv_at hl 4 rfl) ?_
  refine lv_iload_n hx hb dX4_take_157 rfl (lv_at hl 3 rfl) ?_
  have e27 : ∀ r, r ≠ 35 → r ≠ 36 → r ≠ 33 → σ1.2 r = σ.2 r := fun r h1 h2 h3 => by rw [hσ1]; exact rTkB_row h1 h2 h3
  refine r_callp (As := [.int o]) (rest := []) C w hml hl.1 (q_isQuery l D cI cZ cN cO A mm d n _ o ok hO) kM_X4_159 kI_X4_isQuery kS_X4_isQuery kD_X4_isQuery (show yX4_isQuery.cls = RX4 ∧ yX4_isQuery.cls ≠ "java/lang/invoke/MethodHandle" ∧ yX4_isQuery.cls ≠ "java/lang/invoke/VarHandle" ∧ (parseMethodDescriptor yX4_isQuery.desc).map (fun d => d.parameters.length) = some 1 from by decide +kernel) rfl rfl ⟨Nat.le_of_ble_eq_true rfl, Nat.le_of_ble_eq_true rfl⟩ rfl (lv_room (Nat.le_of_ble_eq_true rfl)) dX4_take_158 ⟨Nat.zero_le _, Nat.zero_le _⟩ (fun r_11 hr_11 => ?_)
  have hr_11 : r_11 = if ¬ σ.2 27 o.toNatClampNeg < 10 then 1 else 0 := by rw [← e27 27 (by decide) (by decide) (by decide)]; exact hr_11
  obtain rfl : r_11 = 1 := by rw [hr_11, if_pos (by rw [eo]; exact hq)]
  refine lv_if_eq (tgt := 170) hx hb dX4_take_161 (by decide) (fun c_161 => absurd c_161 (by decide)) (fun c_161 => ?_)
  refine lv_aload_n hx hb dX4_take_164 rfl (lv_at hl 4 rfl) ?_
  refine lv_iload_n hx hb dX4_take_165 rfl (lv_at hl 5 rfl) ?_
  refine r_callv (As := [.int k]) (rest := []) C w hml hl.1 (q_ends l D cI cZ cN cO A mm d n _ k ok hk) kM_X4_162 kI_X4_ends kS_X4_ends kD_X4_ends (show yX4_ends.cls = RX4 ∧ yX4_ends.cls ≠ "java/lang/invoke/MethodHandle" ∧ yX4_ends.cls ≠ "java/lang/invoke/VarHandle" ∧ (parseMethodDescriptor yX4_ends.desc).map (fun d => d.parameters.length) = some 1 from by decide +kernel) rfl rfl ⟨Nat.le_of_ble_eq_true rfl, Nat.le_of_ble_eq_true rfl⟩ rfl (lv_room (Nat.le_of_ble_eq_true rfl)) dX4_take_166 ⟨Nat.zero_le _, Nat.zero_le _⟩ (fun H locs w ok => ?_)
  rw [hσ1] at w ok
  exact W.vret hx hb hr (fun t ht hW => ⟨⟨(), rfl, trivial, ⟨by rw [ht]; exact w.1, va_K.moved hW.alike hK, w.2.1⟩, ok⟩, w.2.2.F ht⟩) w.2.2.2.2 dX4_take_169
set_option maxHeartbeats 4000000 in
set_option maxRecDepth 100000 in
theorem q_takeBu (l : Launch) (D : va_G) (cI cZ cN cO : ClassId) (A : Nat → Prop) (mm : Nat) (d : Nat → Nat) (n : Nat) (σ : RS) (k : Int32) (j : Nat) (ok : rOK n σ) (hk : vp_in k n) (hns : ¬ rSame n k σ) (hj : j < n) (hm : rMv k σ j) (hlt : ∀ i, i < j → ¬ rMv k σ i) (hc1 : ¬ σ.2 22 ((31 : Int32) * k + nI j).toNatClampNeg < 1) (hq : σ.2 27 (σ.2 16 k.toNatClampNeg).toNatClampNeg < 10) (hlen : vp_in (σ.2 19 k.toNatClampNeg + 1) 512) (hrm : rRm σ n) : Met l yX4_take (.code yX4_take cX4_take 6 none :: gw) ({ frames := 2, cells := 0, slots := 0, locals := 51 }) (va_Pc (.ref mm :: [.int k]) (rH D cI cZ cN cO A mm d σ)) (va_Qv (fun _ : Unit => True) (fun _ t => rH D cI cZ cN cO A mm d (rWr n k (σ.2 16 k.toNatClampNeg) (rTkB n k j σ)) t ∧ rOK n (rWr n k (σ.2 16 k.toNatClampNeg) (rTkB n k j σ))) A) 0 0 A := by
  refine Met.ofW (cc := cX4_take) (maxL := 6) (ret := none) (by decide) rfl ?_
  intro p e s m args below meth c s₁ B hml hv
  obtain ⟨rfl, hP, hK, hD⟩ := hv
  have hx := B.exec
  have hb := B.bytes
  have hr := B.returns
  have hts := atoms_spec (ws := (.code yX4_take cX4_take 6 none :: gw)) B.pre
  have hg : ∀ w ∈ gw, w.before _ s = true := fun w h => hts w (List.mem_cons_of_mem _ h)
  have hown : s.vm.findClass RX4 = some m.cls := findClass_of_methodNamed B.named
  have hlocks := B.notSynchronized
  have C : Cx p c cX4_take s m _ RX4 D (gTy cI cZ cN cO) := ⟨hx, hb, hown, hg, hK⟩
  have w : rWd D cI cZ A s.heap mm d σ s.heap [] := ⟨hP, hD, va_S.rf⟩
  have hl := lv_entry ([.ref mm, .int k]) (n := 6) (Nat.le_of_ble_eq_true rfl)
  rw [lg_entry_eq]
  generalize (lg_sl ([.ref mm, .int k]) ++ List.replicate (6 - (lg_sl ([.ref mm, .int k])).length) Slot.unset).toArray = ls at hl ⊢
  have hl : lv_has ls 6 [(0, .ref mm), (1, .int k)] := hl
  refine lv_aload_n hx hb dX4_take_0 rfl (lv_at hl 0 rfl) ?_
  refine r_get_16 C w dX4_take_1 ?_
  refine lv_iload_n hx hb dX4_take_4 rfl (lv_at hl 1 rfl) ?_
  refine r_ld_16 C w (ok.n31 hk) dX4_take_5 ?_
  refine lv_topi (fun o eo => ?_)
  have hO : vp_in o 512 := by rw [eo]; exact ok.at 16 rfl _
  refine lv_istore_n (lv' := [(2, _), (0, _), (1, _)]) C.1 C.2.1 dX4_take_6 rfl hl (by decide) rfl (fun ls hl => ?_)
  refine lv_aload_n hx hb dX4_take_7 rfl (lv_at hl 1 rfl) ?_
  refine lv_iload_n hx hb dX4_take_8 rfl (lv_at hl 2 rfl) ?_
  refine r_callp (As := [.int k]) (rest := []) C w hml hl.1 (q_isSame l D cI cZ cN cO A mm d n _ k ok hk) kM_X4_149 kI_X4_isSame kS_X4_isSame kD_X4_isSame (show yX4_isSame.cls = RX4 ∧ yX4_isSame.cls ≠ "java/lang/invoke/MethodHandle" ∧ yX4_isSame.cls ≠ "java/lang/invoke/VarHandle" ∧ (parseMethodDescriptor yX4_isSame.desc).map (fun d => d.parameters.length) = some 1 from by decide +kernel) rfl rfl ⟨Nat.le_of_ble_eq_true rfl, Nat.le_of_ble_eq_true rfl⟩ rfl (lv_room (Nat.le_of_ble_eq_true rfl)) dX4_take_9 ⟨Nat.zero_le _, Nat.zero_le _⟩ (fun r_1 hr_1 => ?_)
  obtain rfl : r_1 = 0 := hr_1.elim (fun h => absurd h.2 hns) (fun h => h.1)
  refine lv_if_eq (tgt := 19) hx hb dX4_take_12 (by decide) (fun c_12 => ?_) (fun c_12 => absurd rfl c_12)
  refine lv_aload_n hx hb dX4_take_19 rfl (lv_at hl 1 rfl) ?_
  refine lv_iload_n hx hb dX4_take_20 rfl (lv_at hl 2 rfl) ?_
  refine r_callp (As := [.int k]) (rest := []) C w hml hl.1 (q_movedTwice l D cI cZ cN cO A mm d n _ k ok hk) kM_X4_152 kI_X4_movedTwice kS_X4_movedTwice kD_X4_movedTwice (show yX4_movedTwice.cls = RX4 ∧ yX4_movedTwice.cls ≠ "java/lang/invoke/MethodHandle" ∧ yX4_movedTwice.cls ≠ "java/lang/invoke/VarHandle" ∧ (parseMethodDescriptor yX4_movedTwice.desc).map (fun d => d.parameters.length) = some 1 from by decide +kernel) rfl rfl ⟨Nat.le_of_ble_eq_true rfl, Nat.le_of_ble_eq_true rfl⟩ rfl (lv_room (Nat.le_of_ble_eq_true rfl)) dX4_take_21 ⟨Nat.zero_le _, Nat.zero_le _⟩ (fun r_2 hr_2 => ?_)
  obtain rfl : r_2 = nI j := rMv_uniq hj hm hlt hr_2
  refine lv_istore_n (lv' := [(3, _), (2, _), (0, _), (1, _)]) C.1 C.2.1 dX4_take_24 rfl hl (by decide) rfl (fun ls hl => ?_)
  refine lv_iload_n hx hb dX4_take_25 rfl (lv_at hl 0 rfl) ?_
  refine lv_iconst (v := (-1)) hx hb dX4_take_26 (by decide) ?_
  refine lv_icmp_ne (tgt := 34) hx hb dX4_take_27 (by decide) (fun c_27 => ?_) (fun c_27 => absurd c_27 (nI_nm1 (by have := ok.2.1; omega)))
  refine lv_aload_n hx hb dX4_take_34 rfl (lv_at hl 2 rfl) ?_
  refine r_get_20 C w dX4_take_35 ?_
  refine lv_sipush (v := 512) hx hb dX4_take_38 (by decide) ?_
  refine lv_iload_n hx hb dX4_take_41 rfl (lv_at hl 0 rfl) ?_
  refine lv_imul hx hb dX4_take_42 ?_
  refine lv_topi (fun t_3 et_3 => ?_)
  refine lv_aload_n hx hb dX4_take_43 rfl (lv_at hl 2 rfl) ?_
  refine r_get_22 C w dX4_take_44 ?_
  refine lv_bipush (v := 31) hx hb dX4_take_47 (by decide) ?_
  refine lv_iload_n hx hb dX4_take_49 rfl (lv_at hl 3 rfl) ?_
  refine lv_imul hx hb dX4_take_50 ?_
  refine lv_topi (fun t_4 et_4 => ?_)
  refine lv_iload_n hx hb dX4_take_51 rfl (lv_at hl 0 rfl) ?_
  refine lv_iadd hx hb dX4_take_52 ?_
  refine lv_topi (fun t_5 et_5 => ?_)
  refine r_ld_22 C w (by rw [et_5, et_4]; exact gIx (c := 31) (N := 31) rfl (by decide) (ok.n31 hk) (vp_in_nI (by have := ok.2.1; omega) (by omega))) dX4_take_53 ?_
  refine lv_topi (fun t_6 et_6 => ?_)
  refine lv_iadd hx hb dX4_take_54 ?_
  refine lv_topi (fun t_7 et_7 => ?_)
  refine lv_iconst (v := 1) hx hb dX4_take_55 (by decide) ?_
  refine lv_isub hx hb dX4_take_56 ?_
  refine lv_topi (fun t_8 et_8 => ?_)
  subst et_8 et_7 et_6 et_5 et_4 et_3
  refine r_ld_20 C w (gLog (ok.n31 (vp_in_nI hj (by have := ok.2.1; omega))) (ok.at 22 rfl _) hc1) dX4_take_57 ?_
  refine lv_topi (fun g0 eg0 => ?_)
  have hF : vp_in g0 512 := by rw [eg0]; exact ok.at 20 rfl _
  refine lv_istore (lv' := [(4, _), (3, _), (2, _), (0, _), (1, _)]) C.1 C.2.1 dX4_take_58 hl (by decide) rfl (fun ls hl => ?_)
  refine lv_iconst (v := 0) hx hb dX4_take_60 (by decide) ?_
  refine lv_istore (lv' := [(5, _), (4, _), (3, _), (2, _), (0, _), (1, _)]) C.1 C.2.1 dX4_take_61 hl (by decide) rfl (fun ls hl => ?_)
  rw [← nI_0] at hl
  refine ql_viewB C hml ok.2.1 hk hO hF hj ?_ n 0 (by omega) _ _ w ok ls (lv_sub hl [0, 1, 2, 3, 4, 5] rfl)
  intro H locs w ok ls hl
  refine lv_aload_n hx hb dX4_take_123 rfl (lv_at hl 4 rfl) ?_
  refine r_get_36 C w dX4_take_124 ?_
  refine lv_iload_n hx hb dX4_take_127 rfl (lv_at hl 3 rfl) ?_
  refine lv_iconst (v := 1) hx hb dX4_take_128 (by decide) ?_
  refine r_st_36 (v := 1) C w rfl hO dX4_take_129 (fun H locs w => ?_)
  have ok : rOK n _ := rOK.st ok (k := 36) (i := o.toNatClampNeg) (v := 1) (fun b hb => by cases hb)
  refine lv_aload_n hx hb dX4_take_130 rfl (lv_at hl 4 rfl) ?_
  refine r_get_33 C w dX4_take_131 ?_
  refine lv_iload_n hx hb dX4_take_134 rfl (lv_at hl 3 rfl) ?_
  refine lv_iload_n hx hb dX4_take_135 rfl (lv_at hl 2 rfl) ?_
  refine r_st_33 C w hO dX4_take_136 (fun H locs w => ?_)
  have ok : rOK n _ := rOK.st ok (k := 33) (i := o.toNatClampNeg) (v := (nI j)) (fun b hb => by cases hb)
  refine lv_aload_n hx hb dX4_take_137 rfl (lv_at hl 4 rfl) ?_
  refine lv_dup hx hb dX4_take_138 rfl ?_
  refine r_get_38 C w dX4_take_139 ?_
  refine lv_topi (fun t_9 et_9 => ?_)
  refine lv_iload_n hx hb dX4_take_142 rfl (lv_at hl 2 rfl) ?_
  refine lv_iconst (v := (-1)) hx hb dX4_take_143 (by decide) ?_
  refine lv_icmp_ne (tgt := 151) hx hb dX4_take_144 (by decide) (fun c_144 => ?_) (fun c_144 => absurd c_144 (nI_nm1 (by have := ok.2.1; omega)))
  refine lv_iconst (v := 1) hx hb dX4_take_151 (by decide) ?_
  refine lv_iadd hx hb dX4_take_152 ?_
  refine lv_topi (fun t_10 et_10 => ?_)
  refine r_put_38 C w dX4_take_153 (fun H locs w => ?_)
  have ok : rOK n _ := rOK.put ok (k := 38) (v := t_10) (by decide) (fun h => absurd h (by decide)) (fun h => absurd h (by decide))
  subst et_10 et_9
  obtain ⟨σ1, hσ1⟩ : ∃ z, z = rTkB n k j σ := ⟨_, rfl⟩
  have w : rWd D cI cZ A s.heap mm d σ1 H locs := by rw [hσ1]; unfold rTkB; rw [← eo, show rFm k j σ = g0 from eg0.symm]; exact w
  have ok : rOK n σ1 := by rw [hσ1]; unfold rTkB; rw [← eo, show rFm k j σ = g0 from eg0.symm]; exact ok
  refine lv_aload_n hx hb dX4_take_156 rfl (lv_at hl 4 rfl) ?_
  refine lv_iload_n hx hb dX4_take_157 rfl (lv_at hl 3 rfl) ?_
  have e27 : ∀ r, r ≠ 35 → r ≠ 36 → r ≠ 33 → σ1.2 r = σ.2 r := fun r h1 h2 h3 => by rw [hσ1]; exact rTkB_row h1 h2 h3
  refine r_callp (As := [.int o]) (rest := []) C w hml hl.1 (q_isQuery l D cI cZ cN cO A mm d n _ o ok hO) kM_X4_159 kI_X4_isQuery kS_X4_isQuery kD_X4_isQuery (show yX4_isQuery.cls = RX4 ∧ yX4_isQuery.cls ≠ "java/lang/invoke/MethodHandle" ∧ yX4_isQuery.cls ≠ "java/lang/invoke/VarHandle" ∧ (parseMethodDescriptor yX4_isQuery.desc).map (fun d => d.parameters.length) = some 1 from by decide +kernel) rfl rfl ⟨Nat.le_of_ble_eq_true rfl, Nat.le_of_ble_eq_true rfl⟩ rfl (lv_room (Nat.le_of_ble_eq_true rfl)) dX4_take_158 ⟨Nat.zero_le _, Nat.zero_le _⟩ (fun r_11 hr_11 => ?_)
  have hr_11 : r_11 = if ¬ σ.2 27 o.toNatClampNeg < 10 then 1 else 0 := by rw [← e27 27 (by decide) (by decide) (by decide)]; exact hr_11
  obtain rfl : r_11 = 0 := by rw [hr_11, if_neg (fun z => z (by rw [eo]; exact hq))]
  refine lv_if_eq (tgt := 170) hx hb dX4_take_161 (by decide) (fun c_161 => ?_) (fun c_161 => absurd rfl c_161)
  refine lv_aload_n hx hb dX4_take_170 rfl (lv_at hl 4 rfl) ?_
  refine r_get_20 C w dX4_take_171 ?_
  refine lv_sipush (v := 512) hx hb dX4_take_174 (by decide) ?_
  refine lv_iload_n hx hb dX4_take_177 rfl (lv_at hl 5 rfl) ?_
  refine lv_imul hx hb dX4_take_178 ?_
  refine lv_topi (fun t_12 et_12 => ?_)
  refine lv_aload_n hx hb dX4_take_179 rfl (lv_at hl 4 rfl) ?_
  refine r_get_19 C w dX4_take_180 ?_
  refine lv_iload_n hx hb dX4_take_183 rfl (lv_at hl 5 rfl) ?_
  refine r_ld_19 C w (ok.n31 hk) dX4_take_184 ?_
  refine lv_topi (fun t_13 et_13 => ?_)
  have hle : vp_in t_13 512 := by rw [et_13]; exact ok.at 19 rfl _
  refine lv_iadd hx hb dX4_take_185 ?_
  refine lv_topi (fun t_14 et_14 => ?_)
  refine lv_iload_n hx hb dX4_take_186 rfl (lv_at hl 3 rfl) ?_
  refine r_st_20 C w (by rw [et_14, et_12]; exact gIx (c := 512) (N := 31) rfl (by decide) (ok.n31 hk) hle) dX4_take_187 (fun H locs w => ?_)
  have ok : rOK n _ := rOK.st ok (k := 20) (i := t_14.toNatClampNeg) (v := o) (fun b hb => by cases hb; exact hO)
  refine lv_aload_n hx hb dX4_take_188 rfl (lv_at hl 4 rfl) ?_
  refine r_get_19 C w dX4_take_189 ?_
  refine lv_iload_n hx hb dX4_take_192 rfl (lv_at hl 5 rfl) ?_
  refine lv_dup2_11 hx hb dX4_take_193 rfl rfl ?_
  refine r_ld_19 C w (ok.n31 hk) dX4_take_194 ?_
  refine lv_topi (fun t_15 et_15 => ?_)
  have hle : vp_in t_15 512 := by rw [et_15]; exact ok.at 19 rfl _
  refine lv_iconst (v := 1) hx hb dX4_take_195 (by decide) ?_
  refine lv_iadd hx hb dX4_take_196 ?_
  refine lv_topi (fun t_16 et_16 => ?_)
  refine r_st_19 C w (ok.n31 hk) dX4_take_197 (fun H locs w => ?_)
  have ok : rOK n _ := rOK.st ok (k := 19) (i := k.toNatClampNeg) (v := t_16) (fun b hb => by cases hb; rw [et_16, et_15]; show vp_in (σ1.2 19 k.toNatClampNeg + 1) 512; rw [e27 19 (by decide) (by decide) (by decide)]; exact hlen)
  refine lv_aload_n hx hb dX4_take_198 rfl (lv_at hl 4 rfl) ?_
  refine r_get_34 C w dX4_take_199 ?_
  refine lv_iload_n hx hb dX4_take_202 rfl (lv_at hl 3 rfl) ?_
  refine lv_aload_n hx hb dX4_take_203 rfl (lv_at hl 4 rfl) ?_
  refine r_get_19 C w dX4_take_204 ?_
  refine lv_iload_n hx hb dX4_take_207 rfl (lv_at hl 5 rfl) ?_
  refine r_ld_19 C w (ok.n31 hk) dX4_take_208 ?_
  refine lv_topi (fun t_17 et_17 => ?_)
  refine r_st_34 C w hO dX4_take_209 (fun H locs w => ?_)
  have ok : rOK n _ := rOK.st ok (k := 34) (i := o.toNatClampNeg) (v := t_17) (fun b hb => by cases hb)
  refine lv_iconst (v := 0) hx hb dX4_take_210 (by decide) ?_
  refine lv_istore (lv' := [(5, _), (4, _), (3, _), (2, _), (0, _), (1, _)]) C.1 C.2.1 dX4_take_211 hl (by decide) rfl (fun ls hl => ?_)
  subst et_17 et_16 et_15 et_14 et_13 et_12
  obtain ⟨σ2, hσ2⟩ : ∃ z, z = rLg k o σ1 := ⟨_, rfl⟩
  have w : rWd D cI cZ A s.heap mm d σ2 H locs := by rw [hσ2]; exact w
  have ok : rOK n σ2 := by rw [hσ2]; exact ok
  rw [← nI_0] at hl
  refine ql_own C hml ok.2.1 hk ?_ n 0 (by omega) _ _ w ok ls (lv_sub hl [0, 4, 5] rfl)
  intro H locs w ok ls hl
  refine lv_aload_n hx hb dX4_take_256 rfl (lv_at hl 1 rfl) ?_
  refine r_get_14 C w dX4_take_257 ?_
  refine lv_iload_n hx hb dX4_take_260 rfl (lv_at hl 2 rfl) ?_
  refine lv_iconst (v := 3) hx hb dX4_take_261 (by decide) ?_
  refine r_st_14 C w (ok.n31 hk) dX4_take_262 (fun H locs w => ?_)
  have ok : rOK n _ := rOK.st ok (k := 14) (i := k.toNatClampNeg) (v := 3) (fun b hb => by cases hb)
  refine lv_aload_n hx hb dX4_take_263 rfl (lv_at hl 1 rfl) ?_
  refine lv_iload_n hx hb dX4_take_264 rfl (lv_at hl 2 rfl) ?_
  refine lv_iconst (v := 2) hx hb dX4_take_265 (by decide) ?_
  refine lv_aload_n hx hb dX4_take_266 rfl (lv_at hl 1 rfl) ?_
  refine r_get_21 C w dX4_take_267 ?_
  refine r_callv (As := [.int k, .int 2, .ref ((d 21))]) (rest := []) C w hml hl.1 (q_toS21 l D cI cZ cN cO A mm d n _ k ok hk (rRm.own (by rw [hσ2, hσ1]; exact hrm.tkB.lg))) kM_X4_125 kI_X4_toAll kS_X4_toAll kD_X4_toAll (show yX4_toAll.cls = RX4 ∧ yX4_toAll.cls ≠ "java/lang/invoke/MethodHandle" ∧ yX4_toAll.cls ≠ "java/lang/invoke/VarHandle" ∧ (parseMethodDescriptor yX4_toAll.desc).map (fun d => d.parameters.length) = some 3 from by decide +kernel) rfl rfl ⟨Nat.le_of_ble_eq_true rfl, Nat.le_of_ble_eq_true rfl⟩ rfl (lv_room (Nat.le_of_ble_eq_true rfl)) dX4_take_270 ⟨Nat.zero_le _, Nat.zero_le _⟩ (fun H locs w ok => ?_)
  subst hσ2
  subst hσ1
  subst eo
  exact W.vret hx hb hr (fun t ht hW => ⟨⟨(), rfl, trivial, ⟨by rw [ht]; exact w.1, va_K.moved hW.alike hK, w.2.1⟩, ok⟩, w.2.2.F ht⟩) w.2.2.2.2 dX4_take_273
end
section
/-- a choice that nothing decides by running -/
noncomputable def cif {α : Type} (P : Prop) (a b : α) : α := @ite α P (Classical.propDecidable P) a b
theorem cif_pos {α : Type} {P : Prop} {a b : α} (h : P) : cif P a b = a := by unfold cif; exact if_pos h
theorem cif_neg {α : Type} {P : Prop} {a b : α} (h : ¬ P) : cif P a b = b := by unfold cif; exact if_neg h
/-- the least place with P from i on, i + f if there is none -/
noncomputable def lst (P : Nat → Prop) : Nat → Nat → Nat
  | 0, i => i
  | f + 1, i => cif (P i) i (lst P f (i + 1))
theorem lst_spec (P : Nat → Prop) : ∀ (f i : Nat), i ≤ lst P f i ∧ lst P f i ≤ i + f ∧ (∀ j, i ≤ j → j < lst P f i → ¬ P j) ∧ (lst P f i < i + f → P (lst P f i)) := by
  intro f
  induction f with
  | zero => intro i; exact ⟨Nat.le_refl _, Nat.le_refl _, fun j h1 h2 => absurd h2 (Nat.not_lt.mpr h1), fun h => absurd h (Nat.lt_irrefl _)⟩
  | succ f ih =>
    intro i
    unfold lst
    by_cases h : P i
    · rw [cif_pos h]; exact ⟨Nat.le_refl _, by omega, fun j h1 h2 => absurd h2 (Nat.not_lt.mpr h1), fun _ => h⟩
    · rw [cif_neg h]
      obtain ⟨h1, h2, h3, h4⟩ := ih (i + 1)
      refine ⟨by omega, by omega, fun j h5 h6 => ?_, fun h5 => h4 (by omega)⟩
      by_cases hj : j = i
      · subst hj; exact h
      · exact h3 j (by omega) h6
theorem lst_of {P : Nat → Prop} {n : Nat} (h : ∃ i, i < n ∧ P i) : lst P n 0 < n ∧ P (lst P n 0) ∧ ∀ i, i < lst P n 0 → ¬ P i := by
  obtain ⟨-, h2, h3, h4⟩ := lst_spec P n 0
  have hlt : lst P n 0 < n := by
    obtain ⟨i, hi, hp⟩ := h
    rcases Nat.lt_or_ge (lst P n 0) n with q | q
    · exact q
    · exact absurd hp (h3 i (Nat.zero_le _) (by omega))
  exact ⟨hlt, h4 (by omega), fun i hi => h3 i (Nat.zero_le _) hi⟩
def rStep (k : Int32) (i : Nat) (σ : RS) : RS := rA (rA σ 25 ((31 : Int32) * k + nI i).toNatClampNeg (σ.2 25 ((31 : Int32) * k + nI i).toNatClampNeg + (if σ.2 24 k.toNatClampNeg = 0 then 0 else if σ.2 23 ((31 : Int32) * k + nI i).toNatClampNeg = σ.2 22 ((31 : Int32) * k + nI i).toNatClampNeg then 0 else 1))) 23 ((31 : Int32) * k + nI i).toNatClampNeg (σ.2 22 ((31 : Int32) * k + nI i).toNatClampNeg)
def rThN (n : Nat) (k : Int32) (σ : RS) : RS := rCol n k (rA (itr (rStep k) n σ) 24 k.toNatClampNeg 1)
/-- the collect of NODE k is through -/
noncomputable def rThr (n : Nat) (k : Int32) (σ : RS) : RS := cif (rSeen n k σ) (cif (rSame n k σ) (cif (σ.2 27 (σ.2 16 k.toNatClampNeg).toNatClampNeg < 10) (rWr n k (σ.2 16 k.toNatClampNeg) (rTkS n k σ)) (rEnds k (rTkS n k σ))) (cif (σ.2 27 (σ.2 16 k.toNatClampNeg).toNatClampNeg < 10) (rWr n k (σ.2 16 k.toNatClampNeg) (rTkB n k (lst (rMv k σ) n 0) σ)) (rEnds k (rTkB n k (lst (rMv k σ) n 0) σ)))) (rThN n k σ)
/-- what it wants of the state, by its road -/
def rThOk (n : Nat) (k : Int32) (σ : RS) : Prop := (rSeen n k σ → ¬ rSame n k σ → ¬ σ.2 22 ((31 : Int32) * k + nI (lst (rMv k σ) n 0)).toNatClampNeg < 1) ∧ (rSeen n k σ → σ.2 27 (σ.2 16 k.toNatClampNeg).toNatClampNeg < 10 → vp_in (σ.2 19 k.toNatClampNeg + 1) 512 ∧ rRm σ n) ∧ (¬ rSeen n k σ → rRm σ n)
set_option maxHeartbeats 4000000 in
set_option maxRecDepth 100000 in
theorem ql_through {p : Program} {l : Launch} {e : Env} {R : Room} {s : State} {m : MethodId} {args : Array Value} {below : List Frame} {meth : Method} {c : Code} {cells slots : Nat} {Q : State → Prop} {D : va_G} {cI cZ cN cO : ClassId} {A : Nat → Prop} {H0 : Heap} {mm : Nat} {d : Nat → Nat} {n : Nat} (C : Cx p c cX4_through s m args RX4 D (gTy cI cZ cN cO)) (hml : c.maxLocals = 4) {σ : RS} {k : Int32} (hn : n ≤ 31) (hk : vp_in k n) (kk : ∀ (H : Heap) (locs : List Loc), rWd D cI cZ A H0 mm d (itr (rStep k) n σ) H locs → rOK n (itr (rStep k) n σ) → ∀ ls : Array Slot, lv_has ls 4 [(2, .int (nI n)), (0, .ref mm), (1, .int k)] → W p l e R s m args below meth c H locs cells slots Q (F0 m 87 ls [])) : ∀ (fu i : Nat), i + fu = n → ∀ (H : Heap) (locs : List Loc), rWd D cI cZ A H0 mm d (itr (rStep k) i σ) H locs → rOK n (itr (rStep k) i σ) → ∀ ls : Array Slot, lv_has ls 4 [(2, .int (nI i)), (0, .ref mm), (1, .int k)] → W p l e R s m args below meth c H locs cells slots Q (F0 m 16 ls []) := by
  intro fu
  induction fu with
  | zero =>
    intro i hik
    intro H locs w ok ls hl
    have hx := C.1
    have hb := C.2.1
    have hi : n = i := by omega
    subst hi
    refine lv_iload_n hx hb dX4_through_16 rfl (lv_at hl 0 rfl) ?_
    refine lv_aload_n hx hb dX4_through_17 rfl (lv_at hl 1 rfl) ?_
    refine r_get_0 C w dX4_through_18 ?_
    rw [ok.nn]
    refine lv_icmp_ge (tgt := 87) hx hb dX4_through_21 (by decide) (fun c_21 => ?_) (fun c_21 => absurd (Int32.le_refl _) c_21)
    exact kk _ _ w ok ls (lv_sub hl [0, 1, 2] rfl)
  | succ fu ih =>
    intro i hik
    intro H locs w ok ls hl
    have hx := C.1
    have hb := C.2.1
    have hi : i < n := by omega
    refine lv_iload_n hx hb dX4_through_16 rfl (lv_at hl 0 rfl) ?_
    refine lv_aload_n hx hb dX4_through_17 rfl (lv_at hl 1 rfl) ?_
    refine r_get_0 C w dX4_through_18 ?_
    rw [ok.nn]
    refine lv_icmp_ge (tgt := 87) hx hb dX4_through_21 (by decide) (fun c_21 => absurd c_21 (nI_ge hi (by omega))) (fun c_21 => ?_)
    refine lv_bipush (v := 31) hx hb dX4_through_24 (by decide) ?_
    refine lv_iload_n hx hb dX4_through_26 rfl (lv_at hl 2 rfl) ?_
    refine lv_imul hx hb dX4_through_27 ?_
    refine lv_topi (fun t_1 et_1 => ?_)
    refine lv_iload_n hx hb dX4_through_28 rfl (lv_at hl 0 rfl) ?_
    refine lv_iadd hx hb dX4_through_29 ?_
    refine lv_topi (fun t_2 et_2 => ?_)
    refine lv_istore_n (lv' := [(3, _), (2, _), (0, _), (1, _)]) C.1 C.2.1 dX4_through_30 rfl hl (by decide) rfl (fun ls hl => ?_)
    have hX : vp_in t_2 961 := (by rw [et_2, et_1]; exact gIx (c := 31) (N := 31) rfl (by decide) (ok.n31 hk) (vp_in_nI (by omega) (by omega)))
    refine lv_aload_n hx hb dX4_through_31 rfl (lv_at hl 2 rfl) ?_
    refine r_get_25 C w dX4_through_32 ?_
    refine lv_iload_n hx hb dX4_through_35 rfl (lv_at hl 0 rfl) ?_
    refine lv_dup2_11 hx hb dX4_through_36 rfl rfl ?_
    refine r_ld_25 C w hX dX4_through_37 ?_
    refine lv_topi (fun t_3 et_3 => ?_)
    refine lv_aload_n hx hb dX4_through_38 rfl (lv_at hl 2 rfl) ?_
    refine r_get_24 C w dX4_through_39 ?_
    refine lv_iload_n hx hb dX4_through_42 rfl (lv_at hl 3 rfl) ?_
    refine r_ld_24 C w (ok.n31 hk) dX4_through_43 ?_
    refine lv_topi (fun t_4 et_4 => ?_)
    refine lv_if_eq (tgt := 66) hx hb dX4_through_44 (by decide) (fun c_44 => ?_) (fun c_44 => ?_)
    · refine lv_iconst (v := 0) hx hb dX4_through_66 (by decide) ?_
      refine lv_iadd hx hb dX4_through_67 ?_
      refine lv_topi (fun t_5 et_5 => ?_)
      refine r_st_25 C w hX dX4_through_68 (fun H locs w => ?_)
      have ok : rOK n _ := rOK.st ok (k := 25) (i := t_2.toNatClampNeg) (v := t_5) (fun b hb => by cases hb)
      refine lv_aload_n hx hb dX4_through_69 rfl (lv_at hl 2 rfl) ?_
      refine r_get_23 C w dX4_through_70 ?_
      refine lv_iload_n hx hb dX4_through_73 rfl (lv_at hl 0 rfl) ?_
      refine lv_aload_n hx hb dX4_through_74 rfl (lv_at hl 2 rfl) ?_
      refine r_get_22 C w dX4_through_75 ?_
      refine lv_iload_n hx hb dX4_through_78 rfl (lv_at hl 0 rfl) ?_
      refine r_ld_22 C w hX dX4_through_79 ?_
      refine lv_topi (fun t_6 et_6 => ?_)
      refine r_st_23 C w hX dX4_through_80 (fun H locs w => ?_)
      have ok : rOK n _ := rOK.st ok (k := 23) (i := t_2.toNatClampNeg) (v := t_6) (fun b hb => by cases hb; rw [et_6]; exact ok.at 22 rfl _)
      obtain ⟨x_7, ex_7⟩ : ∃ y : Int32, y = (nI i) + 1 := ⟨_, rfl⟩
      refine lv_iinc (v := x_7) (lv' := [(2, _), (3, _), (0, _), (1, _)]) C.1 C.2.1 dX4_through_81 hl (k := 1) rfl (by rw [ex_7]; rfl) (by decide) rfl (fun ls hl => ?_)
      refine lv_goto (tgt := 16) hx hb dX4_through_84 (by decide) ?_
      subst et_6 et_5 et_4 et_3 et_2 et_1
      have w : rWd D cI cZ A H0 mm d (itr (rStep k) (i + 1) σ) H locs := by show rWd D cI cZ A H0 mm d (rA (rA _ 25 _ _) 23 _ _) H locs; first | (rw [if_pos c_44]; exact w) | (rw [if_neg c_44, if_pos c_59]; exact w) | (rw [if_neg c_44, if_neg c_59]; exact w)
      have ok : rOK n (itr (rStep k) (i + 1) σ) := by show rOK n (rA (rA _ 25 _ _) 23 _ _); first | (rw [if_pos c_44]; exact ok) | (rw [if_neg c_44, if_pos c_59]; exact ok) | (rw [if_neg c_44, if_neg c_59]; exact ok)
      have hx2 : x_7 = nI (i + 1) := by rw [ex_7]; exact nI_1 i
      rw [hx2] at hl
      exact ih (i + 1) (by omega) _ _ w ok ls (lv_sub hl [0, 2, 3] rfl)
    · refine lv_aload_n hx hb dX4_through_47 rfl (lv_at hl 2 rfl) ?_
      refine r_get_23 C w dX4_through_48 ?_
      refine lv_iload_n hx hb dX4_through_51 rfl (lv_at hl 0 rfl) ?_
      refine r_ld_23 C w hX dX4_through_52 ?_
      refine lv_topi (fun t_8 et_8 => ?_)
      refine lv_aload_n hx hb dX4_through_53 rfl (lv_at hl 2 rfl) ?_
      refine r_get_22 C w dX4_through_54 ?_
      refine lv_iload_n hx hb dX4_through_57 rfl (lv_at hl 0 rfl) ?_
      refine r_ld_22 C w hX dX4_through_58 ?_
      refine lv_topi (fun t_9 et_9 => ?_)
      refine lv_icmp_eq (tgt := 66) hx hb dX4_through_59 (by decide) (fun c_59 => ?_) (fun c_59 => ?_)
      · refine lv_iconst (v := 0) hx hb dX4_through_66 (by decide) ?_
        refine lv_iadd hx hb dX4_through_67 ?_
        refine lv_topi (fun t_10 et_10 => ?_)
        refine r_st_25 C w hX dX4_through_68 (fun H locs w => ?_)
        have ok : rOK n _ := rOK.st ok (k := 25) (i := t_2.toNatClampNeg) (v := t_10) (fun b hb => by cases hb)
        refine lv_aload_n hx hb dX4_through_69 rfl (lv_at hl 2 rfl) ?_
        refine r_get_23 C w dX4_through_70 ?_
        refine lv_iload_n hx hb dX4_through_73 rfl (lv_at hl 0 rfl) ?_
        refine lv_aload_n hx hb dX4_through_74 rfl (lv_at hl 2 rfl) ?_
        refine r_get_22 C w dX4_through_75 ?_
        refine lv_iload_n hx hb dX4_through_78 rfl (lv_at hl 0 rfl) ?_
        refine r_ld_22 C w hX dX4_through_79 ?_
        refine lv_topi (fun t_11 et_11 => ?_)
        refine r_st_23 C w hX dX4_through_80 (fun H locs w => ?_)
        have ok : rOK n _ := rOK.st ok (k := 23) (i := t_2.toNatClampNeg) (v := t_11) (fun b hb => by cases hb; rw [et_11]; exact ok.at 22 rfl _)
        obtain ⟨x_12, ex_12⟩ : ∃ y : Int32, y = (nI i) + 1 := ⟨_, rfl⟩
        refine lv_iinc (v := x_12) (lv' := [(2, _), (3, _), (0, _), (1, _)]) C.1 C.2.1 dX4_through_81 hl (k := 1) rfl (by rw [ex_12]; rfl) (by decide) rfl (fun ls hl => ?_)
        refine lv_goto (tgt := 16) hx hb dX4_through_84 (by decide) ?_
        subst et_11 et_10 et_9 et_8 et_4 et_3 et_2 et_1
        have w : rWd D cI cZ A H0 mm d (itr (rStep k) (i + 1) σ) H locs := by show rWd D cI cZ A H0 mm d (rA (rA _ 25 _ _) 23 _ _) H locs; first | (rw [if_pos c_44]; exact w) | (rw [if_neg c_44, if_pos c_59]; exact w) | (rw [if_neg c_44, if_neg c_59]; exact w)
        have ok : rOK n (itr (rStep k) (i + 1) σ) := by show rOK n (rA (rA _ 25 _ _) 23 _ _); first | (rw [if_pos c_44]; exact ok) | (rw [if_neg c_44, if_pos c_59]; exact ok) | (rw [if_neg c_44, if_neg c_59]; exact ok)
        have hx2 : x_12 = nI (i + 1) := by rw [ex_12]; exact nI_1 i
        rw [hx2] at hl
        exact ih (i + 1) (by omega) _ _ w ok ls (lv_sub hl [0, 2, 3] rfl)
      · refine lv_iconst (v := 1) hx hb dX4_through_62 (by decide) ?_
        refine lv_goto (tgt := 67) hx hb dX4_through_63 (by decide) ?_
        refine lv_iadd hx hb dX4_through_67 ?_
        refine lv_topi (fun t_13 et_13 => ?_)
        refine r_st_25 C w hX dX4_through_68 (fun H locs w => ?_)
        have ok : rOK n _ := rOK.st ok (k := 25) (i := t_2.toNatClampNeg) (v := t_13) (fun b hb => by cases hb)
        refine lv_aload_n hx hb dX4_through_69 rfl (lv_at hl 2 rfl) ?_
        refine r_get_23 C w dX4_through_70 ?_
        refine lv_iload_n hx hb dX4_through_73 rfl (lv_at hl 0 rfl) ?_
        refine lv_aload_n hx hb dX4_through_74 rfl (lv_at hl 2 rfl) ?_
        refine r_get_22 C w dX4_through_75 ?_
        refine lv_iload_n hx hb dX4_through_78 rfl (lv_at hl 0 rfl) ?_
        refine r_ld_22 C w hX dX4_through_79 ?_
        refine lv_topi (fun t_14 et_14 => ?_)
        refine r_st_23 C w hX dX4_through_80 (fun H locs w => ?_)
        have ok : rOK n _ := rOK.st ok (k := 23) (i := t_2.toNatClampNeg) (v := t_14) (fun b hb => by cases hb; rw [et_14]; exact ok.at 22 rfl _)
        obtain ⟨x_15, ex_15⟩ : ∃ y : Int32, y = (nI i) + 1 := ⟨_, rfl⟩
        refine lv_iinc (v := x_15) (lv' := [(2, _), (3, _), (0, _), (1, _)]) C.1 C.2.1 dX4_through_81 hl (k := 1) rfl (by rw [ex_15]; rfl) (by decide) rfl (fun ls hl => ?_)
        refine lv_goto (tgt := 16) hx hb dX4_through_84 (by decide) ?_
        subst et_14 et_13 et_9 et_8 et_4 et_3 et_2 et_1
        have w : rWd D cI cZ A H0 mm d (itr (rStep k) (i + 1) σ) H locs := by show rWd D cI cZ A H0 mm d (rA (rA _ 25 _ _) 23 _ _) H locs; first | (rw [if_pos c_44]; exact w) | (rw [if_neg c_44, if_pos c_59]; exact w) | (rw [if_neg c_44, if_neg c_59]; exact w)
        have ok : rOK n (itr (rStep k) (i + 1) σ) := by show rOK n (rA (rA _ 25 _ _) 23 _ _); first | (rw [if_pos c_44]; exact ok) | (rw [if_neg c_44, if_pos c_59]; exact ok) | (rw [if_neg c_44, if_neg c_59]; exact ok)
        have hx2 : x_15 = nI (i + 1) := by rw [ex_15]; exact nI_1 i
        rw [hx2] at hl
        exact ih (i + 1) (by omega) _ _ w ok ls (lv_sub hl [0, 2, 3] rfl)
set_option maxHeartbeats 4000000 in
set_option maxRecDepth 100000 in
theorem q_thN (l : Launch) (D : va_G) (cI cZ cN cO : ClassId) (A : Nat → Prop) (mm : Nat) (d : Nat → Nat) (n : Nat) (σ : RS) (k : Int32) (ok : rOK n σ) (hk : vp_in k n) (hs : ¬ rSeen n k σ) (hrm : rRm σ n) : Met l yX4_through (.code yX4_through cX4_through 4 none :: gw) ({ frames := 3, cells := 0, slots := 0, locals := 76 }) (va_Pc (.ref mm :: [.int k]) (rH D cI cZ cN cO A mm d σ)) (va_Qv (fun _ : Unit => True) (fun _ t => rH D cI cZ cN cO A mm d (rThN n k σ) t ∧ rOK n (rThN n k σ)) A) 0 0 A := by
  refine Met.ofW (cc := cX4_through) (maxL := 4) (ret := none) (by decide) rfl ?_
  intro p e s m args below meth c s₁ B hml hv
  obtain ⟨rfl, hP, hK, hD⟩ := hv
  have hx := B.exec
  have hb := B.bytes
  have hr := B.returns
  have hts := atoms_spec (ws := (.code yX4_through cX4_through 4 none :: gw)) B.pre
  have hg : ∀ w ∈ gw, w.before _ s = true := fun w h => hts w (List.mem_cons_of_mem _ h)
  have hown : s.vm.findClass RX4 = some m.cls := findClass_of_methodNamed B.named
  have hlocks := B.notSynchronized
  have C : Cx p c cX4_through s m _ RX4 D (gTy cI cZ cN cO) := ⟨hx, hb, hown, hg, hK⟩
  have w : rWd D cI cZ A s.heap mm d σ s.heap [] := ⟨hP, hD, va_S.rf⟩
  have hl := lv_entry ([.ref mm, .int k]) (n := 4) (Nat.le_of_ble_eq_true rfl)
  rw [lg_entry_eq]
  generalize (lg_sl ([.ref mm, .int k]) ++ List.replicate (4 - (lg_sl ([.ref mm, .int k])).length) Slot.unset).toArray = ls at hl ⊢
  have hl : lv_has ls 4 [(0, .ref mm), (1, .int k)] := hl
  refine lv_aload_n hx hb dX4_through_0 rfl (lv_at hl 0 rfl) ?_
  refine lv_iload_n hx hb dX4_through_1 rfl (lv_at hl 1 rfl) ?_
  refine r_callp (As := [.int k]) (rest := []) C w hml hl.1 (q_isSeen l D cI cZ cN cO A mm d n _ k ok hk) kM_X4_165 kI_X4_isSeen kS_X4_isSeen kD_X4_isSeen (show yX4_isSeen.cls = RX4 ∧ yX4_isSeen.cls ≠ "java/lang/invoke/MethodHandle" ∧ yX4_isSeen.cls ≠ "java/lang/invoke/VarHandle" ∧ (parseMethodDescriptor yX4_isSeen.desc).map (fun d => d.parameters.length) = some 1 from by decide +kernel) rfl rfl ⟨Nat.le_of_ble_eq_true rfl, Nat.le_of_ble_eq_true rfl⟩ rfl (lv_room (Nat.le_of_ble_eq_true rfl)) dX4_through_2 ⟨Nat.zero_le _, Nat.zero_le _⟩ (fun r_1 hr_1 => ?_)
  obtain rfl : r_1 = 0 := hr_1.elim (fun h => absurd h.2 hs) (fun h => h.1)
  refine lv_if_eq (tgt := 14) hx hb dX4_through_5 (by decide) (fun c_5 => ?_) (fun c_5 => absurd rfl c_5)
  refine lv_iconst (v := 0) hx hb dX4_through_14 (by decide) ?_
  refine lv_istore_n (lv' := [(2, _), (0, _), (1, _)]) C.1 C.2.1 dX4_through_15 rfl hl (by decide) rfl (fun ls hl => ?_)
  rw [← nI_0] at hl
  refine ql_through C hml ok.2.1 hk ?_ n 0 (by omega) _ _ w ok ls (lv_sub hl [0, 1, 2] rfl)
  intro H locs w ok ls hl
  refine lv_aload_n hx hb dX4_through_87 rfl (lv_at hl 1 rfl) ?_
  refine r_get_24 C w dX4_through_88 ?_
  refine lv_iload_n hx hb dX4_through_91 rfl (lv_at hl 2 rfl) ?_
  refine lv_iconst (v := 1) hx hb dX4_through_92 (by decide) ?_
  refine r_st_24 (v := 1) C w rfl (ok.n31 hk) dX4_through_93 (fun H locs w => ?_)
  have ok : rOK n _ := rOK.st ok (k := 24) (i := k.toNatClampNeg) (v := 1) (fun b hb => by cases hb)
  refine lv_aload_n hx hb dX4_through_94 rfl (lv_at hl 1 rfl) ?_
  refine lv_iload_n hx hb dX4_through_95 rfl (lv_at hl 2 rfl) ?_
  refine r_callv (As := [.int k]) (rest := []) C w hml hl.1 (q_collect l D cI cZ cN cO A mm d n _ k ok hk (rRm.st (rRm.iter (fun i σ h => rRm.st (rRm.st h (by decide)) (by decide)) n hrm) (by decide))) kM_X4_139 kI_X4_collect kS_X4_collect kD_X4_collect (show yX4_collect.cls = RX4 ∧ yX4_collect.cls ≠ "java/lang/invoke/MethodHandle" ∧ yX4_collect.cls ≠ "java/lang/invoke/VarHandle" ∧ (parseMethodDescriptor yX4_collect.desc).map (fun d => d.parameters.length) = some 1 from by decide +kernel) rfl rfl ⟨Nat.le_of_ble_eq_true rfl, Nat.le_of_ble_eq_true rfl⟩ rfl (lv_room (Nat.le_of_ble_eq_true rfl)) dX4_through_96 ⟨Nat.zero_le _, Nat.zero_le _⟩ (fun H locs w ok => ?_)
  exact W.vret hx hb hr (fun t ht hW => ⟨⟨(), rfl, trivial, ⟨by rw [ht]; exact w.1, va_K.moved hW.alike hK, w.2.1⟩, ok⟩, w.2.2.F ht⟩) w.2.2.2.2 dX4_through_99
set_option maxHeartbeats 4000000 in
set_option maxRecDepth 100000 in
theorem q_thSq (l : Launch) (D : va_G) (cI cZ cN cO : ClassId) (A : Nat → Prop) (mm : Nat) (d : Nat → Nat) (n : Nat) (σ : RS) (k : Int32) (ok : rOK n σ) (hk : vp_in k n) (hs : rSeen n k σ) (hsm : rSame n k σ) (hq : ¬ σ.2 27 (σ.2 16 k.toNatClampNeg).toNatClampNeg < 10) : Met l yX4_through (.code yX4_through cX4_through 4 none :: gw) ({ frames := 3, cells := 0, slots := 0, locals := 76 }) (va_Pc (.ref mm :: [.int k]) (rH D cI cZ cN cO A mm d σ)) (va_Qv (fun _ : Unit => True) (fun _ t => rH D cI cZ cN cO A mm d (rEnds k (rTkS n k σ)) t ∧ rOK n (rEnds k (rTkS n k σ))) A) 0 0 A := by
  refine Met.ofW (cc := cX4_through) (maxL := 4) (ret := none) (by decide) rfl ?_
  intro p e s m args below meth c s₁ B hml hv
  obtain ⟨rfl, hP, hK, hD⟩ := hv
  have hx := B.exec
  have hb := B.bytes
  have hr := B.returns
  have hts := atoms_spec (ws := (.code yX4_through cX4_through 4 none :: gw)) B.pre
  have hg : ∀ w ∈ gw, w.before _ s = true := fun w h => hts w (List.mem_cons_of_mem _ h)
  have hown : s.vm.findClass RX4 = some m.cls := findClass_of_methodNamed B.named
  have hlocks := B.notSynchronized
  have C : Cx p c cX4_through s m _ RX4 D (gTy cI cZ cN cO) := ⟨hx, hb, hown, hg, hK⟩
  have w : rWd D cI cZ A s.heap mm d σ s.heap [] := ⟨hP, hD, va_S.rf⟩
  have hl := lv_entry ([.ref mm, .int k]) (n := 4) (Nat.le_of_ble_eq_true rfl)
  rw [lg_entry_eq]
  generalize (lg_sl ([.ref mm, .int k]) ++ List.replicate (4 - (lg_sl ([.ref mm, .int k])).length) Slot.unset).toArray = ls at hl ⊢
  have hl : lv_has ls 4 [(0, .ref mm), (1, .int k)] := hl
  refine lv_aload_n hx hb dX4_through_0 rfl (lv_at hl 0 rfl) ?_
  refine lv_iload_n hx hb dX4_through_1 rfl (lv_at hl 1 rfl) ?_
  refine r_callp (As := [.int k]) (rest := []) C w hml hl.1 (q_isSeen l D cI cZ cN cO A mm d n _ k ok hk) kM_X4_165 kI_X4_isSeen kS_X4_isSeen kD_X4_isSeen (show yX4_isSeen.cls = RX4 ∧ yX4_isSeen.cls ≠ "java/lang/invoke/MethodHandle" ∧ yX4_isSeen.cls ≠ "java/lang/invoke/VarHandle" ∧ (parseMethodDescriptor yX4_isSeen.desc).map (fun d => d.parameters.length) = some 1 from by decide +kernel) rfl rfl ⟨Nat.le_of_ble_eq_true rfl, Nat.le_of_ble_eq_true rfl⟩ rfl (lv_room (Nat.le_of_ble_eq_true rfl)) dX4_through_2 ⟨Nat.zero_le _, Nat.zero_le _⟩ (fun r_1 hr_1 => ?_)
  obtain rfl : r_1 = 1 := hr_1.elim (fun h => h.1) (fun h => absurd hs h.2)
  refine lv_if_eq (tgt := 14) hx hb dX4_through_5 (by decide) (fun c_5 => absurd c_5 (by decide)) (fun c_5 => ?_)
  refine lv_aload_n hx hb dX4_through_8 rfl (lv_at hl 0 rfl) ?_
  refine lv_iload_n hx hb dX4_through_9 rfl (lv_at hl 1 rfl) ?_
  refine r_callv (As := [.int k]) (rest := []) C w hml hl.1 (q_takeSq l D cI cZ cN cO A mm d n _ k ok hk hsm hq) kM_X4_168 kI_X4_take kS_X4_take kD_X4_take (show yX4_take.cls = RX4 ∧ yX4_take.cls ≠ "java/lang/invoke/MethodHandle" ∧ yX4_take.cls ≠ "java/lang/invoke/VarHandle" ∧ (parseMethodDescriptor yX4_take.desc).map (fun d => d.parameters.length) = some 1 from by decide +kernel) rfl rfl ⟨Nat.le_of_ble_eq_true rfl, Nat.le_of_ble_eq_true rfl⟩ rfl (lv_room (Nat.le_of_ble_eq_true rfl)) dX4_through_10 ⟨Nat.zero_le _, Nat.zero_le _⟩ (fun H locs w ok => ?_)
  exact W.vret hx hb hr (fun t ht hW => ⟨⟨(), rfl, trivial, ⟨by rw [ht]; exact w.1, va_K.moved hW.alike hK, w.2.1⟩, ok⟩, w.2.2.F ht⟩) w.2.2.2.2 dX4_through_13
set_option maxHeartbeats 4000000 in
set_option maxRecDepth 100000 in
theorem q_thSu (l : Launch) (D : va_G) (cI cZ cN cO : ClassId) (A : Nat → Prop) (mm : Nat) (d : Nat → Nat) (n : Nat) (σ : RS) (k : Int32) (ok : rOK n σ) (hk : vp_in k n) (hs : rSeen n k σ) (hsm : rSame n k σ) (hq : σ.2 27 (σ.2 16 k.toNatClampNeg).toNatClampNeg < 10) (hlen : vp_in (σ.2 19 k.toNatClampNeg + 1) 512) (hrm : rRm σ n) : Met l yX4_through (.code yX4_through cX4_through 4 none :: gw) ({ frames := 3, cells := 0, slots := 0, locals := 76 }) (va_Pc (.ref mm :: [.int k]) (rH D cI cZ cN cO A mm d σ)) (va_Qv (fun _ : Unit => True) (fun _ t => rH D cI cZ cN cO A mm d (rWr n k (σ.2 16 k.toNatClampNeg) (rTkS n k σ)) t ∧ rOK n (rWr n k (σ.2 16 k.toNatClampNeg) (rTkS n k σ))) A) 0 0 A := by
  refine Met.ofW (cc := cX4_through) (maxL := 4) (ret := none) (by decide) rfl ?_
  intro p e s m args below meth c s₁ B hml hv
  obtain ⟨rfl, hP, hK, hD⟩ := hv
  have hx := B.exec
  have hb := B.bytes
  have hr := B.returns
  have hts := atoms_spec (ws := (.code yX4_through cX4_through 4 none :: gw)) B.pre
  have hg : ∀ w ∈ gw, w.before _ s = true := fun w h => hts w (List.mem_cons_of_mem _ h)
  have hown : s.vm.findClass RX4 = some m.cls := findClass_of_methodNamed B.named
  have hlocks := B.notSynchronized
  have C : Cx p c cX4_through s m _ RX4 D (gTy cI cZ cN cO) := ⟨hx, hb, hown, hg, hK⟩
  have w : rWd D cI cZ A s.heap mm d σ s.heap [] := ⟨hP, hD, va_S.rf⟩
  have hl := lv_entry ([.ref mm, .int k]) (n := 4) (Nat.le_of_ble_eq_true rfl)
  rw [lg_entry_eq]
  generalize (lg_sl ([.ref mm, .int k]) ++ List.replicate (4 - (lg_sl ([.ref mm, .int k])).length) Slot.unset).toArray = ls at hl ⊢
  have hl : lv_has ls 4 [(0, .ref mm), (1, .int k)] := hl
  refine lv_aload_n hx hb dX4_through_0 rfl (lv_at hl 0 rfl) ?_
  refine lv_iload_n hx hb dX4_through_1 rfl (lv_at hl 1 rfl) ?_
  refine r_callp (As := [.int k]) (rest := []) C w hml hl.1 (q_isSeen l D cI cZ cN cO A mm d n _ k ok hk) kM_X4_165 kI_X4_isSeen kS_X4_isSeen kD_X4_isSeen (show yX4_isSeen.cls = RX4 ∧ yX4_isSeen.cls ≠ "java/lang/invoke/MethodHandle" ∧ yX4_isSeen.cls ≠ "java/lang/invoke/VarHandle" ∧ (parseMethodDescriptor yX4_isSeen.desc).map (fun d => d.parameters.length) = some 1 from by decide +kernel) rfl rfl ⟨Nat.le_of_ble_eq_true rfl, Nat.le_of_ble_eq_true rfl⟩ rfl (lv_room (Nat.le_of_ble_eq_true rfl)) dX4_through_2 ⟨Nat.zero_le _, Nat.zero_le _⟩ (fun r_1 hr_1 => ?_)
  obtain rfl : r_1 = 1 := hr_1.elim (fun h => h.1) (fun h => absurd hs h.2)
  refine lv_if_eq (tgt := 14) hx hb dX4_through_5 (by decide) (fun c_5 => absurd c_5 (by decide)) (fun c_5 => ?_)
  refine lv_aload_n hx hb dX4_through_8 rfl (lv_at hl 0 rfl) ?_
  refine lv_iload_n hx hb dX4_through_9 rfl (lv_at hl 1 rfl) ?_
  refine r_callv (As := [.int k]) (rest := []) C w hml hl.1 (q_takeSu l D cI cZ cN cO A mm d n _ k ok hk hsm hq hlen hrm) kM_X4_168 kI_X4_take kS_X4_take kD_X4_take (show yX4_take.cls = RX4 ∧ yX4_take.cls ≠ "java/lang/invoke/MethodHandle" ∧ yX4_take.cls ≠ "java/lang/invoke/VarHandle" ∧ (parseMethodDescriptor yX4_take.desc).map (fun d => d.parameters.length) = some 1 from by decide +kernel) rfl rfl ⟨Nat.le_of_ble_eq_true rfl, Nat.le_of_ble_eq_true rfl⟩ rfl (lv_room (Nat.le_of_ble_eq_true rfl)) dX4_through_10 ⟨Nat.zero_le _, Nat.zero_le _⟩ (fun H locs w ok => ?_)
  exact W.vret hx hb hr (fun t ht hW => ⟨⟨(), rfl, trivial, ⟨by rw [ht]; exact w.1, va_K.moved hW.alike hK, w.2.1⟩, ok⟩, w.2.2.F ht⟩) w.2.2.2.2 dX4_through_13
set_option maxHeartbeats 4000000 in
set_option maxRecDepth 100000 in
theorem q_thBq (l : Launch) (D : va_G) (cI cZ cN cO : ClassId) (A : Nat → Prop) (mm : Nat) (d : Nat → Nat) (n : Nat) (σ : RS) (k : Int32) (j : Nat) (ok : rOK n σ) (hk : vp_in k n) (hs : rSeen n k σ) (hns : ¬ rSame n k σ) (hj : j < n) (hm : rMv k σ j) (hlt : ∀ i, i < j → ¬ rMv k σ i) (hc1 : ¬ σ.2 22 ((31 : Int32) * k + nI j).toNatClampNeg < 1) (hq : ¬ σ.2 27 (σ.2 16 k.toNatClampNeg).toNatClampNeg < 10) : Met l yX4_through (.code yX4_through cX4_through 4 none :: gw) ({ frames := 3, cells := 0, slots := 0, locals := 76 }) (va_Pc (.ref mm :: [.int k]) (rH D cI cZ cN cO A mm d σ)) (va_Qv (fun _ : Unit => True) (fun _ t => rH D cI cZ cN cO A mm d (rEnds k (rTkB n k j σ)) t ∧ rOK n (rEnds k (rTkB n k j σ))) A) 0 0 A := by
  refine Met.ofW (cc := cX4_through) (maxL := 4) (ret := none) (by decide) rfl ?_
  intro p e s m args below meth c s₁ B hml hv
  obtain ⟨rfl, hP, hK, hD⟩ := hv
  have hx := B.exec
  have hb := B.bytes
  have hr := B.returns
  have hts := atoms_spec (ws := (.code yX4_through cX4_through 4 none :: gw)) B.pre
  have hg : ∀ w ∈ gw, w.before _ s = true := fun w h => hts w (List.mem_cons_of_mem _ h)
  have hown : s.vm.findClass RX4 = some m.cls := findClass_of_methodNamed B.named
  have hlocks := B.notSynchronized
  have C : Cx p c cX4_through s m _ RX4 D (gTy cI cZ cN cO) := ⟨hx, hb, hown, hg, hK⟩
  have w : rWd D cI cZ A s.heap mm d σ s.heap [] := ⟨hP, hD, va_S.rf⟩
  have hl := lv_entry ([.ref mm, .int k]) (n := 4) (Nat.le_of_ble_eq_true rfl)
  rw [lg_entry_eq]
  generalize (lg_sl ([.ref mm, .int k]) ++ List.replicate (4 - (lg_sl ([.ref mm, .int k])).length) Slot.unset).toArray = ls at hl ⊢
  have hl : lv_has ls 4 [(0, .ref mm), (1, .int k)] := hl
  refine lv_aload_n hx hb dX4_through_0 rfl (lv_at hl 0 rfl) ?_
  refine lv_iload_n hx hb dX4_through_1 rfl (lv_at hl 1 rfl) ?_
  refine r_callp (As := [.int k]) (rest := []) C w hml hl.1 (q_isSeen l D cI cZ cN cO A mm d n _ k ok hk) kM_X4_165 kI_X4_isSeen kS_X4_isSeen kD_X4_isSeen (show yX4_isSeen.cls = RX4 ∧ yX4_isSeen.cls ≠ "java/lang/invoke/MethodHandle" ∧ yX4_isSeen.cls ≠ "java/lang/invoke/VarHandle" ∧ (parseMethodDescriptor yX4_isSeen.desc).map (fun d => d.parameters.length) = some 1 from by decide +kernel) rfl rfl ⟨Nat.le_of_ble_eq_true rfl, Nat.le_of_ble_eq_true rfl⟩ rfl (lv_room (Nat.le_of_ble_eq_true rfl)) dX4_through_2 ⟨Nat.zero_le _, Nat.zero_le _⟩ (fun r_1 hr_1 => ?_)
  obtain rfl : r_1 = 1 := hr_1.elim (fun h => h.1) (fun h => absurd hs h.2)
  refine lv_if_eq (tgt := 14) hx hb dX4_through_5 (by decide) (fun c_5 => absurd c_5 (by decide)) (fun c_5 => ?_)
  refine lv_aload_n hx hb dX4_through_8 rfl (lv_at hl 0 rfl) ?_
  refine lv_iload_n hx hb dX4_through_9 rfl (lv_at hl 1 rfl) ?_
  refine r_callv (As := [.int k]) (rest := []) C w hml hl.1 (q_takeBq l D cI cZ cN cO A mm d n _ k j ok hk hns hj hm hlt hc1 hq) kM_X4_168 kI_X4_take kS_X4_take kD_X4_take (show yX4_take.cls = RX4 ∧ yX4_take.cls ≠ "java/lang/invoke/MethodHandle" ∧ yX4_take.cls ≠ "java/lang/invoke/VarHandle" ∧ (parseMethodDescriptor yX4_take.desc).map (fun d => d.parameters.length) = some 1 from by decide +kernel) rfl rfl ⟨Nat.le_of_ble_eq_true rfl, Nat.le_of_ble_eq_true rfl⟩ rfl (lv_room (Nat.le_of_ble_eq_true rfl)) dX4_through_10 ⟨Nat.zero_le _, Nat.zero_le _⟩ (fun H locs w ok => ?_)
  exact W.vret hx hb hr (fun t ht hW => ⟨⟨(), rfl, trivial, ⟨by rw [ht]; exact w.1, va_K.moved hW.alike hK, w.2.1⟩, ok⟩, w.2.2.F ht⟩) w.2.2.2.2 dX4_through_13
set_option maxHeartbeats 4000000 in
set_option maxRecDepth 100000 in
theorem q_thBu (l : Launch) (D : va_G) (cI cZ cN cO : ClassId) (A : Nat → Prop) (mm : Nat) (d : Nat → Nat) (n : Nat) (σ : RS) (k : Int32) (j : Nat) (ok : rOK n σ) (hk : vp_in k n) (hs : rSeen n k σ) (hns : ¬ rSame n k σ) (hj : j < n) (hm : rMv k σ j) (hlt : ∀ i, i < j → ¬ rMv k σ i) (hc1 : ¬ σ.2 22 ((31 : Int32) * k + nI j).toNatClampNeg < 1) (hq : σ.2 27 (σ.2 16 k.toNatClampNeg).toNatClampNeg < 10) (hlen : vp_in (σ.2 19 k.toNatClampNeg + 1) 512) (hrm : rRm σ n) : Met l yX4_through (.code yX4_through cX4_through 4 none :: gw) ({ frames := 3, cells := 0, slots := 0, locals := 76 }) (va_Pc (.ref mm :: [.int k]) (rH D cI cZ cN cO A mm d σ)) (va_Qv (fun _ : Unit => True) (fun _ t => rH D cI cZ cN cO A mm d (rWr n k (σ.2 16 k.toNatClampNeg) (rTkB n k j σ)) t ∧ rOK n (rWr n k (σ.2 16 k.toNatClampNeg) (rTkB n k j σ))) A) 0 0 A := by
  refine Met.ofW (cc := cX4_through) (maxL := 4) (ret := none) (by decide) rfl ?_
  intro p e s m args below meth c s₁ B hml hv
  obtain ⟨rfl, hP, hK, hD⟩ := hv
  have hx := B.exec
  have hb := B.bytes
  have hr := B.returns
  have hts := atoms_spec (ws := (.code yX4_through cX4_through 4 none :: gw)) B.pre
  have hg : ∀ w ∈ gw, w.before _ s = true := fun w h => hts w (List.mem_cons_of_mem _ h)
  have hown : s.vm.findClass RX4 = some m.cls := findClass_of_methodNamed B.named
  have hlocks := B.notSynchronized
  have C : Cx p c cX4_through s m _ RX4 D (gTy cI cZ cN cO) := ⟨hx, hb, hown, hg, hK⟩
  have w : rWd D cI cZ A s.heap mm d σ s.heap [] := ⟨hP, hD, va_S.rf⟩
  have hl := lv_entry ([.ref mm, .int k]) (n := 4) (Nat.le_of_ble_eq_true rfl)
  rw [lg_entry_eq]
  generalize (lg_sl ([.ref mm, .int k]) ++ List.replicate (4 - (lg_sl ([.ref mm, .int k])).length) Slot.unset).toArray = ls at hl ⊢
  have hl : lv_has ls 4 [(0, .ref mm), (1, .int k)] := hl
  refine lv_aload_n hx hb dX4_through_0 rfl (lv_at hl 0 rfl) ?_
  refine lv_iload_n hx hb dX4_through_1 rfl (lv_at hl 1 rfl) ?_
  refine r_callp (As := [.int k]) (rest := []) C w hml hl.1 (q_isSeen l D cI cZ cN cO A mm d n _ k ok hk) kM_X4_165 kI_X4_isSeen kS_X4_isSeen kD_X4_isSeen (show yX4_isSeen.cls = RX4 ∧ yX4_isSeen.cls ≠ "java/lang/invoke/MethodHandle" ∧ yX4_isSeen.cls ≠ "java/lang/invoke/VarHandle" ∧ (parseMethodDescriptor yX4_isSeen.desc).map (fun d => d.parameters.length) = some 1 from by decide +kernel) rfl rfl ⟨Nat.le_of_ble_eq_true rfl, Nat.le_of_ble_eq_true rfl⟩ rfl (lv_room (Nat.le_of_ble_eq_true rfl)) dX4_through_2 ⟨Nat.zero_le _, Nat.zero_le _⟩ (fun r_1 hr_1 => ?_)
  obtain rfl : r_1 = 1 := hr_1.elim (fun h => h.1) (fun h => absurd hs h.2)
  refine lv_if_eq (tgt := 14) hx hb dX4_through_5 (by decide) (fun c_5 => absurd c_5 (by decide)) (fun c_5 => ?_)
  refine lv_aload_n hx hb dX4_through_8 rfl (lv_at hl 0 rfl) ?_
  refine lv_iload_n hx hb dX4_through_9 rfl (lv_at hl 1 rfl) ?_
  refine r_callv (As := [.int k]) (rest := []) C w hml hl.1 (q_takeBu l D cI cZ cN cO A mm d n _ k j ok hk hns hj hm hlt hc1 hq hlen hrm) kM_X4_168 kI_X4_take kS_X4_take kD_X4_take (show yX4_take.cls = RX4 ∧ yX4_take.cls ≠ "java/lang/invoke/MethodHandle" ∧ yX4_take.cls ≠ "java/lang/invoke/VarHandle" ∧ (parseMethodDescriptor yX4_take.desc).map (fun d => d.parameters.length) = some 1 from by decide +kernel) rfl rfl ⟨Nat.le_of_ble_eq_true rfl, Nat.le_of_ble_eq_true rfl⟩ rfl (lv_room (Nat.le_of_ble_eq_true rfl)) dX4_through_10 ⟨Nat.zero_le _, Nat.zero_le _⟩ (fun H locs w ok => ?_)
  exact W.vret hx hb hr (fun t ht hW => ⟨⟨(), rfl, trivial, ⟨by rw [ht]; exact w.1, va_K.moved hW.alike hK, w.2.1⟩, ok⟩, w.2.2.F ht⟩) w.2.2.2.2 dX4_through_13
set_option maxHeartbeats 4000000 in
set_option maxRecDepth 100000 in
/-- through(k) -/
theorem q_through (l : Launch) (D : va_G) (cI cZ cN cO : ClassId) (A : Nat → Prop) (mm : Nat) (d : Nat → Nat) (n : Nat) (σ : RS) (k : Int32) (ok : rOK n σ) (hk : vp_in k n) (ht : rThOk n k σ) : Met l yX4_through (.code yX4_through cX4_through 4 none :: gw) ({ frames := 3, cells := 0, slots := 0, locals := 76 }) (va_Pc (.ref mm :: [.int k]) (rH D cI cZ cN cO A mm d σ)) (va_Qv (fun _ : Unit => True) (fun _ t => rH D cI cZ cN cO A mm d (rThr n k σ) t ∧ rOK n (rThr n k σ)) A) 0 0 A := by
  obtain ⟨h1, h2, h3⟩ := ht
  by_cases hs : rSeen n k σ
  · by_cases hm : rSame n k σ
    · by_cases hq : σ.2 27 (σ.2 16 k.toNatClampNeg).toNatClampNeg < 10
      · rw [show rThr n k σ = _ from (by unfold rThr; rw [cif_pos hs, cif_pos hm, cif_pos hq])]
        exact q_thSu l D cI cZ cN cO A mm d n σ k ok hk hs hm hq (h2 hs hq).1 (h2 hs hq).2
      · rw [show rThr n k σ = _ from (by unfold rThr; rw [cif_pos hs, cif_pos hm, cif_neg hq])]
        exact q_thSq l D cI cZ cN cO A mm d n σ k ok hk hs hm hq
    · obtain ⟨g1, g2, g3⟩ := lst_of (P := rMv k σ) (n := n) (hs.2.elim (fun h => absurd h hm) id)
      by_cases hq : σ.2 27 (σ.2 16 k.toNatClampNeg).toNatClampNeg < 10
      · rw [show rThr n k σ = _ from (by unfold rThr; rw [cif_pos hs, cif_neg hm, cif_pos hq])]
        exact q_thBu l D cI cZ cN cO A mm d n σ k _ ok hk hs hm g1 g2 g3 (h1 hs hm) hq (h2 hs hq).1 (h2 hs hq).2
      · rw [show rThr n k σ = _ from (by unfold rThr; rw [cif_pos hs, cif_neg hm, cif_neg hq])]
        exact q_thBq l D cI cZ cN cO A mm d n σ k _ ok hk hs hm g1 g2 g3 (h1 hs hm) hq
  · rw [show rThr n k σ = _ from (by unfold rThr; rw [cif_neg hs])]
    exact q_thN l D cI cZ cN cO A mm d n σ k ok hk hs (h3 hs)
end
section
def rCpy (k : Int32) (i : Nat) (σ : RS) : RS := rA σ 22 ((31 : Int32) * k + nI i).toNatClampNeg (σ.2 21 ((31 : Int32) * k + nI i).toNatClampNeg)
/-- what follows as NODE k has heard one more -/
noncomputable def rHr2 (n : Nat) (k : Int32) (σ : RS) : RS := cif (nI n < (2 : Int32) * σ.2 17 k.toNatClampNeg) (cif (σ.2 14 k.toNatClampNeg = 1) (rToS n 22 k (rA (itr (rCpy k) n σ) 14 k.toNatClampNeg 2)) (cif (σ.2 14 k.toNatClampNeg = 2) (rThr n k σ) (rEnds k σ))) σ
def rHOk (n : Nat) (k : Int32) (σ : RS) : Prop := (nI n < (2 : Int32) * σ.2 17 k.toNatClampNeg → σ.2 14 k.toNatClampNeg = 1 → rRm σ n) ∧ (nI n < (2 : Int32) * σ.2 17 k.toNatClampNeg → σ.2 14 k.toNatClampNeg = 2 → rThOk n k σ)
def rH0 (k : Int32) (σ : RS) : RS := rA σ 17 k.toNatClampNeg (σ.2 17 k.toNatClampNeg + 1)
set_option maxHeartbeats 4000000 in
set_option maxRecDepth 100000 in
theorem ql_hear {p : Program} {l : Launch} {e : Env} {R : Room} {s : State} {m : MethodId} {args : Array Value} {below : List Frame} {meth : Method} {c : Code} {cells slots : Nat} {Q : State → Prop} {D : va_G} {cI cZ cN cO : ClassId} {A : Nat → Prop} {H0 : Heap} {mm : Nat} {d : Nat → Nat} {n : Nat} (C : Cx p c cX4_hears s m args RX4 D (gTy cI cZ cN cO)) (hml : c.maxLocals = 5) {σ : RS} {k x : Int32} (hn : n ≤ 31) (hk : vp_in k n) (hx1 : vp_in x 2001) (hkd : σ.2 2 x.toNatClampNeg = 1) (hRf : 1 ≤ R.frames) (hRl : 24 ≤ R.locals) (hRc : cells + 0 ≤ R.cells) (hRs : slots + 0 ≤ R.slots) (kk : ∀ (H : Heap) (locs : List Loc), rWd D cI cZ A H0 mm d (itr (rMax 21 k x) n σ) H locs → rOK n (itr (rMax 21 k x) n σ) → ∀ ls : Array Slot, lv_has ls 5 [(3, .int (nI n)), (2, .int k), (0, .ref mm), (1, .int x)] → W p l e R s m args below meth c H locs cells slots Q (F0 m 79 ls [])) : ∀ (fu i : Nat), i + fu = n → ∀ (H : Heap) (locs : List Loc), rWd D cI cZ A H0 mm d (itr (rMax 21 k x) i σ) H locs → rOK n (itr (rMax 21 k x) i σ) → ∀ ls : Array Slot, lv_has ls 5 [(3, .int (nI i)), (2, .int k), (0, .ref mm), (1, .int x)] → W p l e R s m args below meth c H locs cells slots Q (F0 m 19 ls []) := by
  intro fu
  induction fu with
  | zero =>
    intro i hik
    intro H locs w ok ls hl
    have hx := C.1
    have hb := C.2.1
    have hi : n = i := by omega
    subst hi
    refine lv_iload_n hx hb dX4_hears_19 rfl (lv_at hl 0 rfl) ?_
    refine lv_aload_n hx hb dX4_hears_20 rfl (lv_at hl 2 rfl) ?_
    refine r_get_0 C w dX4_hears_21 ?_
    rw [ok.nn]
    refine lv_icmp_ge (tgt := 79) hx hb dX4_hears_24 (by decide) (fun c_24 => ?_) (fun c_24 => absurd (Int32.le_refl _) c_24)
    exact kk _ _ w ok ls (lv_sub hl [0, 1, 2, 3] rfl)
  | succ fu ih =>
    intro i hik
    intro H locs w ok ls hl
    have hx := C.1
    have hb := C.2.1
    have hi : i < n := by omega
    refine lv_iload_n hx hb dX4_hears_19 rfl (lv_at hl 0 rfl) ?_
    refine lv_aload_n hx hb dX4_hears_20 rfl (lv_at hl 2 rfl) ?_
    refine r_get_0 C w dX4_hears_21 ?_
    rw [ok.nn]
    refine lv_icmp_ge (tgt := 79) hx hb dX4_hears_24 (by decide) (fun c_24 => absurd c_24 (nI_ge hi (by omega))) (fun c_24 => ?_)
    refine lv_aload_n hx hb dX4_hears_27 rfl (lv_at hl 2 rfl) ?_
    refine r_get_2 C w dX4_hears_28 ?_
    refine lv_iload_n hx hb dX4_hears_31 rfl (lv_at hl 3 rfl) ?_
    refine r_ld_2 C w hx1 dX4_hears_32 ?_
    rw [show (itr (rMax 21 k x) i σ).2 2 x.toNatClampNeg = 1 from by rw [itr_row (f := rMax 21 k x) (r := 2) (fun _ _ => rfl) i σ]; exact hkd]
    refine lv_iconst (v := 1) hx hb dX4_hears_33 (by decide) ?_
    refine lv_icmp_ne (tgt := 79) hx hb dX4_hears_34 (by decide) (fun c_34 => absurd rfl c_34) (fun c_34 => ?_)
    refine lv_bipush (v := 31) hx hb dX4_hears_37 (by decide) ?_
    refine lv_iload_n hx hb dX4_hears_39 rfl (lv_at hl 1 rfl) ?_
    refine lv_imul hx hb dX4_hears_40 ?_
    refine lv_topi (fun t_1 et_1 => ?_)
    refine lv_iload_n hx hb dX4_hears_41 rfl (lv_at hl 0 rfl) ?_
    refine lv_iadd hx hb dX4_hears_42 ?_
    refine lv_topi (fun t_2 et_2 => ?_)
    refine lv_istore (lv' := [(4, _), (3, _), (2, _), (0, _), (1, _)]) C.1 C.2.1 dX4_hears_43 hl (by decide) rfl (fun ls hl => ?_)
    refine lv_aload_n hx hb dX4_hears_45 rfl (lv_at hl 3 rfl) ?_
    refine r_get_21 C w dX4_hears_46 ?_
    refine lv_iload hx hb dX4_hears_49 (lv_at hl 0 rfl) ?_
    refine lv_aload_n hx hb dX4_hears_51 rfl (lv_at hl 3 rfl) ?_
    refine r_get_21 C w dX4_hears_52 ?_
    refine lv_iload hx hb dX4_hears_55 (lv_at hl 0 rfl) ?_
    refine r_ld_21 C w (by rw [et_2, et_1]; exact gIx (c := 31) (N := 31) rfl (by decide) (ok.n31 hk) (vp_in_nI (by omega) (by omega))) dX4_hears_57 ?_
    refine lv_topi (fun t_3 et_3 => ?_)
    refine lv_aload_n hx hb dX4_hears_58 rfl (lv_at hl 3 rfl) ?_
    refine r_get_6 C w dX4_hears_59 ?_
    refine lv_bipush (v := 31) hx hb dX4_hears_62 (by decide) ?_
    refine lv_iload_n hx hb dX4_hears_64 rfl (lv_at hl 4 rfl) ?_
    refine lv_imul hx hb dX4_hears_65 ?_
    refine lv_topi (fun t_4 et_4 => ?_)
    refine lv_iload_n hx hb dX4_hears_66 rfl (lv_at hl 1 rfl) ?_
    refine lv_iadd hx hb dX4_hears_67 ?_
    refine lv_topi (fun t_5 et_5 => ?_)
    refine r_ld_6 C w (by rw [et_5, et_4]; exact gIx (c := 31) (N := 2001) rfl (by decide) hx1 (vp_in_nI (by omega) (by omega))) dX4_hears_68 ?_
    refine lv_topi (fun t_6 et_6 => ?_)
    refine va_mmax C.1 C.2.1 (hml.trans hl.1.symm) C.2.2.1 (C.2.2.2.1 _ kM_X4_174) (C.2.2.2.1 _ kT_Lib_Math_max_name) (C.2.2.2.1 _ kN_java_lang_Math) (C.2.2.2.1 _ kD_Lib_Math_max_name) hRf (by show 2 + 13 ≤ R.locals; omega) hRc hRs dX4_hears_69 ?_
    refine lv_topi (fun t_7 et_7 => ?_)
    have et_7 : t_7 = mx t_3 t_6 := et_7
    refine r_st_21 C w (by rw [et_2, et_1]; exact gIx (c := 31) (N := 31) rfl (by decide) (ok.n31 hk) (vp_in_nI (by omega) (by omega))) dX4_hears_72 (fun H locs w => ?_)
    have ok : rOK n _ := rOK.st ok (k := 21) (i := t_2.toNatClampNeg) (v := t_7) (fun b hb => by cases hb; rw [et_7]; exact mx_in (by rw [et_3]; exact ok.at 21 rfl _) (by rw [et_6]; exact ok.at 6 rfl _))
    obtain ⟨x_8, ex_8⟩ : ∃ y : Int32, y = (nI i) + 1 := ⟨_, rfl⟩
    refine lv_iinc (v := x_8) (lv' := [(3, _), (4, _), (2, _), (0, _), (1, _)]) C.1 C.2.1 dX4_hears_73 hl (k := 1) rfl (by rw [ex_8]; rfl) (by decide) rfl (fun ls hl => ?_)
    refine lv_goto (tgt := 19) hx hb dX4_hears_76 (by decide) ?_
    subst et_7 et_6 et_5 et_4 et_3 et_2 et_1
    have hx2 : x_8 = nI (i + 1) := by rw [ex_8]; exact nI_1 i
    rw [hx2] at hl
    exact ih (i + 1) (by omega) _ _ w ok ls (lv_sub hl [0, 2, 3, 4] rfl)
set_option maxHeartbeats 4000000 in
set_option maxRecDepth 100000 in
theorem ql_cpy {p : Program} {l : Launch} {e : Env} {R : Room} {s : State} {m : MethodId} {args : Array Value} {below : List Frame} {meth : Method} {c : Code} {cells slots : Nat} {Q : State → Prop} {D : va_G} {cI cZ cN cO : ClassId} {A : Nat → Prop} {H0 : Heap} {mm : Nat} {d : Nat → Nat} {n : Nat} (C : Cx p c cX4_hears s m args RX4 D (gTy cI cZ cN cO)) (hml : c.maxLocals = 5) {σ : RS} {k x : Int32} (hn : n ≤ 31) (hk : vp_in k n) (kk : ∀ (H : Heap) (locs : List Loc), rWd D cI cZ A H0 mm d (itr (rCpy k) n σ) H locs → rOK n (itr (rCpy k) n σ) → ∀ ls : Array Slot, lv_has ls 5 [(3, .int (nI n)), (2, .int k), (0, .ref mm), (1, .int x)] → W p l e R s m args below meth c H locs cells slots Q (F0 m 143 ls [])) : ∀ (fu i : Nat), i + fu = n → ∀ (H : Heap) (locs : List Loc), rWd D cI cZ A H0 mm d (itr (rCpy k) i σ) H locs → rOK n (itr (rCpy k) i σ) → ∀ ls : Array Slot, lv_has ls 5 [(3, .int (nI i)), (2, .int k), (0, .ref mm), (1, .int x)] → W p l e R s m args below meth c H locs cells slots Q (F0 m 107 ls []) := by
  intro fu
  induction fu with
  | zero =>
    intro i hik
    intro H locs w ok ls hl
    have hx := C.1
    have hb := C.2.1
    have hi : n = i := by omega
    subst hi
    refine lv_iload_n hx hb dX4_hears_107 rfl (lv_at hl 0 rfl) ?_
    refine lv_aload_n hx hb dX4_hears_108 rfl (lv_at hl 2 rfl) ?_
    refine r_get_0 C w dX4_hears_109 ?_
    rw [ok.nn]
    refine lv_icmp_ge (tgt := 143) hx hb dX4_hears_112 (by decide) (fun c_112 => ?_) (fun c_112 => absurd (Int32.le_refl _) c_112)
    exact kk _ _ w ok ls (lv_sub hl [0, 1, 2, 3] rfl)
  | succ fu ih =>
    intro i hik
    intro H locs w ok ls hl
    have hx := C.1
    have hb := C.2.1
    have hi : i < n := by omega
    refine lv_iload_n hx hb dX4_hears_107 rfl (lv_at hl 0 rfl) ?_
    refine lv_aload_n hx hb dX4_hears_108 rfl (lv_at hl 2 rfl) ?_
    refine r_get_0 C w dX4_hears_109 ?_
    rw [ok.nn]
    refine lv_icmp_ge (tgt := 143) hx hb dX4_hears_112 (by decide) (fun c_112 => absurd c_112 (nI_ge hi (by omega))) (fun c_112 => ?_)
    refine lv_aload_n hx hb dX4_hears_115 rfl (lv_at hl 2 rfl) ?_
    refine r_get_22 C w dX4_hears_116 ?_
    refine lv_bipush (v := 31) hx hb dX4_hears_119 (by decide) ?_
    refine lv_iload_n hx hb dX4_hears_121 rfl (lv_at hl 1 rfl) ?_
    refine lv_imul hx hb dX4_hears_122 ?_
    refine lv_topi (fun t_1 et_1 => ?_)
    refine lv_iload_n hx hb dX4_hears_123 rfl (lv_at hl 0 rfl) ?_
    refine lv_iadd hx hb dX4_hears_124 ?_
    refine lv_topi (fun t_2 et_2 => ?_)
    refine lv_aload_n hx hb dX4_hears_125 rfl (lv_at hl 2 rfl) ?_
    refine r_get_21 C w dX4_hears_126 ?_
    refine lv_bipush (v := 31) hx hb dX4_hears_129 (by decide) ?_
    refine lv_iload_n hx hb dX4_hears_131 rfl (lv_at hl 1 rfl) ?_
    refine lv_imul hx hb dX4_hears_132 ?_
    refine lv_topi (fun t_3 et_3 => ?_)
    refine lv_iload_n hx hb dX4_hears_133 rfl (lv_at hl 0 rfl) ?_
    refine lv_iadd hx hb dX4_hears_134 ?_
    refine lv_topi (fun t_4 et_4 => ?_)
    refine r_ld_21 C w (by rw [et_4, et_3]; exact gIx (c := 31) (N := 31) rfl (by decide) (ok.n31 hk) (vp_in_nI (by omega) (by omega))) dX4_hears_135 ?_
    refine lv_topi (fun t_5 et_5 => ?_)
    refine r_st_22 C w (by rw [et_2, et_1]; exact gIx (c := 31) (N := 31) rfl (by decide) (ok.n31 hk) (vp_in_nI (by omega) (by omega))) dX4_hears_136 (fun H locs w => ?_)
    have ok : rOK n _ := rOK.st ok (k := 22) (i := t_2.toNatClampNeg) (v := t_5) (fun b hb => by cases hb; rw [et_5]; exact ok.at 21 rfl _)
    obtain ⟨x_6, ex_6⟩ : ∃ y : Int32, y = (nI i) + 1 := ⟨_, rfl⟩
    refine lv_iinc (v := x_6) (lv' := [(3, _), (2, _), (0, _), (1, _)]) C.1 C.2.1 dX4_hears_137 hl (k := 0) rfl (by rw [ex_6]; rfl) (by decide) rfl (fun ls hl => ?_)
    refine lv_goto (tgt := 107) hx hb dX4_hears_140 (by decide) ?_
    subst et_5 et_4 et_3 et_2 et_1
    have hx2 : x_6 = nI (i + 1) := by rw [ex_6]; exact nI_1 i
    rw [hx2] at hl
    exact ih (i + 1) (by omega) _ _ w ok ls (lv_sub hl [0, 1, 2, 3] rfl)
set_option maxHeartbeats 4000000 in
set_option maxRecDepth 100000 in
theorem q_hearsR (l : Launch) (D : va_G) (cI cZ cN cO : ClassId) (A : Nat → Prop) (mm : Nat) (d : Nat → Nat) (n : Nat) (σ : RS) (x k : Int32) (ok : rOK n σ) (hx1 : vp_in x 2001) (hkr : σ.2 4 x.toNatClampNeg = k) (hk : vp_in k n) (hkd : σ.2 2 x.toNatClampNeg = 1) (hok : rHOk n k (itr (rMax 21 k x) n (rH0 k σ))) : Met l yX4_hears (.code yX4_hears cX4_hears 5 none :: gw) ({ frames := 4, cells := 0, slots := 0, locals := 99 }) (va_Pc (.ref mm :: [.int x]) (rH D cI cZ cN cO A mm d σ)) (va_Qv (fun _ : Unit => True) (fun _ t => rH D cI cZ cN cO A mm d (rHr2 n k (itr (rMax 21 k x) n (rH0 k σ))) t ∧ rOK n (rHr2 n k (itr (rMax 21 k x) n (rH0 k σ)))) A) 0 0 A := by
  refine Met.ofW (cc := cX4_hears) (maxL := 5) (ret := none) (by decide) rfl ?_
  intro p e s m args below meth c s₁ B hml hv
  obtain ⟨rfl, hP, hK, hD⟩ := hv
  have hx := B.exec
  have hb := B.bytes
  have hr := B.returns
  have hts := atoms_spec (ws := (.code yX4_hears cX4_hears 5 none :: gw)) B.pre
  have hg : ∀ w ∈ gw, w.before _ s = true := fun w h => hts w (List.mem_cons_of_mem _ h)
  have hown : s.vm.findClass RX4 = some m.cls := findClass_of_methodNamed B.named
  have hlocks := B.notSynchronized
  have C : Cx p c cX4_hears s m _ RX4 D (gTy cI cZ cN cO) := ⟨hx, hb, hown, hg, hK⟩
  have w : rWd D cI cZ A s.heap mm d σ s.heap [] := ⟨hP, hD, va_S.rf⟩
  have hl := lv_entry ([.ref mm, .int x]) (n := 5) (Nat.le_of_ble_eq_true rfl)
  rw [lg_entry_eq]
  generalize (lg_sl ([.ref mm, .int x]) ++ List.replicate (5 - (lg_sl ([.ref mm, .int x])).length) Slot.unset).toArray = ls at hl ⊢
  have hl : lv_has ls 5 [(0, .ref mm), (1, .int x)] := hl
  refine lv_aload_n hx hb dX4_hears_0 rfl (lv_at hl 0 rfl) ?_
  refine r_get_4 C w dX4_hears_1 ?_
  refine lv_iload_n hx hb dX4_hears_4 rfl (lv_at hl 1 rfl) ?_
  refine r_ld_4 C w hx1 dX4_hears_5 ?_
  rw [hkr]
  refine lv_istore_n (lv' := [(2, _), (0, _), (1, _)]) C.1 C.2.1 dX4_hears_6 rfl hl (by decide) rfl (fun ls hl => ?_)
  refine lv_aload_n hx hb dX4_hears_7 rfl (lv_at hl 1 rfl) ?_
  refine r_get_17 C w dX4_hears_8 ?_
  refine lv_iload_n hx hb dX4_hears_11 rfl (lv_at hl 0 rfl) ?_
  refine lv_dup2_11 hx hb dX4_hears_12 rfl rfl ?_
  refine r_ld_17 C w (ok.n31 hk) dX4_hears_13 ?_
  refine lv_topi (fun t_1 et_1 => ?_)
  refine lv_iconst (v := 1) hx hb dX4_hears_14 (by decide) ?_
  refine lv_iadd hx hb dX4_hears_15 ?_
  refine lv_topi (fun t_2 et_2 => ?_)
  refine r_st_17 C w (ok.n31 hk) dX4_hears_16 (fun H locs w => ?_)
  have ok : rOK n _ := rOK.st ok (k := 17) (i := k.toNatClampNeg) (v := t_2) (fun b hb => by cases hb)
  refine lv_iconst (v := 0) hx hb dX4_hears_17 (by decide) ?_
  refine lv_istore_n (lv' := [(3, _), (2, _), (0, _), (1, _)]) C.1 C.2.1 dX4_hears_18 rfl hl (by decide) rfl (fun ls hl => ?_)
  subst et_2 et_1
  have w : rWd D cI cZ A s.heap mm d (rH0 k σ) H locs := w
  have ok : rOK n (rH0 k σ) := ok
  rw [← nI_0] at hl
  refine ql_hear (σ := rH0 k σ) C hml ok.2.1 hk hx1 hkd (Nat.le_of_ble_eq_true rfl) (Nat.le_of_ble_eq_true rfl) (Nat.zero_le _) (Nat.zero_le _) ?_ n 0 (by omega) _ _ w ok ls (lv_sub hl [0, 1, 2, 3] rfl)
  intro H locs w ok ls hl
  obtain ⟨σ1, hσ1⟩ : ∃ z, z = itr (rMax 21 k x) n (rH0 k σ) := ⟨_, rfl⟩
  rw [← hσ1] at w ok hok ⊢
  refine lv_iconst (v := 2) hx hb dX4_hears_79 (by decide) ?_
  refine lv_aload_n hx hb dX4_hears_80 rfl (lv_at hl 2 rfl) ?_
  refine r_get_17 C w dX4_hears_81 ?_
  refine lv_iload_n hx hb dX4_hears_84 rfl (lv_at hl 1 rfl) ?_
  refine r_ld_17 C w (ok.n31 hk) dX4_hears_85 ?_
  refine lv_topi (fun t_3 et_3 => ?_)
  refine lv_imul hx hb dX4_hears_86 ?_
  refine lv_topi (fun t_4 et_4 => ?_)
  refine lv_aload_n hx hb dX4_hears_87 rfl (lv_at hl 2 rfl) ?_
  refine r_get_0 C w dX4_hears_88 ?_
  rw [ok.nn]
  refine lv_icmp_gt (tgt := 95) hx hb dX4_hears_91 (by decide) (fun c_91 => ?_) (fun c_91 => ?_)
  · refine lv_aload_n hx hb dX4_hears_95 rfl (lv_at hl 2 rfl) ?_
    refine r_get_14 C w dX4_hears_96 ?_
    refine lv_iload_n hx hb dX4_hears_99 rfl (lv_at hl 1 rfl) ?_
    refine r_ld_14 C w (ok.n31 hk) dX4_hears_100 ?_
    refine lv_topi (fun t_5 et_5 => ?_)
    refine lv_iconst (v := 1) hx hb dX4_hears_101 (by decide) ?_
    refine lv_icmp_ne (tgt := 163) hx hb dX4_hears_102 (by decide) (fun c_102 => ?_) (fun c_102 => ?_)
    · refine lv_aload_n hx hb dX4_hears_163 rfl (lv_at hl 2 rfl) ?_
      refine r_get_14 C w dX4_hears_164 ?_
      refine lv_iload_n hx hb dX4_hears_167 rfl (lv_at hl 1 rfl) ?_
      refine r_ld_14 C w (ok.n31 hk) dX4_hears_168 ?_
      refine lv_topi (fun t_6 et_6 => ?_)
      refine lv_iconst (v := 2) hx hb dX4_hears_169 (by decide) ?_
      refine lv_icmp_ne (tgt := 181) hx hb dX4_hears_170 (by decide) (fun c_170 => ?_) (fun c_170 => ?_)
      · refine lv_aload_n hx hb dX4_hears_181 rfl (lv_at hl 2 rfl) ?_
        refine lv_iload_n hx hb dX4_hears_182 rfl (lv_at hl 1 rfl) ?_
        subst et_6 et_5 et_4 et_3
        refine r_callv (As := [.int k]) (rest := []) C w hml hl.1 (q_ends l D cI cZ cN cO A mm d n _ k ok hk) kM_X4_162 kI_X4_ends kS_X4_ends kD_X4_ends (show yX4_ends.cls = RX4 ∧ yX4_ends.cls ≠ "java/lang/invoke/MethodHandle" ∧ yX4_ends.cls ≠ "java/lang/invoke/VarHandle" ∧ (parseMethodDescriptor yX4_ends.desc).map (fun d => d.parameters.length) = some 1 from by decide +kernel) rfl rfl ⟨Nat.le_of_ble_eq_true rfl, Nat.le_of_ble_eq_true rfl⟩ rfl (lv_room (Nat.le_of_ble_eq_true rfl)) dX4_hears_183 ⟨Nat.zero_le _, Nat.zero_le _⟩ (fun H locs w ok => ?_)
        have w : rWd D cI cZ A s.heap mm d (rHr2 n k σ1) H locs := by unfold rHr2; first | (rw [cif_neg c_91]; exact w) | (rw [cif_pos c_91, cif_pos c_102]; exact w) | (rw [cif_pos c_91, cif_neg c_102, cif_pos c_170]; exact w) | (rw [cif_pos c_91, cif_neg c_102, cif_neg c_170]; exact w)
        have ok : rOK n (rHr2 n k σ1) := by unfold rHr2; first | (rw [cif_neg c_91]; exact ok) | (rw [cif_pos c_91, cif_pos c_102]; exact ok) | (rw [cif_pos c_91, cif_neg c_102, cif_pos c_170]; exact ok) | (rw [cif_pos c_91, cif_neg c_102, cif_neg c_170]; exact ok)
        exact W.vret hx hb hr (fun t ht hW => ⟨⟨(), rfl, trivial, ⟨by rw [ht]; exact w.1, va_K.moved hW.alike hK, w.2.1⟩, ok⟩, w.2.2.F ht⟩) w.2.2.2.2 dX4_hears_186
      · refine lv_aload_n hx hb dX4_hears_173 rfl (lv_at hl 2 rfl) ?_
        refine lv_iload_n hx hb dX4_hears_174 rfl (lv_at hl 1 rfl) ?_
        subst et_6 et_5 et_4 et_3
        refine r_callv (As := [.int k]) (rest := []) C w hml hl.1 (q_through l D cI cZ cN cO A mm d n _ k ok hk (hok.2 c_91 c_170)) kM_X4_180 kI_X4_through kS_X4_through kD_X4_through (show yX4_through.cls = RX4 ∧ yX4_through.cls ≠ "java/lang/invoke/MethodHandle" ∧ yX4_through.cls ≠ "java/lang/invoke/VarHandle" ∧ (parseMethodDescriptor yX4_through.desc).map (fun d => d.parameters.length) = some 1 from by decide +kernel) rfl rfl ⟨Nat.le_of_ble_eq_true rfl, Nat.le_of_ble_eq_true rfl⟩ rfl (lv_room (Nat.le_of_ble_eq_true rfl)) dX4_hears_175 ⟨Nat.zero_le _, Nat.zero_le _⟩ (fun H locs w ok => ?_)
        refine lv_goto (tgt := 186) hx hb dX4_hears_178 (by decide) ?_
        have w : rWd D cI cZ A s.heap mm d (rHr2 n k σ1) H locs := by unfold rHr2; first | (rw [cif_neg c_91]; exact w) | (rw [cif_pos c_91, cif_pos c_102]; exact w) | (rw [cif_pos c_91, cif_neg c_102, cif_pos c_170]; exact w) | (rw [cif_pos c_91, cif_neg c_102, cif_neg c_170]; exact w)
        have ok : rOK n (rHr2 n k σ1) := by unfold rHr2; first | (rw [cif_neg c_91]; exact ok) | (rw [cif_pos c_91, cif_pos c_102]; exact ok) | (rw [cif_pos c_91, cif_neg c_102, cif_pos c_170]; exact ok) | (rw [cif_pos c_91, cif_neg c_102, cif_neg c_170]; exact ok)
        exact W.vret hx hb hr (fun t ht hW => ⟨⟨(), rfl, trivial, ⟨by rw [ht]; exact w.1, va_K.moved hW.alike hK, w.2.1⟩, ok⟩, w.2.2.F ht⟩) w.2.2.2.2 dX4_hears_186
    · refine lv_iconst (v := 0) hx hb dX4_hears_105 (by decide) ?_
      refine lv_istore_n (lv' := [(3, _), (2, _), (0, _), (1, _)]) C.1 C.2.1 dX4_hears_106 rfl hl (by decide) rfl (fun ls hl => ?_)
      subst et_5 et_4 et_3
      rw [← nI_0] at hl
      refine ql_cpy C hml ok.2.1 hk ?_ n 0 (by omega) _ _ w ok ls (lv_sub hl [0, 1, 2, 3] rfl)
      intro H locs w ok ls hl
      refine lv_aload_n hx hb dX4_hears_143 rfl (lv_at hl 2 rfl) ?_
      refine r_get_14 C w dX4_hears_144 ?_
      refine lv_iload_n hx hb dX4_hears_147 rfl (lv_at hl 1 rfl) ?_
      refine lv_iconst (v := 2) hx hb dX4_hears_148 (by decide) ?_
      refine r_st_14 C w (ok.n31 hk) dX4_hears_149 (fun H locs w => ?_)
      have ok : rOK n _ := rOK.st ok (k := 14) (i := k.toNatClampNeg) (v := 2) (fun b hb => by cases hb)
      refine lv_aload_n hx hb dX4_hears_150 rfl (lv_at hl 2 rfl) ?_
      refine lv_iload_n hx hb dX4_hears_151 rfl (lv_at hl 1 rfl) ?_
      refine lv_iconst (v := 2) hx hb dX4_hears_152 (by decide) ?_
      refine lv_aload_n hx hb dX4_hears_153 rfl (lv_at hl 2 rfl) ?_
      refine r_get_22 C w dX4_hears_154 ?_
      refine r_callv (As := [.int k, .int 2, .ref ((d 22))]) (rest := []) C w hml hl.1 (q_toS22 l D cI cZ cN cO A mm d n _ k ok hk (rRm.st (rRm.iter (fun i σ h => h.st (by decide)) n (hok.1 c_91 c_102)) (by decide))) kM_X4_125 kI_X4_toAll kS_X4_toAll kD_X4_toAll (show yX4_toAll.cls = RX4 ∧ yX4_toAll.cls ≠ "java/lang/invoke/MethodHandle" ∧ yX4_toAll.cls ≠ "java/lang/invoke/VarHandle" ∧ (parseMethodDescriptor yX4_toAll.desc).map (fun d => d.parameters.length) = some 3 from by decide +kernel) rfl rfl ⟨Nat.le_of_ble_eq_true rfl, Nat.le_of_ble_eq_true rfl⟩ rfl (lv_room (Nat.le_of_ble_eq_true rfl)) dX4_hears_157 ⟨Nat.zero_le _, Nat.zero_le _⟩ (fun H locs w ok => ?_)
      refine lv_goto (tgt := 186) hx hb dX4_hears_160 (by decide) ?_
      have w : rWd D cI cZ A s.heap mm d (rHr2 n k σ1) H locs := by unfold rHr2; first | (rw [cif_neg c_91]; exact w) | (rw [cif_pos c_91, cif_pos c_102]; exact w) | (rw [cif_pos c_91, cif_neg c_102, cif_pos c_170]; exact w) | (rw [cif_pos c_91, cif_neg c_102, cif_neg c_170]; exact w)
      have ok : rOK n (rHr2 n k σ1) := by unfold rHr2; first | (rw [cif_neg c_91]; exact ok) | (rw [cif_pos c_91, cif_pos c_102]; exact ok) | (rw [cif_pos c_91, cif_neg c_102, cif_pos c_170]; exact ok) | (rw [cif_pos c_91, cif_neg c_102, cif_neg c_170]; exact ok)
      exact W.vret hx hb hr (fun t ht hW => ⟨⟨(), rfl, trivial, ⟨by rw [ht]; exact w.1, va_K.moved hW.alike hK, w.2.1⟩, ok⟩, w.2.2.F ht⟩) w.2.2.2.2 dX4_hears_186
  · subst et_4 et_3
    have w : rWd D cI cZ A s.heap mm d (rHr2 n k σ1) H locs := by unfold rHr2; first | (rw [cif_neg c_91]; exact w) | (rw [cif_pos c_91, cif_pos c_102]; exact w) | (rw [cif_pos c_91, cif_neg c_102, cif_pos c_170]; exact w) | (rw [cif_pos c_91, cif_neg c_102, cif_neg c_170]; exact w)
    have ok : rOK n (rHr2 n k σ1) := by unfold rHr2; first | (rw [cif_neg c_91]; exact ok) | (rw [cif_pos c_91, cif_pos c_102]; exact ok) | (rw [cif_pos c_91, cif_neg c_102, cif_pos c_170]; exact ok) | (rw [cif_pos c_91, cif_neg c_102, cif_neg c_170]; exact ok)
    exact W.vret hx hb hr (fun t ht hW => ⟨⟨(), rfl, trivial, ⟨by rw [ht]; exact w.1, va_K.moved hW.alike hK, w.2.1⟩, ok⟩, w.2.2.F ht⟩) w.2.2.2.2 dX4_hears_94
set_option maxHeartbeats 4000000 in
set_option maxRecDepth 100000 in
theorem q_hearsA (l : Launch) (D : va_G) (cI cZ cN cO : ClassId) (A : Nat → Prop) (mm : Nat) (d : Nat → Nat) (n : Nat) (σ : RS) (x k : Int32) (ok : rOK n σ) (hx1 : vp_in x 2001) (hkr : σ.2 4 x.toNatClampNeg = k) (hk : vp_in k n) (hkd : ¬ σ.2 2 x.toNatClampNeg = 1) (hok : rHOk n k (rH0 k σ)) : Met l yX4_hears (.code yX4_hears cX4_hears 5 none :: gw) ({ frames := 4, cells := 0, slots := 0, locals := 99 }) (va_Pc (.ref mm :: [.int x]) (rH D cI cZ cN cO A mm d σ)) (va_Qv (fun _ : Unit => True) (fun _ t => rH D cI cZ cN cO A mm d (rHr2 n k (rH0 k σ)) t ∧ rOK n (rHr2 n k (rH0 k σ))) A) 0 0 A := by
  refine Met.ofW (cc := cX4_hears) (maxL := 5) (ret := none) (by decide) rfl ?_
  intro p e s m args below meth c s₁ B hml hv
  obtain ⟨rfl, hP, hK, hD⟩ := hv
  have hx := B.exec
  have hb := B.bytes
  have hr := B.returns
  have hts := atoms_spec (ws := (.code yX4_hears cX4_hears 5 none :: gw)) B.pre
  have hg : ∀ w ∈ gw, w.before _ s = true := fun w h => hts w (List.mem_cons_of_mem _ h)
  have hown : s.vm.findClass RX4 = some m.cls := findClass_of_methodNamed B.named
  have hlocks := B.notSynchronized
  have C : Cx p c cX4_hears s m _ RX4 D (gTy cI cZ cN cO) := ⟨hx, hb, hown, hg, hK⟩
  have w : rWd D cI cZ A s.heap mm d σ s.heap [] := ⟨hP, hD, va_S.rf⟩
  have hl := lv_entry ([.ref mm, .int x]) (n := 5) (Nat.le_of_ble_eq_true rfl)
  rw [lg_entry_eq]
  generalize (lg_sl ([.ref mm, .int x]) ++ List.replicate (5 - (lg_sl ([.ref mm, .int x])).length) Slot.unset).toArray = ls at hl ⊢
  have hl : lv_has ls 5 [(0, .ref mm), (1, .int x)] := hl
  refine lv_aload_n hx hb dX4_hears_0 rfl (lv_at hl 0 rfl) ?_
  refine r_get_4 C w dX4_hears_1 ?_
  refine lv_iload_n hx hb dX4_hears_4 rfl (lv_at hl 1 rfl) ?_
  refine r_ld_4 C w hx1 dX4_hears_5 ?_
  rw [hkr]
  refine lv_istore_n (lv' := [(2, _), (0, _), (1, _)]) C.1 C.2.1 dX4_hears_6 rfl hl (by decide) rfl (fun ls hl => ?_)
  refine lv_aload_n hx hb dX4_hears_7 rfl (lv_at hl 1 rfl) ?_
  refine r_get_17 C w dX4_hears_8 ?_
  refine lv_iload_n hx hb dX4_hears_11 rfl (lv_at hl 0 rfl) ?_
  refine lv_dup2_11 hx hb dX4_hears_12 rfl rfl ?_
  refine r_ld_17 C w (ok.n31 hk) dX4_hears_13 ?_
  refine lv_topi (fun t_1 et_1 => ?_)
  refine lv_iconst (v := 1) hx hb dX4_hears_14 (by decide) ?_
  refine lv_iadd hx hb dX4_hears_15 ?_
  refine lv_topi (fun t_2 et_2 => ?_)
  refine r_st_17 C w (ok.n31 hk) dX4_hears_16 (fun H locs w => ?_)
  have ok : rOK n _ := rOK.st ok (k := 17) (i := k.toNatClampNeg) (v := t_2) (fun b hb => by cases hb)
  refine lv_iconst (v := 0) hx hb dX4_hears_17 (by decide) ?_
  refine lv_istore_n (lv' := [(3, _), (2, _), (0, _), (1, _)]) C.1 C.2.1 dX4_hears_18 rfl hl (by decide) rfl (fun ls hl => ?_)
  subst et_2 et_1
  have w : rWd D cI cZ A s.heap mm d (rH0 k σ) H locs := w
  have ok : rOK n (rH0 k σ) := ok
  refine lv_iload_n hx hb dX4_hears_19 rfl (lv_at hl 0 rfl) ?_
  refine lv_aload_n hx hb dX4_hears_20 rfl (lv_at hl 2 rfl) ?_
  refine r_get_0 C w dX4_hears_21 ?_
  rw [ok.nn]
  refine lv_icmp_ge (tgt := 79) hx hb dX4_hears_24 (by decide) (fun c_24 => absurd c_24 (by rw [← nI_0]; exact nI_ge (by have := ok.1; omega) (by have := ok.2.1; omega))) (fun c_24 => ?_)
  refine lv_aload_n hx hb dX4_hears_27 rfl (lv_at hl 2 rfl) ?_
  refine r_get_2 C w dX4_hears_28 ?_
  refine lv_iload_n hx hb dX4_hears_31 rfl (lv_at hl 3 rfl) ?_
  refine r_ld_2 C w hx1 dX4_hears_32 ?_
  refine lv_topi (fun t_3 et_3 => ?_)
  refine lv_iconst (v := 1) hx hb dX4_hears_33 (by decide) ?_
  refine lv_icmp_ne (tgt := 79) hx hb dX4_hears_34 (by decide) (fun c_34 => ?_) (fun c_34 => absurd (show t_3 = 1 from c_34) (by rw [et_3]; exact hkd))
  subst et_3
  obtain ⟨σ1, hσ1⟩ : ∃ z, z = rH0 k σ := ⟨_, rfl⟩
  rw [← hσ1] at w ok hok ⊢
  refine lv_iconst (v := 2) hx hb dX4_hears_79 (by decide) ?_
  refine lv_aload_n hx hb dX4_hears_80 rfl (lv_at hl 2 rfl) ?_
  refine r_get_17 C w dX4_hears_81 ?_
  refine lv_iload_n hx hb dX4_hears_84 rfl (lv_at hl 1 rfl) ?_
  refine r_ld_17 C w (ok.n31 hk) dX4_hears_85 ?_
  refine lv_topi (fun t_4 et_4 => ?_)
  refine lv_imul hx hb dX4_hears_86 ?_
  refine lv_topi (fun t_5 et_5 => ?_)
  refine lv_aload_n hx hb dX4_hears_87 rfl (lv_at hl 2 rfl) ?_
  refine r_get_0 C w dX4_hears_88 ?_
  rw [ok.nn]
  refine lv_icmp_gt (tgt := 95) hx hb dX4_hears_91 (by decide) (fun c_91 => ?_) (fun c_91 => ?_)
  · refine lv_aload_n hx hb dX4_hears_95 rfl (lv_at hl 2 rfl) ?_
    refine r_get_14 C w dX4_hears_96 ?_
    refine lv_iload_n hx hb dX4_hears_99 rfl (lv_at hl 1 rfl) ?_
    refine r_ld_14 C w (ok.n31 hk) dX4_hears_100 ?_
    refine lv_topi (fun t_6 et_6 => ?_)
    refine lv_iconst (v := 1) hx hb dX4_hears_101 (by decide) ?_
    refine lv_icmp_ne (tgt := 163) hx hb dX4_hears_102 (by decide) (fun c_102 => ?_) (fun c_102 => ?_)
    · refine lv_aload_n hx hb dX4_hears_163 rfl (lv_at hl 2 rfl) ?_
      refine r_get_14 C w dX4_hears_164 ?_
      refine lv_iload_n hx hb dX4_hears_167 rfl (lv_at hl 1 rfl) ?_
      refine r_ld_14 C w (ok.n31 hk) dX4_hears_168 ?_
      refine lv_topi (fun t_7 et_7 => ?_)
      refine lv_iconst (v := 2) hx hb dX4_hears_169 (by decide) ?_
      refine lv_icmp_ne (tgt := 181) hx hb dX4_hears_170 (by decide) (fun c_170 => ?_) (fun c_170 => ?_)
      · refine lv_aload_n hx hb dX4_hears_181 rfl (lv_at hl 2 rfl) ?_
        refine lv_iload_n hx hb dX4_hears_182 rfl (lv_at hl 1 rfl) ?_
        subst et_7 et_6 et_5 et_4
        refine r_callv (As := [.int k]) (rest := []) C w hml hl.1 (q_ends l D cI cZ cN cO A mm d n _ k ok hk) kM_X4_162 kI_X4_ends kS_X4_ends kD_X4_ends (show yX4_ends.cls = RX4 ∧ yX4_ends.cls ≠ "java/lang/invoke/MethodHandle" ∧ yX4_ends.cls ≠ "java/lang/invoke/VarHandle" ∧ (parseMethodDescriptor yX4_ends.desc).map (fun d => d.parameters.length) = some 1 from by decide +kernel) rfl rfl ⟨Nat.le_of_ble_eq_true rfl, Nat.le_of_ble_eq_true rfl⟩ rfl (lv_room (Nat.le_of_ble_eq_true rfl)) dX4_hears_183 ⟨Nat.zero_le _, Nat.zero_le _⟩ (fun H locs w ok => ?_)
        have w : rWd D cI cZ A s.heap mm d (rHr2 n k σ1) H locs := by unfold rHr2; first | (rw [cif_neg c_91]; exact w) | (rw [cif_pos c_91, cif_pos c_102]; exact w) | (rw [cif_pos c_91, cif_neg c_102, cif_pos c_170]; exact w) | (rw [cif_pos c_91, cif_neg c_102, cif_neg c_170]; exact w)
        have ok : rOK n (rHr2 n k σ1) := by unfold rHr2; first | (rw [cif_neg c_91]; exact ok) | (rw [cif_pos c_91, cif_pos c_102]; exact ok) | (rw [cif_pos c_91, cif_neg c_102, cif_pos c_170]; exact ok) | (rw [cif_pos c_91, cif_neg c_102, cif_neg c_170]; exact ok)
        exact W.vret hx hb hr (fun t ht hW => ⟨⟨(), rfl, trivial, ⟨by rw [ht]; exact w.1, va_K.moved hW.alike hK, w.2.1⟩, ok⟩, w.2.2.F ht⟩) w.2.2.2.2 dX4_hears_186
      · refine lv_aload_n hx hb dX4_hears_173 rfl (lv_at hl 2 rfl) ?_
        refine lv_iload_n hx hb dX4_hears_174 rfl (lv_at hl 1 rfl) ?_
        subst et_7 et_6 et_5 et_4
        refine r_callv (As := [.int k]) (rest := []) C w hml hl.1 (q_through l D cI cZ cN cO A mm d n _ k ok hk (hok.2 c_91 c_170)) kM_X4_180 kI_X4_through kS_X4_through kD_X4_through (show yX4_through.cls = RX4 ∧ yX4_through.cls ≠ "java/lang/invoke/MethodHandle" ∧ yX4_through.cls ≠ "java/lang/invoke/VarHandle" ∧ (parseMethodDescriptor yX4_through.desc).map (fun d => d.parameters.length) = some 1 from by decide +kernel) rfl rfl ⟨Nat.le_of_ble_eq_true rfl, Nat.le_of_ble_eq_true rfl⟩ rfl (lv_room (Nat.le_of_ble_eq_true rfl)) dX4_hears_175 ⟨Nat.zero_le _, Nat.zero_le _⟩ (fun H locs w ok => ?_)
        refine lv_goto (tgt := 186) hx hb dX4_hears_178 (by decide) ?_
        have w : rWd D cI cZ A s.heap mm d (rHr2 n k σ1) H locs := by unfold rHr2; first | (rw [cif_neg c_91]; exact w) | (rw [cif_pos c_91, cif_pos c_102]; exact w) | (rw [cif_pos c_91, cif_neg c_102, cif_pos c_170]; exact w) | (rw [cif_pos c_91, cif_neg c_102, cif_neg c_170]; exact w)
        have ok : rOK n (rHr2 n k σ1) := by unfold rHr2; first | (rw [cif_neg c_91]; exact ok) | (rw [cif_pos c_91, cif_pos c_102]; exact ok) | (rw [cif_pos c_91, cif_neg c_102, cif_pos c_170]; exact ok) | (rw [cif_pos c_91, cif_neg c_102, cif_neg c_170]; exact ok)
        exact W.vret hx hb hr (fun t ht hW => ⟨⟨(), rfl, trivial, ⟨by rw [ht]; exact w.1, va_K.moved hW.alike hK, w.2.1⟩, ok⟩, w.2.2.F ht⟩) w.2.2.2.2 dX4_hears_186
    · refine lv_iconst (v := 0) hx hb dX4_hears_105 (by decide) ?_
      refine lv_istore_n (lv' := [(3, _), (2, _), (0, _), (1, _)]) C.1 C.2.1 dX4_hears_106 rfl hl (by decide) rfl (fun ls hl => ?_)
      subst et_6 et_5 et_4
      rw [← nI_0] at hl
      refine ql_cpy C hml ok.2.1 hk ?_ n 0 (by omega) _ _ w ok ls (lv_sub hl [0, 1, 2, 3] rfl)
      intro H locs w ok ls hl
      refine lv_aload_n hx hb dX4_hears_143 rfl (lv_at hl 2 rfl) ?_
      refine r_get_14 C w dX4_hears_144 ?_
      refine lv_iload_n hx hb dX4_hears_147 rfl (lv_at hl 1 rfl) ?_
      refine lv_iconst (v := 2) hx hb dX4_hears_148 (by decide) ?_
      refine r_st_14 C w (ok.n31 hk) dX4_hears_149 (fun H locs w => ?_)
      have ok : rOK n _ := rOK.st ok (k := 14) (i := k.toNatClampNeg) (v := 2) (fun b hb => by cases hb)
      refine lv_aload_n hx hb dX4_hears_150 rfl (lv_at hl 2 rfl) ?_
      refine lv_iload_n hx hb dX4_hears_151 rfl (lv_at hl 1 rfl) ?_
      refine lv_iconst (v := 2) hx hb dX4_hears_152 (by decide) ?_
      refine lv_aload_n hx hb dX4_hears_153 rfl (lv_at hl 2 rfl) ?_
      refine r_get_22 C w dX4_hears_154 ?_
      refine r_callv (As := [.int k, .int 2, .ref ((d 22))]) (rest := []) C w hml hl.1 (q_toS22 l D cI cZ cN cO A mm d n _ k ok hk (rRm.st (rRm.iter (fun i σ h => h.st (by decide)) n (hok.1 c_91 c_102)) (by decide))) kM_X4_125 kI_X4_toAll kS_X4_toAll kD_X4_toAll (show yX4_toAll.cls = RX4 ∧ yX4_toAll.cls ≠ "java/lang/invoke/MethodHandle" ∧ yX4_toAll.cls ≠ "java/lang/invoke/VarHandle" ∧ (parseMethodDescriptor yX4_toAll.desc).map (fun d => d.parameters.length) = some 3 from by decide +kernel) rfl rfl ⟨Nat.le_of_ble_eq_true rfl, Nat.le_of_ble_eq_true rfl⟩ rfl (lv_room (Nat.le_of_ble_eq_true rfl)) dX4_hears_157 ⟨Nat.zero_le _, Nat.zero_le _⟩ (fun H locs w ok => ?_)
      refine lv_goto (tgt := 186) hx hb dX4_hears_160 (by decide) ?_
      have w : rWd D cI cZ A s.heap mm d (rHr2 n k σ1) H locs := by unfold rHr2; first | (rw [cif_neg c_91]; exact w) | (rw [cif_pos c_91, cif_pos c_102]; exact w) | (rw [cif_pos c_91, cif_neg c_102, cif_pos c_170]; exact w) | (rw [cif_pos c_91, cif_neg c_102, cif_neg c_170]; exact w)
      have ok : rOK n (rHr2 n k σ1) := by unfold rHr2; first | (rw [cif_neg c_91]; exact ok) | (rw [cif_pos c_91, cif_pos c_102]; exact ok) | (rw [cif_pos c_91, cif_neg c_102, cif_pos c_170]; exact ok) | (rw [cif_pos c_91, cif_neg c_102, cif_neg c_170]; exact ok)
      exact W.vret hx hb hr (fun t ht hW => ⟨⟨(), rfl, trivial, ⟨by rw [ht]; exact w.1, va_K.moved hW.alike hK, w.2.1⟩, ok⟩, w.2.2.F ht⟩) w.2.2.2.2 dX4_hears_186
  · subst et_5 et_4
    have w : rWd D cI cZ A s.heap mm d (rHr2 n k σ1) H locs := by unfold rHr2; first | (rw [cif_neg c_91]; exact w) | (rw [cif_pos c_91, cif_pos c_102]; exact w) | (rw [cif_pos c_91, cif_neg c_102, cif_pos c_170]; exact w) | (rw [cif_pos c_91, cif_neg c_102, cif_neg c_170]; exact w)
    have ok : rOK n (rHr2 n k σ1) := by unfold rHr2; first | (rw [cif_neg c_91]; exact ok) | (rw [cif_pos c_91, cif_pos c_102]; exact ok) | (rw [cif_pos c_91, cif_neg c_102, cif_pos c_170]; exact ok) | (rw [cif_pos c_91, cif_neg c_102, cif_neg c_170]; exact ok)
    exact W.vret hx hb hr (fun t ht hW => ⟨⟨(), rfl, trivial, ⟨by rw [ht]; exact w.1, va_K.moved hW.alike hK, w.2.1⟩, ok⟩, w.2.2.F ht⟩) w.2.2.2.2 dX4_hears_94
end
