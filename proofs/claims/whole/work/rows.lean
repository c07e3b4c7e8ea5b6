section
/-- a private method of a class that the tables say can be made, by its rows of tables_1 -/
def lw_okq (q : MethodName × Nat) : Prop := (q.1.cls ≠ "java/lang/invoke/MethodHandle" ∧ q.1.cls ≠ "java/lang/invoke/VarHandle") ∧ Cond.instantiable q.1.cls q.2 ∈ tables_1 ∧ Cond.privateMethod q.1 ∈ tables_1 ∧ Cond.instanceMethod q.1 ∈ tables_1
theorem lw_p0 : lw_okq (⟨"ReplicaSessions$History", "stateAfterOldest", "(I)LReplicaSessions$State;"⟩, 3) := ⟨⟨by decide +kernel, by decide +kernel⟩, List.mem_of_getElem? (i := 159) (by decide +kernel), List.mem_of_getElem? (i := 228) (by decide +kernel), List.mem_of_getElem? (i := 229) (by decide +kernel)⟩
theorem lw_p1 : lw_okq (⟨"ReplicaSessions", "startReplica", "(II)I"⟩, 5) := ⟨⟨by decide +kernel, by decide +kernel⟩, List.mem_of_getElem? (i := 13) (by decide +kernel), List.mem_of_getElem? (i := 255) (by decide +kernel), List.mem_of_getElem? (i := 256) (by decide +kernel)⟩
theorem lw_p2 : lw_okq (⟨"ReplicaSessions", "removeReplica", "(I)I"⟩, 5) := ⟨⟨by decide +kernel, by decide +kernel⟩, List.mem_of_getElem? (i := 13) (by decide +kernel), List.mem_of_getElem? (i := 290) (by decide +kernel), List.mem_of_getElem? (i := 291) (by decide +kernel)⟩
theorem lw_p3 : lw_okq (⟨"ReplicaSessions", "changeRate", "(II)I"⟩, 5) := ⟨⟨by decide +kernel, by decide +kernel⟩, List.mem_of_getElem? (i := 13) (by decide +kernel), List.mem_of_getElem? (i := 307) (by decide +kernel), List.mem_of_getElem? (i := 308) (by decide +kernel)⟩
theorem lw_p4 : lw_okq (⟨"ReplicaSessions", "changeStopped", "(IZ)I"⟩, 5) := ⟨⟨by decide +kernel, by decide +kernel⟩, List.mem_of_getElem? (i := 13) (by decide +kernel), List.mem_of_getElem? (i := 315) (by decide +kernel), List.mem_of_getElem? (i := 316) (by decide +kernel)⟩
theorem lw_p5 : lw_okq (⟨"ReplicaSessions", "setBack", "(II)I"⟩, 5) := ⟨⟨by decide +kernel, by decide +kernel⟩, List.mem_of_getElem? (i := 13) (by decide +kernel), List.mem_of_getElem? (i := 323) (by decide +kernel), List.mem_of_getElem? (i := 324) (by decide +kernel)⟩
theorem lw_p6 : lw_okq (⟨"ReplicaSessions", "letTicksPass", "(I)I"⟩, 5) := ⟨⟨by decide +kernel, by decide +kernel⟩, List.mem_of_getElem? (i := 13) (by decide +kernel), List.mem_of_getElem? (i := 331) (by decide +kernel), List.mem_of_getElem? (i := 332) (by decide +kernel)⟩
theorem lw_p7 : lw_okq (⟨"ReplicaSessions", "startSession", "(III)I"⟩, 5) := ⟨⟨by decide +kernel, by decide +kernel⟩, List.mem_of_getElem? (i := 13) (by decide +kernel), List.mem_of_getElem? (i := 432) (by decide +kernel), List.mem_of_getElem? (i := 433) (by decide +kernel)⟩
theorem lw_p8 : lw_okq (⟨"ReplicaSessions", "endSession", "(I)I"⟩, 5) := ⟨⟨by decide +kernel, by decide +kernel⟩, List.mem_of_getElem? (i := 13) (by decide +kernel), List.mem_of_getElem? (i := 451) (by decide +kernel), List.mem_of_getElem? (i := 452) (by decide +kernel)⟩
theorem lw_p9 : lw_okq (⟨"ReplicaSessions", "changeHome", "(II)I"⟩, 5) := ⟨⟨by decide +kernel, by decide +kernel⟩, List.mem_of_getElem? (i := 13) (by decide +kernel), List.mem_of_getElem? (i := 460) (by decide +kernel), List.mem_of_getElem? (i := 461) (by decide +kernel)⟩
theorem lw_p10 : lw_okq (⟨"ReplicaSessions", "changeOptions", "(III)I"⟩, 5) := ⟨⟨by decide +kernel, by decide +kernel⟩, List.mem_of_getElem? (i := 13) (by decide +kernel), List.mem_of_getElem? (i := 468) (by decide +kernel), List.mem_of_getElem? (i := 469) (by decide +kernel)⟩
theorem lw_p11 : lw_okq (⟨"ReplicaSessions", "handMarks", "(II)I"⟩, 5) := ⟨⟨by decide +kernel, by decide +kernel⟩, List.mem_of_getElem? (i := 13) (by decide +kernel), List.mem_of_getElem? (i := 476) (by decide +kernel), List.mem_of_getElem? (i := 477) (by decide +kernel)⟩
theorem lw_p12 : lw_okq (⟨"ReplicaSessions", "addWrite", "(III)I"⟩, 5) := ⟨⟨by decide +kernel, by decide +kernel⟩, List.mem_of_getElem? (i := 13) (by decide +kernel), List.mem_of_getElem? (i := 508) (by decide +kernel), List.mem_of_getElem? (i := 509) (by decide +kernel)⟩
theorem lw_p13 : lw_okq (⟨"ReplicaSessions", "readAtHome", "(II)I"⟩, 5) := ⟨⟨by decide +kernel, by decide +kernel⟩, List.mem_of_getElem? (i := 13) (by decide +kernel), List.mem_of_getElem? (i := 525) (by decide +kernel), List.mem_of_getElem? (i := 526) (by decide +kernel)⟩
theorem lw_p14 : lw_okq (⟨"ReplicaSessions$State", "neededPosition", "(LReplicaSessions$Session;I)I"⟩, 7) := ⟨⟨by decide +kernel, by decide +kernel⟩, List.mem_of_getElem? (i := 21) (by decide +kernel), List.mem_of_getElem? (i := 533) (by decide +kernel), List.mem_of_getElem? (i := 534) (by decide +kernel)⟩
theorem lw_p15 : lw_okq (⟨"ReplicaSessions$State", "countAnswer", "(I)V"⟩, 7) := ⟨⟨by decide +kernel, by decide +kernel⟩, List.mem_of_getElem? (i := 21) (by decide +kernel), List.mem_of_getElem? (i := 553) (by decide +kernel), List.mem_of_getElem? (i := 554) (by decide +kernel)⟩
def lw_privs_1 : List (MethodName × Nat) := [(⟨"ReplicaSessions$History", "stateAfterOldest", "(I)LReplicaSessions$State;"⟩, 3), (⟨"ReplicaSessions", "startReplica", "(II)I"⟩, 5), (⟨"ReplicaSessions", "removeReplica", "(I)I"⟩, 5), (⟨"ReplicaSessions", "changeRate", "(II)I"⟩, 5), (⟨"ReplicaSessions", "changeStopped", "(IZ)I"⟩, 5), (⟨"ReplicaSessions", "setBack", "(II)I"⟩, 5), (⟨"ReplicaSessions", "letTicksPass", "(I)I"⟩, 5), (⟨"ReplicaSessions", "startSession", "(III)I"⟩, 5), (⟨"ReplicaSessions", "endSession", "(I)I"⟩, 5), (⟨"ReplicaSessions", "changeHome", "(II)I"⟩, 5), (⟨"ReplicaSessions", "changeOptions", "(III)I"⟩, 5), (⟨"ReplicaSessions", "handMarks", "(II)I"⟩, 5), (⟨"ReplicaSessions", "addWrite", "(III)I"⟩, 5), (⟨"ReplicaSessions", "readAtHome", "(II)I"⟩, 5), (⟨"ReplicaSessions$State", "neededPosition", "(LReplicaSessions$Session;I)I"⟩, 7), (⟨"ReplicaSessions$State", "countAnswer", "(I)V"⟩, 7)]
theorem lw_r1 : ∀ q ∈ lw_privs_1, lw_okq q := List.forall_mem_cons.mpr ⟨lw_p0, List.forall_mem_cons.mpr ⟨lw_p1, List.forall_mem_cons.mpr ⟨lw_p2, List.forall_mem_cons.mpr ⟨lw_p3, List.forall_mem_cons.mpr ⟨lw_p4, List.forall_mem_cons.mpr ⟨lw_p5, List.forall_mem_cons.mpr ⟨lw_p6, List.forall_mem_cons.mpr ⟨lw_p7, List.forall_mem_cons.mpr ⟨lw_p8, List.forall_mem_cons.mpr ⟨lw_p9, List.forall_mem_cons.mpr ⟨lw_p10, List.forall_mem_cons.mpr ⟨lw_p11, List.forall_mem_cons.mpr ⟨lw_p12, List.forall_mem_cons.mpr ⟨lw_p13, List.forall_mem_cons.mpr ⟨lw_p14, List.forall_mem_cons.mpr ⟨lw_p15, fun _ h => absurd h List.not_mem_nil⟩⟩⟩⟩⟩⟩⟩⟩⟩⟩⟩⟩⟩⟩⟩⟩
theorem lw_p16 : lw_okq (⟨"ReplicaSessions", "readAtPlace", "(III)I"⟩, 5) := ⟨⟨by decide +kernel, by decide +kernel⟩, List.mem_of_getElem? (i := 13) (by decide +kernel), List.mem_of_getElem? (i := 563) (by decide +kernel), List.mem_of_getElem? (i := 564) (by decide +kernel)⟩
theorem lw_p17 : lw_okq (⟨"ReplicaSessions$Text", "codeHere", "()I"⟩, 6) := ⟨⟨by decide +kernel, by decide +kernel⟩, List.mem_of_getElem? (i := 178) (by decide +kernel), List.mem_of_getElem? (i := 620) (by decide +kernel), List.mem_of_getElem? (i := 621) (by decide +kernel)⟩
theorem lw_p18 : lw_okq (⟨"ReplicaSessions$Text", "readDigit", "()Z"⟩, 6) := ⟨⟨by decide +kernel, by decide +kernel⟩, List.mem_of_getElem? (i := 178) (by decide +kernel), List.mem_of_getElem? (i := 628) (by decide +kernel), List.mem_of_getElem? (i := 629) (by decide +kernel)⟩
theorem lw_p19 : lw_okq (⟨"ReplicaSessions$Text", "takeDigit", "()I"⟩, 6) := ⟨⟨by decide +kernel, by decide +kernel⟩, List.mem_of_getElem? (i := 178) (by decide +kernel), List.mem_of_getElem? (i := 633) (by decide +kernel), List.mem_of_getElem? (i := 634) (by decide +kernel)⟩
theorem lw_p20 : lw_okq (⟨"ReplicaSessions$Text", "addArgument", "(I)Z"⟩, 6) := ⟨⟨by decide +kernel, by decide +kernel⟩, List.mem_of_getElem? (i := 178) (by decide +kernel), List.mem_of_getElem? (i := 637) (by decide +kernel), List.mem_of_getElem? (i := 638) (by decide +kernel)⟩
theorem lw_p21 : lw_okq (⟨"ReplicaSessions$Text", "readNumber", "()Z"⟩, 6) := ⟨⟨by decide +kernel, by decide +kernel⟩, List.mem_of_getElem? (i := 178) (by decide +kernel), List.mem_of_getElem? (i := 641) (by decide +kernel), List.mem_of_getElem? (i := 642) (by decide +kernel)⟩
theorem lw_p22 : lw_okq (⟨"ReplicaSessions$Text", "readPlace", "()Z"⟩, 6) := ⟨⟨by decide +kernel, by decide +kernel⟩, List.mem_of_getElem? (i := 178) (by decide +kernel), List.mem_of_getElem? (i := 645) (by decide +kernel), List.mem_of_getElem? (i := 646) (by decide +kernel)⟩
theorem lw_p23 : lw_okq (⟨"ReplicaSessions", "runCommand", "()I"⟩, 5) := ⟨⟨by decide +kernel, by decide +kernel⟩, List.mem_of_getElem? (i := 13) (by decide +kernel), List.mem_of_getElem? (i := 655) (by decide +kernel), List.mem_of_getElem? (i := 656) (by decide +kernel)⟩
theorem lw_p24 : lw_okq (⟨"ReplicaSessionsModel", "record", "()V"⟩, 11) := ⟨⟨by decide +kernel, by decide +kernel⟩, List.mem_of_getElem? (i := 682) (by decide +kernel), List.mem_of_getElem? (i := 735) (by decide +kernel), List.mem_of_getElem? (i := 736) (by decide +kernel)⟩
theorem lw_p25 : lw_okq (⟨"ReplicaSessionsModel", "isPlace", "(I)Z"⟩, 11) := ⟨⟨by decide +kernel, by decide +kernel⟩, List.mem_of_getElem? (i := 682) (by decide +kernel), List.mem_of_getElem? (i := 743) (by decide +kernel), List.mem_of_getElem? (i := 744) (by decide +kernel)⟩
theorem lw_p26 : lw_okq (⟨"ReplicaSessionsModel", "isReplica", "(I)Z"⟩, 11) := ⟨⟨by decide +kernel, by decide +kernel⟩, List.mem_of_getElem? (i := 682) (by decide +kernel), List.mem_of_getElem? (i := 747) (by decide +kernel), List.mem_of_getElem? (i := 748) (by decide +kernel)⟩
theorem lw_p27 : lw_okq (⟨"ReplicaSessionsModel", "ofReplica", "(II)I"⟩, 11) := ⟨⟨by decide +kernel, by decide +kernel⟩, List.mem_of_getElem? (i := 682) (by decide +kernel), List.mem_of_getElem? (i := 754) (by decide +kernel), List.mem_of_getElem? (i := 755) (by decide +kernel)⟩
theorem lw_p28 : lw_okq (⟨"ReplicaSessionsModel", "layReplica", "(III)V"⟩, 11) := ⟨⟨by decide +kernel, by decide +kernel⟩, List.mem_of_getElem? (i := 682) (by decide +kernel), List.mem_of_getElem? (i := 758) (by decide +kernel), List.mem_of_getElem? (i := 759) (by decide +kernel)⟩
theorem lw_p29 : lw_okq (⟨"ReplicaSessionsModel", "at", "(I)I"⟩, 11) := ⟨⟨by decide +kernel, by decide +kernel⟩, List.mem_of_getElem? (i := 682) (by decide +kernel), List.mem_of_getElem? (i := 762) (by decide +kernel), List.mem_of_getElem? (i := 763) (by decide +kernel)⟩
theorem lw_p30 : lw_okq (⟨"ReplicaSessionsModel", "homes", "(I)I"⟩, 11) := ⟨⟨by decide +kernel, by decide +kernel⟩, List.mem_of_getElem? (i := 682) (by decide +kernel), List.mem_of_getElem? (i := 770) (by decide +kernel), List.mem_of_getElem? (i := 771) (by decide +kernel)⟩
theorem lw_p31 : lw_okq (⟨"ReplicaSessionsModel", "ofSession", "(II)I"⟩, 11) := ⟨⟨by decide +kernel, by decide +kernel⟩, List.mem_of_getElem? (i := 682) (by decide +kernel), List.mem_of_getElem? (i := 774) (by decide +kernel), List.mem_of_getElem? (i := 775) (by decide +kernel)⟩
def lw_privs_2 : List (MethodName × Nat) := [(⟨"ReplicaSessions", "readAtPlace", "(III)I"⟩, 5), (⟨"ReplicaSessions$Text", "codeHere", "()I"⟩, 6), (⟨"ReplicaSessions$Text", "readDigit", "()Z"⟩, 6), (⟨"ReplicaSessions$Text", "takeDigit", "()I"⟩, 6), (⟨"ReplicaSessions$Text", "addArgument", "(I)Z"⟩, 6), (⟨"ReplicaSessions$Text", "readNumber", "()Z"⟩, 6), (⟨"ReplicaSessions$Text", "readPlace", "()Z"⟩, 6), (⟨"ReplicaSessions", "runCommand", "()I"⟩, 5), (⟨"ReplicaSessionsModel", "record", "()V"⟩, 11), (⟨"ReplicaSessionsModel", "isPlace", "(I)Z"⟩, 11), (⟨"ReplicaSessionsModel", "isReplica", "(I)Z"⟩, 11), (⟨"ReplicaSessionsModel", "ofReplica", "(II)I"⟩, 11), (⟨"ReplicaSessionsModel", "layReplica", "(III)V"⟩, 11), (⟨"ReplicaSessionsModel", "at", "(I)I"⟩, 11), (⟨"ReplicaSessionsModel", "homes", "(I)I"⟩, 11), (⟨"ReplicaSessionsModel", "ofSession", "(II)I"⟩, 11)]
theorem lw_r2 : ∀ q ∈ lw_privs_2, lw_okq q := List.forall_mem_cons.mpr ⟨lw_p16, List.forall_mem_cons.mpr ⟨lw_p17, List.forall_mem_cons.mpr ⟨lw_p18, List.forall_mem_cons.mpr ⟨lw_p19, List.forall_mem_cons.mpr ⟨lw_p20, List.forall_mem_cons.mpr ⟨lw_p21, List.forall_mem_cons.mpr ⟨lw_p22, List.forall_mem_cons.mpr ⟨lw_p23, List.forall_mem_cons.mpr ⟨lw_p24, List.forall_mem_cons.mpr ⟨lw_p25, List.forall_mem_cons.mpr ⟨lw_p26, List.forall_mem_cons.mpr ⟨lw_p27, List.forall_mem_cons.mpr ⟨lw_p28, List.forall_mem_cons.mpr ⟨lw_p29, List.forall_mem_cons.mpr ⟨lw_p30, List.forall_mem_cons.mpr ⟨lw_p31, fun _ h => absurd h List.not_mem_nil⟩⟩⟩⟩⟩⟩⟩⟩⟩⟩⟩⟩⟩⟩⟩⟩
theorem lw_p32 : lw_okq (⟨"ReplicaSessionsModel", "laySession", "(III)V"⟩, 11) := ⟨⟨by decide +kernel, by decide +kernel⟩, List.mem_of_getElem? (i := 682) (by decide +kernel), List.mem_of_getElem? (i := 778) (by decide +kernel), List.mem_of_getElem? (i := 779) (by decide +kernel)⟩
theorem lw_p33 : lw_okq (⟨"ReplicaSessionsModel", "whyNotJump", "(II)I"⟩, 11) := ⟨⟨by decide +kernel, by decide +kernel⟩, List.mem_of_getElem? (i := 682) (by decide +kernel), List.mem_of_getElem? (i := 794) (by decide +kernel), List.mem_of_getElem? (i := 795) (by decide +kernel)⟩
theorem lw_p34 : lw_okq (⟨"ReplicaSessionsModel", "jumps", "(II)I"⟩, 11) := ⟨⟨by decide +kernel, by decide +kernel⟩, List.mem_of_getElem? (i := 682) (by decide +kernel), List.mem_of_getElem? (i := 798) (by decide +kernel), List.mem_of_getElem? (i := 799) (by decide +kernel)⟩
theorem lw_p35 : lw_okq (⟨"ReplicaSessionsModel", "ticks", "(I)V"⟩, 11) := ⟨⟨by decide +kernel, by decide +kernel⟩, List.mem_of_getElem? (i := 682) (by decide +kernel), List.mem_of_getElem? (i := 806) (by decide +kernel), List.mem_of_getElem? (i := 807) (by decide +kernel)⟩
theorem lw_p36 : lw_okq (⟨"ReplicaSessionsModel", "atBehind", "(II)I"⟩, 11) := ⟨⟨by decide +kernel, by decide +kernel⟩, List.mem_of_getElem? (i := 682) (by decide +kernel), List.mem_of_getElem? (i := 810) (by decide +kernel), List.mem_of_getElem? (i := 811) (by decide +kernel)⟩
theorem lw_p37 : lw_okq (⟨"ReplicaSessionsModel", "ofWrite", "(II)I"⟩, 11) := ⟨⟨by decide +kernel, by decide +kernel⟩, List.mem_of_getElem? (i := 682) (by decide +kernel), List.mem_of_getElem? (i := 830) (by decide +kernel), List.mem_of_getElem? (i := 831) (by decide +kernel)⟩
theorem lw_p38 : lw_okq (⟨"ReplicaSessionsModel", "versionAt", "(II)I"⟩, 11) := ⟨⟨by decide +kernel, by decide +kernel⟩, List.mem_of_getElem? (i := 682) (by decide +kernel), List.mem_of_getElem? (i := 845) (by decide +kernel), List.mem_of_getElem? (i := 846) (by decide +kernel)⟩
theorem lw_p39 : lw_okq (⟨"ReplicaSessionsModel", "valueOf", "(I)I"⟩, 11) := ⟨⟨by decide +kernel, by decide +kernel⟩, List.mem_of_getElem? (i := 682) (by decide +kernel), List.mem_of_getElem? (i := 853) (by decide +kernel), List.mem_of_getElem? (i := 854) (by decide +kernel)⟩
theorem lw_p40 : lw_okq (⟨"ReplicaSessionsModel", "isSession", "(I)Z"⟩, 11) := ⟨⟨by decide +kernel, by decide +kernel⟩, List.mem_of_getElem? (i := 682) (by decide +kernel), List.mem_of_getElem? (i := 873) (by decide +kernel), List.mem_of_getElem? (i := 874) (by decide +kernel)⟩
theorem lw_p41 : lw_okq (⟨"ReplicaSessionsModel", "moves", "(II)I"⟩, 11) := ⟨⟨by decide +kernel, by decide +kernel⟩, List.mem_of_getElem? (i := 682) (by decide +kernel), List.mem_of_getElem? (i := 881) (by decide +kernel), List.mem_of_getElem? (i := 882) (by decide +kernel)⟩
theorem lw_p42 : lw_okq (⟨"ReplicaSessionsModel", "whyNotHand", "(II)I"⟩, 11) := ⟨⟨by decide +kernel, by decide +kernel⟩, List.mem_of_getElem? (i := 682) (by decide +kernel), List.mem_of_getElem? (i := 893) (by decide +kernel), List.mem_of_getElem? (i := 894) (by decide +kernel)⟩
theorem lw_p43 : lw_okq (⟨"ReplicaSessionsModel", "hands", "(II)I"⟩, 11) := ⟨⟨by decide +kernel, by decide +kernel⟩, List.mem_of_getElem? (i := 682) (by decide +kernel), List.mem_of_getElem? (i := 897) (by decide +kernel), List.mem_of_getElem? (i := 898) (by decide +kernel)⟩
theorem lw_p44 : lw_okq (⟨"ReplicaSessionsModel", "need", "(I)I"⟩, 11) := ⟨⟨by decide +kernel, by decide +kernel⟩, List.mem_of_getElem? (i := 682) (by decide +kernel), List.mem_of_getElem? (i := 912) (by decide +kernel), List.mem_of_getElem? (i := 913) (by decide +kernel)⟩
theorem lw_p45 : lw_okq (⟨"ReplicaSessionsModel", "has", "(II)Z"⟩, 11) := ⟨⟨by decide +kernel, by decide +kernel⟩, List.mem_of_getElem? (i := 682) (by decide +kernel), List.mem_of_getElem? (i := 916) (by decide +kernel), List.mem_of_getElem? (i := 917) (by decide +kernel)⟩
theorem lw_p46 : lw_okq (⟨"ReplicaSessionsModel", "whyNotWrite", "(III)I"⟩, 11) := ⟨⟨by decide +kernel, by decide +kernel⟩, List.mem_of_getElem? (i := 682) (by decide +kernel), List.mem_of_getElem? (i := 924) (by decide +kernel), List.mem_of_getElem? (i := 925) (by decide +kernel)⟩
theorem lw_p47 : lw_okq (⟨"ReplicaSessionsModel", "writes", "(III)I"⟩, 11) := ⟨⟨by decide +kernel, by decide +kernel⟩, List.mem_of_getElem? (i := 682) (by decide +kernel), List.mem_of_getElem? (i := 928) (by decide +kernel), List.mem_of_getElem? (i := 929) (by decide +kernel)⟩
def lw_privs_3 : List (MethodName × Nat) := [(⟨"ReplicaSessionsModel", "laySession", "(III)V"⟩, 11), (⟨"ReplicaSessionsModel", "whyNotJump", "(II)I"⟩, 11), (⟨"ReplicaSessionsModel", "jumps", "(II)I"⟩, 11), (⟨"ReplicaSessionsModel", "ticks", "(I)V"⟩, 11), (⟨"ReplicaSessionsModel", "atBehind", "(II)I"⟩, 11), (⟨"ReplicaSessionsModel", "ofWrite", "(II)I"⟩, 11), (⟨"ReplicaSessionsModel", "versionAt", "(II)I"⟩, 11), (⟨"ReplicaSessionsModel", "valueOf", "(I)I"⟩, 11), (⟨"ReplicaSessionsModel", "isSession", "(I)Z"⟩, 11), (⟨"ReplicaSessionsModel", "moves", "(II)I"⟩, 11), (⟨"ReplicaSessionsModel", "whyNotHand", "(II)I"⟩, 11), (⟨"ReplicaSessionsModel", "hands", "(II)I"⟩, 11), (⟨"ReplicaSessionsModel", "need", "(I)I"⟩, 11), (⟨"ReplicaSessionsModel", "has", "(II)Z"⟩, 11), (⟨"ReplicaSessionsModel", "whyNotWrite", "(III)I"⟩, 11), (⟨"ReplicaSessionsModel", "writes", "(III)I"⟩, 11)]
theorem lw_r3 : ∀ q ∈ lw_privs_3, lw_okq q := List.forall_mem_cons.mpr ⟨lw_p32, List.forall_mem_cons.mpr ⟨lw_p33, List.forall_mem_cons.mpr ⟨lw_p34, List.forall_mem_cons.mpr ⟨lw_p35, List.forall_mem_cons.mpr ⟨lw_p36, List.forall_mem_cons.mpr ⟨lw_p37, List.forall_mem_cons.mpr ⟨lw_p38, List.forall_mem_cons.mpr ⟨lw_p39, List.forall_mem_cons.mpr ⟨lw_p40, List.forall_mem_cons.mpr ⟨lw_p41, List.forall_mem_cons.mpr ⟨lw_p42, List.forall_mem_cons.mpr ⟨lw_p43, List.forall_mem_cons.mpr ⟨lw_p44, List.forall_mem_cons.mpr ⟨lw_p45, List.forall_mem_cons.mpr ⟨lw_p46, List.forall_mem_cons.mpr ⟨lw_p47, fun _ h => absurd h List.not_mem_nil⟩⟩⟩⟩⟩⟩⟩⟩⟩⟩⟩⟩⟩⟩⟩⟩
theorem lw_p48 : lw_okq (⟨"ReplicaSessionsModel", "whyNotRead", "(II)I"⟩, 11) := ⟨⟨by decide +kernel, by decide +kernel⟩, List.mem_of_getElem? (i := 682) (by decide +kernel), List.mem_of_getElem? (i := 936) (by decide +kernel), List.mem_of_getElem? (i := 937) (by decide +kernel)⟩
theorem lw_p49 : lw_okq (⟨"ReplicaSessionsModel", "waitsAtHome", "(II)I"⟩, 11) := ⟨⟨by decide +kernel, by decide +kernel⟩, List.mem_of_getElem? (i := 682) (by decide +kernel), List.mem_of_getElem? (i := 940) (by decide +kernel), List.mem_of_getElem? (i := 941) (by decide +kernel)⟩
theorem lw_p50 : lw_okq (⟨"ReplicaSessionsModel", "waitOf", "(III)I"⟩, 11) := ⟨⟨by decide +kernel, by decide +kernel⟩, List.mem_of_getElem? (i := 682) (by decide +kernel), List.mem_of_getElem? (i := 944) (by decide +kernel), List.mem_of_getElem? (i := 945) (by decide +kernel)⟩
theorem lw_p51 : lw_okq (⟨"ReplicaSessionsModel", "needed", "(II)I"⟩, 11) := ⟨⟨by decide +kernel, by decide +kernel⟩, List.mem_of_getElem? (i := 682) (by decide +kernel), List.mem_of_getElem? (i := 948) (by decide +kernel), List.mem_of_getElem? (i := 949) (by decide +kernel)⟩
theorem lw_p52 : lw_okq (⟨"ReplicaSessionsModel", "reads", "(II)I"⟩, 11) := ⟨⟨by decide +kernel, by decide +kernel⟩, List.mem_of_getElem? (i := 682) (by decide +kernel), List.mem_of_getElem? (i := 952) (by decide +kernel), List.mem_of_getElem? (i := 953) (by decide +kernel)⟩
theorem lw_p53 : lw_okq (⟨"ReplicaSessionsModel", "answer", "(IIII)I"⟩, 11) := ⟨⟨by decide +kernel, by decide +kernel⟩, List.mem_of_getElem? (i := 682) (by decide +kernel), List.mem_of_getElem? (i := 956) (by decide +kernel), List.mem_of_getElem? (i := 957) (by decide +kernel)⟩
theorem lw_p54 : lw_okq (⟨"ReplicaSessionsModel", "readCommand", "()V"⟩, 11) := ⟨⟨by decide +kernel, by decide +kernel⟩, List.mem_of_getElem? (i := 682) (by decide +kernel), List.mem_of_getElem? (i := 996) (by decide +kernel), List.mem_of_getElem? (i := 997) (by decide +kernel)⟩
theorem lw_p55 : lw_okq (⟨"ReplicaSessionsModel", "letter", "()I"⟩, 11) := ⟨⟨by decide +kernel, by decide +kernel⟩, List.mem_of_getElem? (i := 682) (by decide +kernel), List.mem_of_getElem? (i := 1000) (by decide +kernel), List.mem_of_getElem? (i := 1001) (by decide +kernel)⟩
theorem lw_p56 : lw_okq (⟨"ReplicaSessionsModel", "wants", "(Z)V"⟩, 11) := ⟨⟨by decide +kernel, by decide +kernel⟩, List.mem_of_getElem? (i := 682) (by decide +kernel), List.mem_of_getElem? (i := 1004) (by decide +kernel), List.mem_of_getElem? (i := 1005) (by decide +kernel)⟩
theorem lw_p57 : lw_okq (⟨"ReplicaSessionsModel", "number", "()I"⟩, 11) := ⟨⟨by decide +kernel, by decide +kernel⟩, List.mem_of_getElem? (i := 682) (by decide +kernel), List.mem_of_getElem? (i := 1008) (by decide +kernel), List.mem_of_getElem? (i := 1009) (by decide +kernel)⟩
theorem lw_p58 : lw_okq (⟨"ReplicaSessionsModel", "digit", "()I"⟩, 11) := ⟨⟨by decide +kernel, by decide +kernel⟩, List.mem_of_getElem? (i := 682) (by decide +kernel), List.mem_of_getElem? (i := 1012) (by decide +kernel), List.mem_of_getElem? (i := 1013) (by decide +kernel)⟩
theorem lw_p59 : lw_okq (⟨"ReplicaSessionsModel", "place", "()I"⟩, 11) := ⟨⟨by decide +kernel, by decide +kernel⟩, List.mem_of_getElem? (i := 682) (by decide +kernel), List.mem_of_getElem? (i := 1016) (by decide +kernel), List.mem_of_getElem? (i := 1017) (by decide +kernel)⟩
theorem lw_p60 : lw_okq (⟨"ReplicaSessionsModel", "executeOne", "(I)I"⟩, 11) := ⟨⟨by decide +kernel, by decide +kernel⟩, List.mem_of_getElem? (i := 682) (by decide +kernel), List.mem_of_getElem? (i := 1025) (by decide +kernel), List.mem_of_getElem? (i := 1026) (by decide +kernel)⟩
def lw_privs_4 : List (MethodName × Nat) := [(⟨"ReplicaSessionsModel", "whyNotRead", "(II)I"⟩, 11), (⟨"ReplicaSessionsModel", "waitsAtHome", "(II)I"⟩, 11), (⟨"ReplicaSessionsModel", "waitOf", "(III)I"⟩, 11), (⟨"ReplicaSessionsModel", "needed", "(II)I"⟩, 11), (⟨"ReplicaSessionsModel", "reads", "(II)I"⟩, 11), (⟨"ReplicaSessionsModel", "answer", "(IIII)I"⟩, 11), (⟨"ReplicaSessionsModel", "readCommand", "()V"⟩, 11), (⟨"ReplicaSessionsModel", "letter", "()I"⟩, 11), (⟨"ReplicaSessionsModel", "wants", "(Z)V"⟩, 11), (⟨"ReplicaSessionsModel", "number", "()I"⟩, 11), (⟨"ReplicaSessionsModel", "digit", "()I"⟩, 11), (⟨"ReplicaSessionsModel", "place", "()I"⟩, 11), (⟨"ReplicaSessionsModel", "executeOne", "(I)I"⟩, 11)]
theorem lw_r4 : ∀ q ∈ lw_privs_4, lw_okq q := List.forall_mem_cons.mpr ⟨lw_p48, List.forall_mem_cons.mpr ⟨lw_p49, List.forall_mem_cons.mpr ⟨lw_p50, List.forall_mem_cons.mpr ⟨lw_p51, List.forall_mem_cons.mpr ⟨lw_p52, List.forall_mem_cons.mpr ⟨lw_p53, List.forall_mem_cons.mpr ⟨lw_p54, List.forall_mem_cons.mpr ⟨lw_p55, List.forall_mem_cons.mpr ⟨lw_p56, List.forall_mem_cons.mpr ⟨lw_p57, List.forall_mem_cons.mpr ⟨lw_p58, List.forall_mem_cons.mpr ⟨lw_p59, List.forall_mem_cons.mpr ⟨lw_p60, fun _ h => absurd h List.not_mem_nil⟩⟩⟩⟩⟩⟩⟩⟩⟩⟩⟩⟩⟩
def lw_privs : List (MethodName × Nat) := lw_privs_1 ++ (lw_privs_2 ++ (lw_privs_3 ++ (lw_privs_4)))
def lw_tbl : List Cond := k2_sels lw_privs ++ tables_1
theorem lw_privs_ok : ∀ q ∈ lw_privs, lw_okq q := by
  show ∀ q ∈ lw_privs_1 ++ (lw_privs_2 ++ (lw_privs_3 ++ (lw_privs_4))), lw_okq q
  exact List.forall_mem_append.mpr ⟨lw_r1, List.forall_mem_append.mpr ⟨lw_r2, List.forall_mem_append.mpr ⟨lw_r3, lw_r4⟩⟩⟩
end
section
theorem goodIn_r {big : List Cond} (ws : List Cond) (ps : List Nat) (hp : ws = ps.filterMap (fun i => big[i]?)) (h : ws.all goodWord = true) : GoodIn big ws := by
  intro w hw
  have h1 := List.all_eq_true.mp h w hw
  rw [hp] at hw
  obtain ⟨i, -, hi⟩ := List.mem_filterMap.mp hw
  have hm : w ∈ big := by first | exact List.mem_of_getElem? hi | exact List.getElem?_mem hi
  exact ⟨hm, good_of_word h1⟩
theorem goodIn_app {big a b : List Cond} (ha : GoodIn big a) (hb : GoodIn big b) : GoodIn big (a ++ b) := fun w h => (List.mem_append.mp h).elim (ha w) (hb w)
theorem goodIn_ca {big a b : List Cond} {c : Cond} (ha : GoodIn big (c :: a)) (hb : GoodIn big b) : GoodIn big (c :: (a ++ b)) := fun w h => (List.mem_cons.mp h).elim (fun e => ha w (List.mem_cons.mpr (Or.inl e))) (fun h => (List.mem_append.mp h).elim (fun h => ha w (List.mem_cons.mpr (Or.inr h))) (hb w))
theorem goodIn_sub {big ws : List Cond} (hm : ∀ w ∈ ws, w ∈ big) (h : ws.all goodWord = true) : GoodIn big ws := fun w hw => ⟨hm w hw, good_of_word (List.all_eq_true.mp h w hw)⟩
def RX0 : String := "ReplicaSessions$History"
def TX0 : u_T := fun k => match k with
  | 0 => ("ReplicaSessions$History", "states", "[LReplicaSessions$State;", true)
  | 1 => ("ReplicaSessions$History", "oldest", "I", false)
  | _ => ("ReplicaSessions$History", "count", "I", false)
def tyX0 : Nat → FieldType := fun k => match k with
  | 0 => .array (.object "ReplicaSessions$State")
  | 1 => .int
  | _ => .int
abbrev wsX00 : List Cond := u_ws RX0 TX0 3
theorem nmX0 : ∀ a, a < 3 → ∀ b, b < 3 → a ≠ b → (TX0 a).2.1 ≠ (TX0 b).2.1 := by decide +kernel
theorem tyX0_ok : ∀ k, k < 3 → parseFieldDescriptor (TX0 k).2.2.1 = some (tyX0 k) := by decide +kernel
abbrev cX0_init : ByteArray := prog_2_method_1_code
def yX0_init : MethodName := ⟨RX0, "<init>", "()V"⟩
abbrev cX0_prepare : ByteArray := prog_2_method_2_code
def yX0_prepare : MethodName := ⟨RX0, "prepare", "(LReplicaSessions$State;)V"⟩
abbrev cX0_keepUnlessError : ByteArray := prog_2_method_3_code
def yX0_keepUnlessError : MethodName := ⟨RX0, "keepUnlessError", "(I)I"⟩
abbrev cX0_takeLatest : ByteArray := prog_2_method_4_code
def yX0_takeLatest : MethodName := ⟨RX0, "takeLatest", "(LReplicaSessions$State;)I"⟩
abbrev cX0_stateAfterOldest : ByteArray := prog_2_method_5_code
def yX0_stateAfterOldest : MethodName := ⟨RX0, "stateAfterOldest", "(I)LReplicaSessions$State;"⟩
def RX1 : String := "ReplicaSessions$Log"
def TX1 : u_T := fun k => match k with
  | 0 => ("ReplicaSessions$Log", "count", "I", false)
  | 1 => ("ReplicaSessions$Log", "keys", "[I", true)
  | 2 => ("ReplicaSessions$Log", "values", "[I", true)
  | _ => ("ReplicaSessions$Log", "writers", "[I", true)
def tyX1 : Nat → FieldType := fun k => match k with
  | 0 => .int
  | 1 => .array .int
  | 2 => .array .int
  | _ => .array .int
abbrev wsX10 : List Cond := u_ws RX1 TX1 4
theorem nmX1 : ∀ a, a < 4 → ∀ b, b < 4 → a ≠ b → (TX1 a).2.1 ≠ (TX1 b).2.1 := by decide +kernel
theorem tyX1_ok : ∀ k, k < 4 → parseFieldDescriptor (TX1 k).2.2.1 = some (tyX1 k) := by decide +kernel
abbrev cX1_init : ByteArray := prog_3_method_1_code
def yX1_init : MethodName := ⟨RX1, "<init>", "()V"⟩
abbrev cX1_contains : ByteArray := prog_3_method_2_code
def yX1_contains : MethodName := ⟨RX1, "contains", "(I)Z"⟩
abbrev cX1_keyOf : ByteArray := prog_3_method_3_code
def yX1_keyOf : MethodName := ⟨RX1, "keyOf", "(I)I"⟩
abbrev cX1_valueOf : ByteArray := prog_3_method_4_code
def yX1_valueOf : MethodName := ⟨RX1, "valueOf", "(I)I"⟩
abbrev cX1_writerOf : ByteArray := prog_3_method_5_code
def yX1_writerOf : MethodName := ⟨RX1, "writerOf", "(I)I"⟩
abbrev cX1_add : ByteArray := prog_3_method_6_code
def yX1_add : MethodName := ⟨RX1, "add", "(III)I"⟩
abbrev cX1_versionAt : ByteArray := prog_3_method_7_code
def yX1_versionAt : MethodName := ⟨RX1, "versionAt", "(II)I"⟩
abbrev cX1_countAfter : ByteArray := prog_3_method_8_code
def yX1_countAfter : MethodName := ⟨RX1, "countAfter", "(II)I"⟩
abbrev cX1_copyFrom : ByteArray := prog_3_method_9_code
def yX1_copyFrom : MethodName := ⟨RX1, "copyFrom", "(LReplicaSessions$Log;)V"⟩
def RX2 : String := "ReplicaSessions$Replica"
def TX2 : u_T := fun k => match k with
  | 0 => ("ReplicaSessions$Replica", "isThere", "Z", false)
  | 1 => ("ReplicaSessions$Replica", "position", "I", false)
  | 2 => ("ReplicaSessions$Replica", "rate", "I", false)
  | 3 => ("ReplicaSessions$Replica", "isStopped", "Z", false)
  | _ => ("ReplicaSessions$Replica", "answerCount", "I", false)
def tyX2 : Nat → FieldType := fun k => match k with
  | 0 => .boolean
  | 1 => .int
  | 2 => .int
  | 3 => .boolean
  | _ => .int
abbrev wsX20 : List Cond := u_ws RX2 TX2 5
theorem nmX2 : ∀ a, a < 5 → ∀ b, b < 5 → a ≠ b → (TX2 a).2.1 ≠ (TX2 b).2.1 := by decide +kernel
theorem tyX2_ok : ∀ k, k < 5 → parseFieldDescriptor (TX2 k).2.2.1 = some (tyX2 k) := by decide +kernel
abbrev cX2_init : ByteArray := prog_4_method_1_code
def yX2_init : MethodName := ⟨RX2, "<init>", "()V"⟩
abbrev cX2_begin : ByteArray := prog_4_method_2_code
def yX2_begin : MethodName := ⟨RX2, "begin", "(II)V"⟩
abbrev cX2_ticksTo : ByteArray := prog_4_method_3_code
def yX2_ticksTo : MethodName := ⟨RX2, "ticksTo", "(I)I"⟩
abbrev cX2_passTicks : ByteArray := prog_4_method_4_code
def yX2_passTicks : MethodName := ⟨RX2, "passTicks", "(II)V"⟩
abbrev cX2_copyFrom : ByteArray := prog_4_method_5_code
def yX2_copyFrom : MethodName := ⟨RX2, "copyFrom", "(LReplicaSessions$Replica;)V"⟩
def RX3 : String := "ReplicaSessions$Session"
def TX3 : u_T := fun k => match k with
  | 0 => ("ReplicaSessions$Session", "isOpen", "Z", false)
  | 1 => ("ReplicaSessions$Session", "home", "I", false)
  | 2 => ("ReplicaSessions$Session", "options", "I", false)
  | 3 => ("ReplicaSessions$Session", "bound", "I", false)
  | 4 => ("ReplicaSessions$Session", "ownMark", "I", false)
  | 5 => ("ReplicaSessions$Session", "seenMark", "I", false)
  | 6 => ("ReplicaSessions$Session", "readCount", "I", false)
  | 7 => ("ReplicaSessions$Session", "undoingReads", "I", false)
  | 8 => ("ReplicaSessions$Session", "readsGoneBack", "I", false)
  | 9 => ("ReplicaSessions$Session", "latestWrites", "[I", true)
  | _ => ("ReplicaSessions$Session", "greatestReads", "[I", true)
def tyX3 : Nat → FieldType := fun k => match k with
  | 0 => .boolean
  | 1 => .int
  | 2 => .int
  | 3 => .int
  | 4 => .int
  | 5 => .int
  | 6 => .int
  | 7 => .int
  | 8 => .int
  | 9 => .array .int
  | _ => .array .int
abbrev wsX30 : List Cond := u_ws RX3 TX3 11
theorem nmX3 : ∀ a, a < 11 → ∀ b, b < 11 → a ≠ b → (TX3 a).2.1 ≠ (TX3 b).2.1 := by decide +kernel
theorem tyX3_ok : ∀ k, k < 11 → parseFieldDescriptor (TX3 k).2.2.1 = some (tyX3 k) := by decide +kernel
abbrev cX3_init : ByteArray := prog_5_method_1_code
def yX3_init : MethodName := ⟨RX3, "<init>", "()V"⟩
abbrev cX3_begin : ByteArray := prog_5_method_2_code
def yX3_begin : MethodName := ⟨RX3, "begin", "(III)V"⟩
abbrev cX3_has : ByteArray := prog_5_method_3_code
def yX3_has : MethodName := ⟨RX3, "has", "(I)Z"⟩
abbrev cX3_need : ByteArray := prog_5_method_4_code
def yX3_need : MethodName := ⟨RX3, "need", "()I"⟩
abbrev cX3_noteWrite : ByteArray := prog_5_method_5_code
def yX3_noteWrite : MethodName := ⟨RX3, "noteWrite", "(II)V"⟩
abbrev cX3_noteRead : ByteArray := prog_5_method_6_code
def yX3_noteRead : MethodName := ⟨RX3, "noteRead", "(III)V"⟩
abbrev cX3_copyFrom : ByteArray := prog_5_method_7_code
def yX3_copyFrom : MethodName := ⟨RX3, "copyFrom", "(LReplicaSessions$Session;)V"⟩
def RX4 : String := "ReplicaSessions$State"
def TX4 : u_T := fun k => match k with
  | 0 => ("ReplicaSessions$State", "log", "LReplicaSessions$Log;", true)
  | 1 => ("ReplicaSessions$State", "replicas", "[LReplicaSessions$Replica;", true)
  | 2 => ("ReplicaSessions$State", "sessions", "[LReplicaSessions$Session;", true)
  | 3 => ("ReplicaSessions$State", "primaryAnswers", "I", false)
  | 4 => ("ReplicaSessions$State", "latestPlace", "I", false)
  | 5 => ("ReplicaSessions$State", "latestVersion", "I", false)
  | _ => ("ReplicaSessions$State", "latestTicks", "I", false)
def tyX4 : Nat → FieldType := fun k => match k with
  | 0 => .object "ReplicaSessions$Log"
  | 1 => .array (.object "ReplicaSessions$Replica")
  | 2 => .array (.object "ReplicaSessions$Session")
  | 3 => .int
  | 4 => .int
  | 5 => .int
  | _ => .int
abbrev wsX40 : List Cond := u_ws RX4 TX4 7
theorem nmX4 : ∀ a, a < 7 → ∀ b, b < 7 → a ≠ b → (TX4 a).2.1 ≠ (TX4 b).2.1 := by decide +kernel
theorem tyX4_ok : ∀ k, k < 7 → parseFieldDescriptor (TX4 k).2.2.1 = some (tyX4 k) := by decide +kernel
abbrev cX4_init : ByteArray := prog_6_method_1_code
def yX4_init : MethodName := ⟨RX4, "<init>", "()V"⟩
abbrev cX4_findReplica : ByteArray := prog_6_method_2_code
def yX4_findReplica : MethodName := ⟨RX4, "findReplica", "(I)LReplicaSessions$Replica;"⟩
abbrev cX4_findSession : ByteArray := prog_6_method_3_code
def yX4_findSession : MethodName := ⟨RX4, "findSession", "(I)LReplicaSessions$Session;"⟩
abbrev cX4_takeFreeReplica : ByteArray := prog_6_method_4_code
def yX4_takeFreeReplica : MethodName := ⟨RX4, "takeFreeReplica", "(II)I"⟩
abbrev cX4_takeFreeSession : ByteArray := prog_6_method_5_code
def yX4_takeFreeSession : MethodName := ⟨RX4, "takeFreeSession", "(III)I"⟩
abbrev cX4_replicaMask : ByteArray := prog_6_method_6_code
def yX4_replicaMask : MethodName := ⟨RX4, "replicaMask", "()I"⟩
abbrev cX4_sessionMask : ByteArray := prog_6_method_7_code
def yX4_sessionMask : MethodName := ⟨RX4, "sessionMask", "()I"⟩
abbrev cX4_countSessionsAt : ByteArray := prog_6_method_8_code
def yX4_countSessionsAt : MethodName := ⟨RX4, "countSessionsAt", "(I)I"⟩
abbrev cX4_sendSessionsToPrimary : ByteArray := prog_6_method_9_code
def yX4_sendSessionsToPrimary : MethodName := ⟨RX4, "sendSessionsToPrimary", "(I)I"⟩
abbrev cX4_hasPlace : ByteArray := prog_6_method_10_code
def yX4_hasPlace : MethodName := ⟨RX4, "hasPlace", "(I)Z"⟩
abbrev cX4_positionOf : ByteArray := prog_6_method_11_code
def yX4_positionOf : MethodName := ⟨RX4, "positionOf", "(I)I"⟩
abbrev cX4_passTicks : ByteArray := prog_6_method_12_code
def yX4_passTicks : MethodName := ⟨RX4, "passTicks", "(I)V"⟩
abbrev cX4_countCaughtUp : ByteArray := prog_6_method_13_code
def yX4_countCaughtUp : MethodName := ⟨RX4, "countCaughtUp", "()I"⟩
abbrev cX4_neededPosition : ByteArray := prog_6_method_14_code
def yX4_neededPosition : MethodName := ⟨RX4, "neededPosition", "(LReplicaSessions$Session;I)I"⟩
abbrev cX4_waitOf : ByteArray := prog_6_method_15_code
def yX4_waitOf : MethodName := ⟨RX4, "waitOf", "(LReplicaSessions$Session;II)I"⟩
abbrev cX4_answer : ByteArray := prog_6_method_16_code
def yX4_answer : MethodName := ⟨RX4, "answer", "(LReplicaSessions$Session;III)I"⟩
abbrev cX4_countAnswer : ByteArray := prog_6_method_17_code
def yX4_countAnswer : MethodName := ⟨RX4, "countAnswer", "(I)V"⟩
abbrev cX4_copyFrom : ByteArray := prog_6_method_18_code
def yX4_copyFrom : MethodName := ⟨RX4, "copyFrom", "(LReplicaSessions$State;)V"⟩
def RX5 : String := "ReplicaSessions$Text"
def TX5 : u_T := fun k => match k with
  | 0 => ("ReplicaSessions$Text", "codes", "[I", true)
  | 1 => ("ReplicaSessions$Text", "count", "I", false)
  | 2 => ("ReplicaSessions$Text", "at", "I", false)
  | 3 => ("ReplicaSessions$Text", "letter", "I", false)
  | 4 => ("ReplicaSessions$Text", "arguments", "[I", true)
  | _ => ("ReplicaSessions$Text", "argumentCount", "I", false)
def tyX5 : Nat → FieldType := fun k => match k with
  | 0 => .array .int
  | 1 => .int
  | 2 => .int
  | 3 => .int
  | 4 => .array .int
  | _ => .int
abbrev wsX50 : List Cond := u_ws RX5 TX5 6
theorem nmX5 : ∀ a, a < 6 → ∀ b, b < 6 → a ≠ b → (TX5 a).2.1 ≠ (TX5 b).2.1 := by decide +kernel
theorem tyX5_ok : ∀ k, k < 6 → parseFieldDescriptor (TX5 k).2.2.1 = some (tyX5 k) := by decide +kernel
abbrev cX5_init : ByteArray := prog_7_method_1_code
def yX5_init : MethodName := ⟨RX5, "<init>", "()V"⟩
abbrev cX5_add : ByteArray := prog_7_method_2_code
def yX5_add : MethodName := ⟨RX5, "add", "(I)I"⟩
abbrev cX5_empty : ByteArray := prog_7_method_3_code
def yX5_empty : MethodName := ⟨RX5, "empty", "()I"⟩
abbrev cX5_findError : ByteArray := prog_7_method_4_code
def yX5_findError : MethodName := ⟨RX5, "findError", "()I"⟩
abbrev cX5_rewind : ByteArray := prog_7_method_5_code
def yX5_rewind : MethodName := ⟨RX5, "rewind", "()V"⟩
abbrev cX5_readCommand : ByteArray := prog_7_method_6_code
def yX5_readCommand : MethodName := ⟨RX5, "readCommand", "()Z"⟩
abbrev cX5_argument : ByteArray := prog_7_method_7_code
def yX5_argument : MethodName := ⟨RX5, "argument", "(I)I"⟩
abbrev cX5_readSign : ByteArray := prog_7_method_8_code
def yX5_readSign : MethodName := ⟨RX5, "readSign", "(I)Z"⟩
abbrev cX5_readDigit : ByteArray := prog_7_method_9_code
def yX5_readDigit : MethodName := ⟨RX5, "readDigit", "()Z"⟩
abbrev cX5_readNumber : ByteArray := prog_7_method_10_code
def yX5_readNumber : MethodName := ⟨RX5, "readNumber", "()Z"⟩
abbrev cX5_readPlace : ByteArray := prog_7_method_11_code
def yX5_readPlace : MethodName := ⟨RX5, "readPlace", "()Z"⟩
abbrev cX5_addArgument : ByteArray := prog_7_method_12_code
def yX5_addArgument : MethodName := ⟨RX5, "addArgument", "(I)Z"⟩
abbrev cX5_takeDigit : ByteArray := prog_7_method_13_code
def yX5_takeDigit : MethodName := ⟨RX5, "takeDigit", "()I"⟩
abbrev cX5_codeHere : ByteArray := prog_7_method_14_code
def yX5_codeHere : MethodName := ⟨RX5, "codeHere", "()I"⟩
def RX6 : String := "ReplicaSessions"
def TX6 : u_T := fun k => match k with
  | 0 => ("ReplicaSessions", "now", "LReplicaSessions$State;", true)
  | 1 => ("ReplicaSessions", "saved", "LReplicaSessions$State;", true)
  | 2 => ("ReplicaSessions", "isSaved", "Z", false)
  | 3 => ("ReplicaSessions", "history", "LReplicaSessions$History;", true)
  | _ => ("ReplicaSessions", "text", "LReplicaSessions$Text;", true)
def tyX6 : Nat → FieldType := fun k => match k with
  | 0 => .object "ReplicaSessions$State"
  | 1 => .object "ReplicaSessions$State"
  | 2 => .boolean
  | 3 => .object "ReplicaSessions$History"
  | _ => .object "ReplicaSessions$Text"
abbrev wsX60 : List Cond := u_ws RX6 TX6 5
theorem nmX6 : ∀ a, a < 5 → ∀ b, b < 5 → a ≠ b → (TX6 a).2.1 ≠ (TX6 b).2.1 := by decide +kernel
theorem tyX6_ok : ∀ k, k < 5 → parseFieldDescriptor (TX6 k).2.2.1 = some (tyX6 k) := by decide +kernel
abbrev cX6_init : ByteArray := prog_1_method_1_code
def yX6_init : MethodName := ⟨RX6, "<init>", "()V"⟩
abbrev cX6_addReplica : ByteArray := prog_1_method_2_code
def yX6_addReplica : MethodName := ⟨RX6, "addReplica", "(II)I"⟩
abbrev cX6_drop : ByteArray := prog_1_method_3_code
def yX6_drop : MethodName := ⟨RX6, "drop", "(I)I"⟩
abbrev cX6_setRate : ByteArray := prog_1_method_4_code
def yX6_setRate : MethodName := ⟨RX6, "setRate", "(II)I"⟩
abbrev cX6_stop : ByteArray := prog_1_method_5_code
def yX6_stop : MethodName := ⟨RX6, "stop", "(IZ)I"⟩
abbrev cX6_jumpBack : ByteArray := prog_1_method_6_code
def yX6_jumpBack : MethodName := ⟨RX6, "jumpBack", "(II)I"⟩
abbrev cX6_tick : ByteArray := prog_1_method_7_code
def yX6_tick : MethodName := ⟨RX6, "tick", "(I)I"⟩
abbrev cX6_replicas : ByteArray := prog_1_method_8_code
def yX6_replicas : MethodName := ⟨RX6, "replicas", "()I"⟩
abbrev cX6_replica : ByteArray := prog_1_method_9_code
def yX6_replica : MethodName := ⟨RX6, "replica", "(II)I"⟩
abbrev cX6_length : ByteArray := prog_1_method_10_code
def yX6_length : MethodName := ⟨RX6, "length", "()I"⟩
abbrev cX6_logged : ByteArray := prog_1_method_11_code
def yX6_logged : MethodName := ⟨RX6, "logged", "(II)I"⟩
abbrev cX6_position : ByteArray := prog_1_method_12_code
def yX6_position : MethodName := ⟨RX6, "position", "(I)I"⟩
abbrev cX6_version : ByteArray := prog_1_method_13_code
def yX6_version : MethodName := ⟨RX6, "version", "(II)I"⟩
abbrev cX6_value : ByteArray := prog_1_method_14_code
def yX6_value : MethodName := ⟨RX6, "value", "(II)I"⟩
abbrev cX6_missing : ByteArray := prog_1_method_15_code
def yX6_missing : MethodName := ⟨RX6, "missing", "(II)I"⟩
abbrev cX6_answers : ByteArray := prog_1_method_16_code
def yX6_answers : MethodName := ⟨RX6, "answers", "(I)I"⟩
abbrev cX6_open : ByteArray := prog_1_method_17_code
def yX6_open : MethodName := ⟨RX6, "open", "(III)I"⟩
abbrev cX6_close : ByteArray := prog_1_method_18_code
def yX6_close : MethodName := ⟨RX6, "close", "(I)I"⟩
abbrev cX6_move : ByteArray := prog_1_method_19_code
def yX6_move : MethodName := ⟨RX6, "move", "(II)I"⟩
abbrev cX6_change : ByteArray := prog_1_method_20_code
def yX6_change : MethodName := ⟨RX6, "change", "(III)I"⟩
abbrev cX6_hand : ByteArray := prog_1_method_21_code
def yX6_hand : MethodName := ⟨RX6, "hand", "(II)I"⟩
abbrev cX6_sessions : ByteArray := prog_1_method_22_code
def yX6_sessions : MethodName := ⟨RX6, "sessions", "()I"⟩
abbrev cX6_session : ByteArray := prog_1_method_23_code
def yX6_session : MethodName := ⟨RX6, "session", "(II)I"⟩
abbrev cX6_write : ByteArray := prog_1_method_24_code
def yX6_write : MethodName := ⟨RX6, "write", "(III)I"⟩
abbrev cX6_read : ByteArray := prog_1_method_25_code
def yX6_read : MethodName := ⟨RX6, "read", "(II)I"⟩
abbrev cX6_readAt : ByteArray := prog_1_method_26_code
def yX6_readAt : MethodName := ⟨RX6, "readAt", "(III)I"⟩
abbrev cX6_latest : ByteArray := prog_1_method_27_code
def yX6_latest : MethodName := ⟨RX6, "latest", "(I)I"⟩
abbrev cX6_waitFor : ByteArray := prog_1_method_28_code
def yX6_waitFor : MethodName := ⟨RX6, "waitFor", "(III)I"⟩
abbrev cX6_bestReplica : ByteArray := prog_1_method_29_code
def yX6_bestReplica : MethodName := ⟨RX6, "bestReplica", "(II)I"⟩
abbrev cX6_keysAfter : ByteArray := prog_1_method_30_code
def yX6_keysAfter : MethodName := ⟨RX6, "keysAfter", "(III)I"⟩
abbrev cX6_catchUp : ByteArray := prog_1_method_31_code
def yX6_catchUp : MethodName := ⟨RX6, "catchUp", "()I"⟩
abbrev cX6_append : ByteArray := prog_1_method_32_code
def yX6_append : MethodName := ⟨RX6, "append", "(I)I"⟩
abbrev cX6_clearText : ByteArray := prog_1_method_33_code
def yX6_clearText : MethodName := ⟨RX6, "clearText", "()I"⟩
abbrev cX6_errorPosition : ByteArray := prog_1_method_34_code
def yX6_errorPosition : MethodName := ⟨RX6, "errorPosition", "()I"⟩
abbrev cX6_execute : ByteArray := prog_1_method_35_code
def yX6_execute : MethodName := ⟨RX6, "execute", "()I"⟩
abbrev cX6_undo : ByteArray := prog_1_method_36_code
def yX6_undo : MethodName := ⟨RX6, "undo", "()I"⟩
abbrev cX6_save : ByteArray := prog_1_method_37_code
def yX6_save : MethodName := ⟨RX6, "save", "()I"⟩
abbrev cX6_restore : ByteArray := prog_1_method_38_code
def yX6_restore : MethodName := ⟨RX6, "restore", "()I"⟩
abbrev cX6_startReplica : ByteArray := prog_1_method_39_code
def yX6_startReplica : MethodName := ⟨RX6, "startReplica", "(II)I"⟩
abbrev cX6_removeReplica : ByteArray := prog_1_method_40_code
def yX6_removeReplica : MethodName := ⟨RX6, "removeReplica", "(I)I"⟩
abbrev cX6_changeRate : ByteArray := prog_1_method_41_code
def yX6_changeRate : MethodName := ⟨RX6, "changeRate", "(II)I"⟩
abbrev cX6_changeStopped : ByteArray := prog_1_method_42_code
def yX6_changeStopped : MethodName := ⟨RX6, "changeStopped", "(IZ)I"⟩
abbrev cX6_setBack : ByteArray := prog_1_method_43_code
def yX6_setBack : MethodName := ⟨RX6, "setBack", "(II)I"⟩
abbrev cX6_letTicksPass : ByteArray := prog_1_method_44_code
def yX6_letTicksPass : MethodName := ⟨RX6, "letTicksPass", "(I)I"⟩
abbrev cX6_startSession : ByteArray := prog_1_method_45_code
def yX6_startSession : MethodName := ⟨RX6, "startSession", "(III)I"⟩
abbrev cX6_endSession : ByteArray := prog_1_method_46_code
def yX6_endSession : MethodName := ⟨RX6, "endSession", "(I)I"⟩
abbrev cX6_changeHome : ByteArray := prog_1_method_47_code
def yX6_changeHome : MethodName := ⟨RX6, "changeHome", "(II)I"⟩
abbrev cX6_changeOptions : ByteArray := prog_1_method_48_code
def yX6_changeOptions : MethodName := ⟨RX6, "changeOptions", "(III)I"⟩
abbrev cX6_handMarks : ByteArray := prog_1_method_49_code
def yX6_handMarks : MethodName := ⟨RX6, "handMarks", "(II)I"⟩
abbrev cX6_addWrite : ByteArray := prog_1_method_50_code
def yX6_addWrite : MethodName := ⟨RX6, "addWrite", "(III)I"⟩
abbrev cX6_readAtHome : ByteArray := prog_1_method_51_code
def yX6_readAtHome : MethodName := ⟨RX6, "readAtHome", "(II)I"⟩
abbrev cX6_readAtPlace : ByteArray := prog_1_method_52_code
def yX6_readAtPlace : MethodName := ⟨RX6, "readAtPlace", "(III)I"⟩
abbrev cX6_runCommand : ByteArray := prog_1_method_53_code
def yX6_runCommand : MethodName := ⟨RX6, "runCommand", "()I"⟩
abbrev cX6_isWithin : ByteArray := prog_1_method_54_code
def yX6_isWithin : MethodName := ⟨RX6, "isWithin", "(III)Z"⟩
abbrev cX6_isKey : ByteArray := prog_1_method_55_code
def yX6_isKey : MethodName := ⟨RX6, "isKey", "(I)Z"⟩
abbrev cX6_isError : ByteArray := prog_1_method_56_code
def yX6_isError : MethodName := ⟨RX6, "isError", "(I)Z"⟩
def RX7 : String := "ReplicaSessionsModel"
def TX7 : u_T := fun k => match k with
  | 0 => ("ReplicaSessionsModel", "z", "[I", true)
  | 1 => ("ReplicaSessionsModel", "past", "[I", true)
  | 2 => ("ReplicaSessionsModel", "pastMany", "I", false)
  | 3 => ("ReplicaSessionsModel", "kept", "[I", true)
  | 4 => ("ReplicaSessionsModel", "isKept", "Z", false)
  | 5 => ("ReplicaSessionsModel", "buffer", "[C", true)
  | 6 => ("ReplicaSessionsModel", "typed", "I", false)
  | 7 => ("ReplicaSessionsModel", "told", "[I", true)
  | 8 => ("ReplicaSessionsModel", "toldMany", "I", false)
  | 9 => ("ReplicaSessionsModel", "spot", "I", false)
  | _ => ("ReplicaSessionsModel", "wrong", "I", false)
def tyX7 : Nat → FieldType := fun k => match k with
  | 0 => .array .int
  | 1 => .array .int
  | 2 => .int
  | 3 => .array .int
  | 4 => .boolean
  | 5 => .array .char
  | 6 => .int
  | 7 => .array .int
  | 8 => .int
  | 9 => .int
  | _ => .int
abbrev wsX70 : List Cond := u_ws RX7 TX7 11
theorem nmX7 : ∀ a, a < 11 → ∀ b, b < 11 → a ≠ b → (TX7 a).2.1 ≠ (TX7 b).2.1 := by decide +kernel
theorem tyX7_ok : ∀ k, k < 11 → parseFieldDescriptor (TX7 k).2.2.1 = some (tyX7 k) := by decide +kernel
abbrev cX7_init : ByteArray := prog_9_method_1_code
def yX7_init : MethodName := ⟨RX7, "<init>", "()V"⟩
abbrev cX7_in : ByteArray := prog_9_method_2_code
def yX7_in : MethodName := ⟨RX7, "in", "(III)Z"⟩
abbrev cX7_ofReplica : ByteArray := prog_9_method_3_code
def yX7_ofReplica : MethodName := ⟨RX7, "ofReplica", "(II)I"⟩
abbrev cX7_layReplica : ByteArray := prog_9_method_4_code
def yX7_layReplica : MethodName := ⟨RX7, "layReplica", "(III)V"⟩
abbrev cX7_ofSession : ByteArray := prog_9_method_5_code
def yX7_ofSession : MethodName := ⟨RX7, "ofSession", "(II)I"⟩
abbrev cX7_laySession : ByteArray := prog_9_method_6_code
def yX7_laySession : MethodName := ⟨RX7, "laySession", "(III)V"⟩
abbrev cX7_isReplica : ByteArray := prog_9_method_7_code
def yX7_isReplica : MethodName := ⟨RX7, "isReplica", "(I)Z"⟩
abbrev cX7_isPlace : ByteArray := prog_9_method_8_code
def yX7_isPlace : MethodName := ⟨RX7, "isPlace", "(I)Z"⟩
abbrev cX7_isSession : ByteArray := prog_9_method_9_code
def yX7_isSession : MethodName := ⟨RX7, "isSession", "(I)Z"⟩
abbrev cX7_isKey : ByteArray := prog_9_method_10_code
def yX7_isKey : MethodName := ⟨RX7, "isKey", "(I)Z"⟩
abbrev cX7_record : ByteArray := prog_9_method_11_code
def yX7_record : MethodName := ⟨RX7, "record", "()V"⟩
abbrev cX7_undo : ByteArray := prog_9_method_12_code
def yX7_undo : MethodName := ⟨RX7, "undo", "()I"⟩
abbrev cX7_save : ByteArray := prog_9_method_13_code
def yX7_save : MethodName := ⟨RX7, "save", "()I"⟩
abbrev cX7_restore : ByteArray := prog_9_method_14_code
def yX7_restore : MethodName := ⟨RX7, "restore", "()I"⟩
abbrev cX7_at : ByteArray := prog_9_method_15_code
def yX7_at : MethodName := ⟨RX7, "at", "(I)I"⟩
abbrev cX7_addReplica : ByteArray := prog_9_method_16_code
def yX7_addReplica : MethodName := ⟨RX7, "addReplica", "(II)I"⟩
abbrev cX7_homes : ByteArray := prog_9_method_17_code
def yX7_homes : MethodName := ⟨RX7, "homes", "(I)I"⟩
abbrev cX7_drop : ByteArray := prog_9_method_18_code
def yX7_drop : MethodName := ⟨RX7, "drop", "(I)I"⟩
abbrev cX7_setRate : ByteArray := prog_9_method_19_code
def yX7_setRate : MethodName := ⟨RX7, "setRate", "(II)I"⟩
abbrev cX7_stop : ByteArray := prog_9_method_20_code
def yX7_stop : MethodName := ⟨RX7, "stop", "(IZ)I"⟩
abbrev cX7_whyNotJump : ByteArray := prog_9_method_21_code
def yX7_whyNotJump : MethodName := ⟨RX7, "whyNotJump", "(II)I"⟩
abbrev cX7_jumps : ByteArray := prog_9_method_22_code
def yX7_jumps : MethodName := ⟨RX7, "jumps", "(II)I"⟩
abbrev cX7_jumpBack : ByteArray := prog_9_method_23_code
def yX7_jumpBack : MethodName := ⟨RX7, "jumpBack", "(II)I"⟩
abbrev cX7_atBehind : ByteArray := prog_9_method_24_code
def yX7_atBehind : MethodName := ⟨RX7, "atBehind", "(II)I"⟩
abbrev cX7_ticks : ByteArray := prog_9_method_25_code
def yX7_ticks : MethodName := ⟨RX7, "ticks", "(I)V"⟩
abbrev cX7_tick : ByteArray := prog_9_method_26_code
def yX7_tick : MethodName := ⟨RX7, "tick", "(I)I"⟩
abbrev cX7_replicas : ByteArray := prog_9_method_27_code
def yX7_replicas : MethodName := ⟨RX7, "replicas", "()I"⟩
abbrev cX7_replica : ByteArray := prog_9_method_28_code
def yX7_replica : MethodName := ⟨RX7, "replica", "(II)I"⟩
abbrev cX7_length : ByteArray := prog_9_method_29_code
def yX7_length : MethodName := ⟨RX7, "length", "()I"⟩
abbrev cX7_ofWrite : ByteArray := prog_9_method_30_code
def yX7_ofWrite : MethodName := ⟨RX7, "ofWrite", "(II)I"⟩
abbrev cX7_logged : ByteArray := prog_9_method_31_code
def yX7_logged : MethodName := ⟨RX7, "logged", "(II)I"⟩
abbrev cX7_position : ByteArray := prog_9_method_32_code
def yX7_position : MethodName := ⟨RX7, "position", "(I)I"⟩
abbrev cX7_versionAt : ByteArray := prog_9_method_33_code
def yX7_versionAt : MethodName := ⟨RX7, "versionAt", "(II)I"⟩
abbrev cX7_version : ByteArray := prog_9_method_34_code
def yX7_version : MethodName := ⟨RX7, "version", "(II)I"⟩
abbrev cX7_valueOf : ByteArray := prog_9_method_35_code
def yX7_valueOf : MethodName := ⟨RX7, "valueOf", "(I)I"⟩
abbrev cX7_value : ByteArray := prog_9_method_36_code
def yX7_value : MethodName := ⟨RX7, "value", "(II)I"⟩
abbrev cX7_missing : ByteArray := prog_9_method_37_code
def yX7_missing : MethodName := ⟨RX7, "missing", "(II)I"⟩
abbrev cX7_answers : ByteArray := prog_9_method_38_code
def yX7_answers : MethodName := ⟨RX7, "answers", "(I)I"⟩
abbrev cX7_open : ByteArray := prog_9_method_39_code
def yX7_open : MethodName := ⟨RX7, "open", "(III)I"⟩
abbrev cX7_close : ByteArray := prog_9_method_40_code
def yX7_close : MethodName := ⟨RX7, "close", "(I)I"⟩
abbrev cX7_moves : ByteArray := prog_9_method_41_code
def yX7_moves : MethodName := ⟨RX7, "moves", "(II)I"⟩
abbrev cX7_move : ByteArray := prog_9_method_42_code
def yX7_move : MethodName := ⟨RX7, "move", "(II)I"⟩
abbrev cX7_change : ByteArray := prog_9_method_43_code
def yX7_change : MethodName := ⟨RX7, "change", "(III)I"⟩
abbrev cX7_more : ByteArray := prog_9_method_44_code
def yX7_more : MethodName := ⟨RX7, "more", "(II)I"⟩
abbrev cX7_whyNotHand : ByteArray := prog_9_method_45_code
def yX7_whyNotHand : MethodName := ⟨RX7, "whyNotHand", "(II)I"⟩
abbrev cX7_hands : ByteArray := prog_9_method_46_code
def yX7_hands : MethodName := ⟨RX7, "hands", "(II)I"⟩
abbrev cX7_hand : ByteArray := prog_9_method_47_code
def yX7_hand : MethodName := ⟨RX7, "hand", "(II)I"⟩
abbrev cX7_sessions : ByteArray := prog_9_method_48_code
def yX7_sessions : MethodName := ⟨RX7, "sessions", "()I"⟩
abbrev cX7_has : ByteArray := prog_9_method_49_code
def yX7_has : MethodName := ⟨RX7, "has", "(II)Z"⟩
abbrev cX7_need : ByteArray := prog_9_method_50_code
def yX7_need : MethodName := ⟨RX7, "need", "(I)I"⟩
abbrev cX7_session : ByteArray := prog_9_method_51_code
def yX7_session : MethodName := ⟨RX7, "session", "(II)I"⟩
abbrev cX7_whyNotWrite : ByteArray := prog_9_method_52_code
def yX7_whyNotWrite : MethodName := ⟨RX7, "whyNotWrite", "(III)I"⟩
abbrev cX7_writes : ByteArray := prog_9_method_53_code
def yX7_writes : MethodName := ⟨RX7, "writes", "(III)I"⟩
abbrev cX7_write : ByteArray := prog_9_method_54_code
def yX7_write : MethodName := ⟨RX7, "write", "(III)I"⟩
abbrev cX7_needed : ByteArray := prog_9_method_55_code
def yX7_needed : MethodName := ⟨RX7, "needed", "(II)I"⟩
abbrev cX7_waitOf : ByteArray := prog_9_method_56_code
def yX7_waitOf : MethodName := ⟨RX7, "waitOf", "(III)I"⟩
abbrev cX7_answer : ByteArray := prog_9_method_57_code
def yX7_answer : MethodName := ⟨RX7, "answer", "(IIII)I"⟩
abbrev cX7_waitsAtHome : ByteArray := prog_9_method_58_code
def yX7_waitsAtHome : MethodName := ⟨RX7, "waitsAtHome", "(II)I"⟩
abbrev cX7_whyNotRead : ByteArray := prog_9_method_59_code
def yX7_whyNotRead : MethodName := ⟨RX7, "whyNotRead", "(II)I"⟩
abbrev cX7_reads : ByteArray := prog_9_method_60_code
def yX7_reads : MethodName := ⟨RX7, "reads", "(II)I"⟩
abbrev cX7_read : ByteArray := prog_9_method_61_code
def yX7_read : MethodName := ⟨RX7, "read", "(II)I"⟩
abbrev cX7_readAt : ByteArray := prog_9_method_62_code
def yX7_readAt : MethodName := ⟨RX7, "readAt", "(III)I"⟩
abbrev cX7_latest : ByteArray := prog_9_method_63_code
def yX7_latest : MethodName := ⟨RX7, "latest", "(I)I"⟩
abbrev cX7_waitFor : ByteArray := prog_9_method_64_code
def yX7_waitFor : MethodName := ⟨RX7, "waitFor", "(III)I"⟩
abbrev cX7_bestReplica : ByteArray := prog_9_method_65_code
def yX7_bestReplica : MethodName := ⟨RX7, "bestReplica", "(II)I"⟩
abbrev cX7_keysAfter : ByteArray := prog_9_method_66_code
def yX7_keysAfter : MethodName := ⟨RX7, "keysAfter", "(III)I"⟩
abbrev cX7_catchUp : ByteArray := prog_9_method_67_code
def yX7_catchUp : MethodName := ⟨RX7, "catchUp", "()I"⟩
abbrev cX7_append : ByteArray := prog_9_method_68_code
def yX7_append : MethodName := ⟨RX7, "append", "(I)I"⟩
abbrev cX7_clearText : ByteArray := prog_9_method_69_code
def yX7_clearText : MethodName := ⟨RX7, "clearText", "()I"⟩
abbrev cX7_letter : ByteArray := prog_9_method_70_code
def yX7_letter : MethodName := ⟨RX7, "letter", "()I"⟩
abbrev cX7_wants : ByteArray := prog_9_method_71_code
def yX7_wants : MethodName := ⟨RX7, "wants", "(Z)V"⟩
abbrev cX7_digit : ByteArray := prog_9_method_72_code
def yX7_digit : MethodName := ⟨RX7, "digit", "()I"⟩
abbrev cX7_number : ByteArray := prog_9_method_73_code
def yX7_number : MethodName := ⟨RX7, "number", "()I"⟩
abbrev cX7_place : ByteArray := prog_9_method_74_code
def yX7_place : MethodName := ⟨RX7, "place", "()I"⟩
abbrev cX7_readCommand : ByteArray := prog_9_method_75_code
def yX7_readCommand : MethodName := ⟨RX7, "readCommand", "()V"⟩
abbrev cX7_errorPosition : ByteArray := prog_9_method_76_code
def yX7_errorPosition : MethodName := ⟨RX7, "errorPosition", "()I"⟩
abbrev cX7_executeOne : ByteArray := prog_9_method_77_code
def yX7_executeOne : MethodName := ⟨RX7, "executeOne", "(I)I"⟩
abbrev cX7_execute : ByteArray := prog_9_method_78_code
def yX7_execute : MethodName := ⟨RX7, "execute", "()I"⟩
def RJ9 : String := "java/lang/Math"
def TJ9 : u_T := fun k => match k with
  | _ => ("", "", "", false)
def tyJ9 : Nat → FieldType := fun k => match k with
  | _ => .int
abbrev wsJ90 : List Cond := u_ws RJ9 TJ9 0
theorem nmJ9 : ∀ a, a < 0 → ∀ b, b < 0 → a ≠ b → (TJ9 a).2.1 ≠ (TJ9 b).2.1 := by decide +kernel
theorem tyJ9_ok : ∀ k, k < 0 → parseFieldDescriptor (TJ9 k).2.2.1 = some (tyJ9 k) := by decide +kernel
abbrev cJ9_floorMod_7cf53 : ByteArray := prog_10_method_50_code
def yJ9_floorMod_7cf53 : MethodName := ⟨RJ9, "floorMod", "(II)I"⟩
abbrev cJ9_max_7cf53 : ByteArray := prog_10_method_65_code
def yJ9_max_7cf53 : MethodName := ⟨RJ9, "max", "(II)I"⟩
abbrev cJ9_min_7cf53 : ByteArray := prog_10_method_69_code
def yJ9_min_7cf53 : MethodName := ⟨RJ9, "min", "(II)I"⟩
def RJ10 : String := "java/lang/System"
def TJ10 : u_T := fun k => match k with
  | _ => ("", "", "", false)
def tyJ10 : Nat → FieldType := fun k => match k with
  | _ => .int
abbrev wsJ100 : List Cond := u_ws RJ10 TJ10 0
theorem nmJ10 : ∀ a, a < 0 → ∀ b, b < 0 → a ≠ b → (TJ10 a).2.1 ≠ (TJ10 b).2.1 := by decide +kernel
theorem tyJ10_ok : ∀ k, k < 0 → parseFieldDescriptor (TJ10 k).2.2.1 = some (tyJ10 k) := by decide +kernel
def RJ7 : String := "java/util/Arrays"
def TJ7 : u_T := fun k => match k with
  | _ => ("", "", "", false)
def tyJ7 : Nat → FieldType := fun k => match k with
  | _ => .int
abbrev wsJ70 : List Cond := u_ws RJ7 TJ7 0
theorem nmJ7 : ∀ a, a < 0 → ∀ b, b < 0 → a ≠ b → (TJ7 a).2.1 ≠ (TJ7 b).2.1 := by decide +kernel
theorem tyJ7_ok : ∀ k, k < 0 → parseFieldDescriptor (TJ7 k).2.2.1 = some (tyJ7 k) := by decide +kernel
abbrev cJ7_fill_53178 : ByteArray := prog_12_method_103_code
def yJ7_fill_53178 : MethodName := ⟨RJ7, "fill", "([II)V"⟩
def RL : String := "ReplicaSessionsLaw"
abbrev cL_law : ByteArray := code
def yL_law : MethodName := ⟨RL, "law", "([I)Z"⟩
abbrev vwCl : List vw_C := [(RX0, TX0, 3), (RX1, TX1, 4), (RX2, TX2, 5), (RX3, TX3, 11), (RX4, TX4, 7), (RX5, TX5, 6), (RX6, TX6, 5), (RX7, TX7, 11)]
end
section
/-! words of the tables by their places (mine, by program) -/
def BW : List Cond := lw_tbl.filter goodWord
theorem bw_at {w : Cond} (i : Nat) (h : lw_tbl[i]? = some w) (g : goodWord w = true) : w ∈ BW := List.mem_filter.mpr ⟨List.mem_of_getElem? h, g⟩
theorem bw_sub (ws : List Cond) (ps : List Nat) (hp : ws = ps.filterMap (fun i => lw_tbl[i]?)) (h : ws.all goodWord = true) : ∀ w ∈ ws, w ∈ BW := by
  intro w hw
  have h1 := List.all_eq_true.mp h w hw
  rw [hp] at hw
  obtain ⟨i, -, hi⟩ := List.mem_filterMap.mp hw
  exact List.mem_filter.mpr ⟨List.mem_of_getElem? hi, h1⟩
theorem bw_tbl : ∀ w ∈ BW, w ∈ lw_tbl := fun w h => (List.mem_filter.mp h).1
theorem bw_good : ∀ w ∈ BW, goodWord w = true := fun w h => (List.mem_filter.mp h).2
theorem b_se_yX0_stateAfterOldest : Cond.selects RX0 yX0_stateAfterOldest yX0_stateAfterOldest ∈ BW := bw_at 0 (by decide +kernel) (by first | rfl | decide +kernel)
theorem b_se_yX6_startReplica : Cond.selects RX6 yX6_startReplica yX6_startReplica ∈ BW := bw_at 1 (by decide +kernel) (by first | rfl | decide +kernel)
theorem b_se_yX6_removeReplica : Cond.selects RX6 yX6_removeReplica yX6_removeReplica ∈ BW := bw_at 2 (by decide +kernel) (by first | rfl | decide +kernel)
theorem b_se_yX6_changeRate : Cond.selects RX6 yX6_changeRate yX6_changeRate ∈ BW := bw_at 3 (by decide +kernel) (by first | rfl | decide +kernel)
theorem b_se_yX6_changeStopped : Cond.selects RX6 yX6_changeStopped yX6_changeStopped ∈ BW := bw_at 4 (by decide +kernel) (by first | rfl | decide +kernel)
theorem b_se_yX6_setBack : Cond.selects RX6 yX6_setBack yX6_setBack ∈ BW := bw_at 5 (by decide +kernel) (by first | rfl | decide +kernel)
theorem b_se_yX6_letTicksPass : Cond.selects RX6 yX6_letTicksPass yX6_letTicksPass ∈ BW := bw_at 6 (by decide +kernel) (by first | rfl | decide +kernel)
theorem b_se_yX6_startSession : Cond.selects RX6 yX6_startSession yX6_startSession ∈ BW := bw_at 7 (by decide +kernel) (by first | rfl | decide +kernel)
theorem b_se_yX6_endSession : Cond.selects RX6 yX6_endSession yX6_endSession ∈ BW := bw_at 8 (by decide +kernel) (by first | rfl | decide +kernel)
theorem b_se_yX6_changeHome : Cond.selects RX6 yX6_changeHome yX6_changeHome ∈ BW := bw_at 9 (by decide +kernel) (by first | rfl | decide +kernel)
theorem b_se_yX6_changeOptions : Cond.selects RX6 yX6_changeOptions yX6_changeOptions ∈ BW := bw_at 10 (by decide +kernel) (by first | rfl | decide +kernel)
theorem b_se_yX6_handMarks : Cond.selects RX6 yX6_handMarks yX6_handMarks ∈ BW := bw_at 11 (by decide +kernel) (by first | rfl | decide +kernel)
theorem b_se_yX6_addWrite : Cond.selects RX6 yX6_addWrite yX6_addWrite ∈ BW := bw_at 12 (by decide +kernel) (by first | rfl | decide +kernel)
theorem b_se_yX6_readAtHome : Cond.selects RX6 yX6_readAtHome yX6_readAtHome ∈ BW := bw_at 13 (by decide +kernel) (by first | rfl | decide +kernel)
theorem b_se_yX4_neededPosition : Cond.selects RX4 yX4_neededPosition yX4_neededPosition ∈ BW := bw_at 14 (by decide +kernel) (by first | rfl | decide +kernel)
theorem b_se_yX4_countAnswer : Cond.selects RX4 yX4_countAnswer yX4_countAnswer ∈ BW := bw_at 15 (by decide +kernel) (by first | rfl | decide +kernel)
theorem b_se_yX6_readAtPlace : Cond.selects RX6 yX6_readAtPlace yX6_readAtPlace ∈ BW := bw_at 16 (by decide +kernel) (by first | rfl | decide +kernel)
theorem b_se_yX5_codeHere : Cond.selects RX5 yX5_codeHere yX5_codeHere ∈ BW := bw_at 17 (by decide +kernel) (by first | rfl | decide +kernel)
theorem b_se_yX5_readDigit : Cond.selects RX5 yX5_readDigit yX5_readDigit ∈ BW := bw_at 18 (by decide +kernel) (by first | rfl | decide +kernel)
theorem b_se_yX5_takeDigit : Cond.selects RX5 yX5_takeDigit yX5_takeDigit ∈ BW := bw_at 19 (by decide +kernel) (by first | rfl | decide +kernel)
theorem b_se_yX5_addArgument : Cond.selects RX5 yX5_addArgument yX5_addArgument ∈ BW := bw_at 20 (by decide +kernel) (by first | rfl | decide +kernel)
theorem b_se_yX5_readNumber : Cond.selects RX5 yX5_readNumber yX5_readNumber ∈ BW := bw_at 21 (by decide +kernel) (by first | rfl | decide +kernel)
theorem b_se_yX5_readPlace : Cond.selects RX5 yX5_readPlace yX5_readPlace ∈ BW := bw_at 22 (by decide +kernel) (by first | rfl | decide +kernel)
theorem b_se_yX6_runCommand : Cond.selects RX6 yX6_runCommand yX6_runCommand ∈ BW := bw_at 23 (by decide +kernel) (by first | rfl | decide +kernel)
theorem b_se_yX7_record : Cond.selects RX7 yX7_record yX7_record ∈ BW := bw_at 24 (by decide +kernel) (by first | rfl | decide +kernel)
theorem b_se_yX7_isPlace : Cond.selects RX7 yX7_isPlace yX7_isPlace ∈ BW := bw_at 25 (by decide +kernel) (by first | rfl | decide +kernel)
theorem b_se_yX7_isReplica : Cond.selects RX7 yX7_isReplica yX7_isReplica ∈ BW := bw_at 26 (by decide +kernel) (by first | rfl | decide +kernel)
theorem b_se_yX7_ofReplica : Cond.selects RX7 yX7_ofReplica yX7_ofReplica ∈ BW := bw_at 27 (by decide +kernel) (by first | rfl | decide +kernel)
theorem b_se_yX7_layReplica : Cond.selects RX7 yX7_layReplica yX7_layReplica ∈ BW := bw_at 28 (by decide +kernel) (by first | rfl | decide +kernel)
theorem b_se_yX7_at : Cond.selects RX7 yX7_at yX7_at ∈ BW := bw_at 29 (by decide +kernel) (by first | rfl | decide +kernel)
theorem b_se_yX7_homes : Cond.selects RX7 yX7_homes yX7_homes ∈ BW := bw_at 30 (by decide +kernel) (by first | rfl | decide +kernel)
theorem b_se_yX7_ofSession : Cond.selects RX7 yX7_ofSession yX7_ofSession ∈ BW := bw_at 31 (by decide +kernel) (by first | rfl | decide +kernel)
theorem b_se_yX7_laySession : Cond.selects RX7 yX7_laySession yX7_laySession ∈ BW := bw_at 32 (by decide +kernel) (by first | rfl | decide +kernel)
theorem b_se_yX7_whyNotJump : Cond.selects RX7 yX7_whyNotJump yX7_whyNotJump ∈ BW := bw_at 33 (by decide +kernel) (by first | rfl | decide +kernel)
theorem b_se_yX7_jumps : Cond.selects RX7 yX7_jumps yX7_jumps ∈ BW := bw_at 34 (by decide +kernel) (by first | rfl | decide +kernel)
theorem b_se_yX7_ticks : Cond.selects RX7 yX7_ticks yX7_ticks ∈ BW := bw_at 35 (by decide +kernel) (by first | rfl | decide +kernel)
theorem b_se_yX7_atBehind : Cond.selects RX7 yX7_atBehind yX7_atBehind ∈ BW := bw_at 36 (by decide +kernel) (by first | rfl | decide +kernel)
theorem b_se_yX7_ofWrite : Cond.selects RX7 yX7_ofWrite yX7_ofWrite ∈ BW := bw_at 37 (by decide +kernel) (by first | rfl | decide +kernel)
theorem b_se_yX7_versionAt : Cond.selects RX7 yX7_versionAt yX7_versionAt ∈ BW := bw_at 38 (by decide +kernel) (by first | rfl | decide +kernel)
theorem b_se_yX7_valueOf : Cond.selects RX7 yX7_valueOf yX7_valueOf ∈ BW := bw_at 39 (by decide +kernel) (by first | rfl | decide +kernel)
theorem b_se_yX7_isSession : Cond.selects RX7 yX7_isSession yX7_isSession ∈ BW := bw_at 40 (by decide +kernel) (by first | rfl | decide +kernel)
theorem b_se_yX7_moves : Cond.selects RX7 yX7_moves yX7_moves ∈ BW := bw_at 41 (by decide +kernel) (by first | rfl | decide +kernel)
theorem b_se_yX7_whyNotHand : Cond.selects RX7 yX7_whyNotHand yX7_whyNotHand ∈ BW := bw_at 42 (by decide +kernel) (by first | rfl | decide +kernel)
theorem b_se_yX7_hands : Cond.selects RX7 yX7_hands yX7_hands ∈ BW := bw_at 43 (by decide +kernel) (by first | rfl | decide +kernel)
theorem b_se_yX7_need : Cond.selects RX7 yX7_need yX7_need ∈ BW := bw_at 44 (by decide +kernel) (by first | rfl | decide +kernel)
theorem b_se_yX7_has : Cond.selects RX7 yX7_has yX7_has ∈ BW := bw_at 45 (by decide +kernel) (by first | rfl | decide +kernel)
theorem b_se_yX7_whyNotWrite : Cond.selects RX7 yX7_whyNotWrite yX7_whyNotWrite ∈ BW := bw_at 46 (by decide +kernel) (by first | rfl | decide +kernel)
theorem b_se_yX7_writes : Cond.selects RX7 yX7_writes yX7_writes ∈ BW := bw_at 47 (by decide +kernel) (by first | rfl | decide +kernel)
theorem b_se_yX7_whyNotRead : Cond.selects RX7 yX7_whyNotRead yX7_whyNotRead ∈ BW := bw_at 48 (by decide +kernel) (by first | rfl | decide +kernel)
theorem b_se_yX7_waitsAtHome : Cond.selects RX7 yX7_waitsAtHome yX7_waitsAtHome ∈ BW := bw_at 49 (by decide +kernel) (by first | rfl | decide +kernel)
theorem b_se_yX7_waitOf : Cond.selects RX7 yX7_waitOf yX7_waitOf ∈ BW := bw_at 50 (by decide +kernel) (by first | rfl | decide +kernel)
theorem b_se_yX7_needed : Cond.selects RX7 yX7_needed yX7_needed ∈ BW := bw_at 51 (by decide +kernel) (by first | rfl | decide +kernel)
theorem b_se_yX7_reads : Cond.selects RX7 yX7_reads yX7_reads ∈ BW := bw_at 52 (by decide +kernel) (by first | rfl | decide +kernel)
theorem b_se_yX7_answer : Cond.selects RX7 yX7_answer yX7_answer ∈ BW := bw_at 53 (by decide +kernel) (by first | rfl | decide +kernel)
theorem b_se_yX7_readCommand : Cond.selects RX7 yX7_readCommand yX7_readCommand ∈ BW := bw_at 54 (by decide +kernel) (by first | rfl | decide +kernel)
theorem b_se_yX7_letter : Cond.selects RX7 yX7_letter yX7_letter ∈ BW := bw_at 55 (by decide +kernel) (by first | rfl | decide +kernel)
theorem b_se_yX7_wants : Cond.selects RX7 yX7_wants yX7_wants ∈ BW := bw_at 56 (by decide +kernel) (by first | rfl | decide +kernel)
theorem b_se_yX7_number : Cond.selects RX7 yX7_number yX7_number ∈ BW := bw_at 57 (by decide +kernel) (by first | rfl | decide +kernel)
theorem b_se_yX7_digit : Cond.selects RX7 yX7_digit yX7_digit ∈ BW := bw_at 58 (by decide +kernel) (by first | rfl | decide +kernel)
theorem b_se_yX7_place : Cond.selects RX7 yX7_place yX7_place ∈ BW := bw_at 59 (by decide +kernel) (by first | rfl | decide +kernel)
theorem b_se_yX7_executeOne : Cond.selects RX7 yX7_executeOne yX7_executeOne ∈ BW := bw_at 60 (by decide +kernel) (by first | rfl | decide +kernel)
theorem b_in_L : Cond.initialized RL ∈ BW := bw_at 61 (by decide +kernel) (by first | rfl | decide +kernel)
theorem b_in_X6 : Cond.initialized RX6 ∈ BW := bw_at 62 (by decide +kernel) (by first | rfl | decide +kernel)
theorem b_in_X4 : Cond.initialized RX4 ∈ BW := bw_at 63 (by decide +kernel) (by first | rfl | decide +kernel)
theorem b_in_X1 : Cond.initialized RX1 ∈ BW := bw_at 64 (by decide +kernel) (by first | rfl | decide +kernel)
theorem b_in_X2 : Cond.initialized RX2 ∈ BW := bw_at 65 (by decide +kernel) (by first | rfl | decide +kernel)
theorem b_in_X3 : Cond.initialized RX3 ∈ BW := bw_at 66 (by decide +kernel) (by first | rfl | decide +kernel)
theorem b_in_X0 : Cond.initialized RX0 ∈ BW := bw_at 67 (by decide +kernel) (by first | rfl | decide +kernel)
theorem b_in_X5 : Cond.initialized RX5 ∈ BW := bw_at 68 (by decide +kernel) (by first | rfl | decide +kernel)
theorem b_in_X7 : Cond.initialized RX7 ∈ BW := bw_at 69 (by decide +kernel) (by first | rfl | decide +kernel)
theorem b_in_J9 : Cond.initialized RJ9 ∈ BW := bw_at 70 (by decide +kernel) (by first | rfl | decide +kernel)
theorem b_in_J10 : Cond.initialized RJ10 ∈ BW := bw_at 71 (by decide +kernel) (by first | rfl | decide +kernel)
theorem b_in_J7 : Cond.initialized RJ7 ∈ BW := bw_at 72 (by decide +kernel) (by first | rfl | decide +kernel)
theorem b_cl_L_7 : Cond.classLink RL 7 RX6 ∈ BW := bw_at 73 (by decide +kernel) (by first | rfl | decide +kernel)
theorem b_is_X6 : Cond.instantiable RX6 5 ∈ BW := bw_at 74 (by decide +kernel) (by first | rfl | decide +kernel)
theorem b_ml_L_9 : Cond.methodLink RL 9 yX6_init ∈ BW := bw_at 75 (by decide +kernel) (by first | rfl | decide +kernel)
theorem b_in_yX6_init : Cond.instanceMethod yX6_init ∈ BW := bw_at 76 (by decide +kernel) (by first | rfl | decide +kernel)
theorem b_co_yX6_init : Cond.code yX6_init cX6_init 1 none ∈ BW := bw_at 77 (by decide +kernel) (by first | rfl | decide +kernel)
theorem b_ml_X6_3 : Cond.methodLink RX6 3 objectInit ∈ BW := bw_at 78 (by decide +kernel) (by first | rfl | decide +kernel)
theorem b_in_objectInit : Cond.instanceMethod objectInit ∈ BW := bw_at 79 (by decide +kernel) (by first | rfl | decide +kernel)
theorem b_co_objectInit : Cond.code objectInit ⟨#[0xb1]⟩ 1 none ∈ BW := bw_at 80 (by decide +kernel) (by first | rfl | decide +kernel)
theorem b_cl_X6_9 : Cond.classLink RX6 9 RX4 ∈ BW := bw_at 81 (by decide +kernel) (by first | rfl | decide +kernel)
theorem b_is_X4 : Cond.instantiable RX4 7 ∈ BW := bw_at 82 (by decide +kernel) (by first | rfl | decide +kernel)
theorem b_ml_X6_11 : Cond.methodLink RX6 11 yX4_init ∈ BW := bw_at 83 (by decide +kernel) (by first | rfl | decide +kernel)
theorem b_in_yX4_init : Cond.instanceMethod yX4_init ∈ BW := bw_at 84 (by decide +kernel) (by first | rfl | decide +kernel)
theorem b_co_yX4_init : Cond.code yX4_init cX4_init 2 none ∈ BW := bw_at 85 (by decide +kernel) (by first | rfl | decide +kernel)
theorem b_ml_X4_3 : Cond.methodLink RX4 3 objectInit ∈ BW := bw_at 86 (by decide +kernel) (by first | rfl | decide +kernel)
theorem b_cl_X4_9 : Cond.classLink RX4 9 RX1 ∈ BW := bw_at 87 (by decide +kernel) (by first | rfl | decide +kernel)
theorem b_is_X1 : Cond.instantiable RX1 4 ∈ BW := bw_at 88 (by decide +kernel) (by first | rfl | decide +kernel)
theorem nest_X4_11 : Cond.methodLinkNest RX4 11 yX1_init RX6 ∈ lw_tbl := List.mem_of_getElem? (i := 89) (by decide +kernel)
theorem b_in_yX1_init : Cond.instanceMethod yX1_init ∈ BW := bw_at 90 (by decide +kernel) (by first | rfl | decide +kernel)
theorem b_co_yX1_init : Cond.code yX1_init cX1_init 1 none ∈ BW := bw_at 91 (by decide +kernel) (by first | rfl | decide +kernel)
theorem b_ml_X1_3 : Cond.methodLink RX1 3 objectInit ∈ BW := bw_at 92 (by decide +kernel) (by first | rfl | decide +kernel)
theorem b_fl_X1_9 : Cond.fieldLink RX1 9 RX1 "count" "I" ∈ BW := bw_at 93 (by decide +kernel) (by first | rfl | decide +kernel)
theorem b_fl_X6_89 : Cond.fieldLink RX6 89 RX1 "count" "I" ∈ BW := bw_at 94 (by decide +kernel) (by first | rfl | decide +kernel)
theorem b_fl_X4_74 : Cond.fieldLink RX4 74 RX1 "count" "I" ∈ BW := bw_at 95 (by decide +kernel) (by first | rfl | decide +kernel)
theorem b_fl_X1_15 : Cond.fieldLink RX1 15 RX1 "keys" "[I" ∈ BW := bw_at 96 (by decide +kernel) (by first | rfl | decide +kernel)
theorem b_fl_X1_19 : Cond.fieldLink RX1 19 RX1 "values" "[I" ∈ BW := bw_at 97 (by decide +kernel) (by first | rfl | decide +kernel)
theorem b_fl_X1_22 : Cond.fieldLink RX1 22 RX1 "writers" "[I" ∈ BW := bw_at 98 (by decide +kernel) (by first | rfl | decide +kernel)
theorem b_ac_int : Cond.arrayClass .int ∈ BW := bw_at 108 (by decide +kernel) (by first | rfl | decide +kernel)
theorem b_cl_X4_18 : Cond.classLink RX4 18 RX2 ∈ BW := bw_at 109 (by decide +kernel) (by first | rfl | decide +kernel)
theorem b_ao_X2 : Cond.arrayOver (.object RX2) ∈ lw_tbl := List.mem_of_getElem? (i := 110) (by decide +kernel)
theorem b_cl_X4_24 : Cond.classLink RX4 24 RX3 ∈ BW := bw_at 111 (by decide +kernel) (by first | rfl | decide +kernel)
theorem b_ao_X3 : Cond.arrayOver (.object RX3) ∈ lw_tbl := List.mem_of_getElem? (i := 112) (by decide +kernel)
theorem b_is_X2 : Cond.instantiable RX2 5 ∈ BW := bw_at 113 (by decide +kernel) (by first | rfl | decide +kernel)
theorem nest_X4_43 : Cond.methodLinkNest RX4 43 yX2_init RX6 ∈ lw_tbl := List.mem_of_getElem? (i := 114) (by decide +kernel)
theorem b_in_yX2_init : Cond.instanceMethod yX2_init ∈ BW := bw_at 115 (by decide +kernel) (by first | rfl | decide +kernel)
theorem b_co_yX2_init : Cond.code yX2_init cX2_init 1 none ∈ BW := bw_at 116 (by decide +kernel) (by first | rfl | decide +kernel)
theorem b_ml_X2_3 : Cond.methodLink RX2 3 objectInit ∈ BW := bw_at 117 (by decide +kernel) (by first | rfl | decide +kernel)
theorem b_fl_X2_9 : Cond.fieldLink RX2 9 RX2 "isThere" "Z" ∈ BW := bw_at 118 (by decide +kernel) (by first | rfl | decide +kernel)
theorem b_fl_X4_49 : Cond.fieldLink RX4 49 RX2 "isThere" "Z" ∈ BW := bw_at 119 (by decide +kernel) (by first | rfl | decide +kernel)
theorem b_fl_X6_249 : Cond.fieldLink RX6 249 RX2 "isThere" "Z" ∈ BW := bw_at 120 (by decide +kernel) (by first | rfl | decide +kernel)
theorem b_fl_X2_15 : Cond.fieldLink RX2 15 RX2 "position" "I" ∈ BW := bw_at 121 (by decide +kernel) (by first | rfl | decide +kernel)
theorem b_fl_X4_77 : Cond.fieldLink RX4 77 RX2 "position" "I" ∈ BW := bw_at 122 (by decide +kernel) (by first | rfl | decide +kernel)
theorem b_fl_X6_255 : Cond.fieldLink RX6 255 RX2 "position" "I" ∈ BW := bw_at 123 (by decide +kernel) (by first | rfl | decide +kernel)
theorem b_fl_X2_19 : Cond.fieldLink RX2 19 RX2 "rate" "I" ∈ BW := bw_at 124 (by decide +kernel) (by first | rfl | decide +kernel)
theorem b_fl_X6_73 : Cond.fieldLink RX6 73 RX2 "rate" "I" ∈ BW := bw_at 125 (by decide +kernel) (by first | rfl | decide +kernel)
theorem b_fl_X2_22 : Cond.fieldLink RX2 22 RX2 "isStopped" "Z" ∈ BW := bw_at 126 (by decide +kernel) (by first | rfl | decide +kernel)
theorem b_fl_X6_79 : Cond.fieldLink RX6 79 RX2 "isStopped" "Z" ∈ BW := bw_at 127 (by decide +kernel) (by first | rfl | decide +kernel)
theorem b_fl_X2_25 : Cond.fieldLink RX2 25 RX2 "answerCount" "I" ∈ BW := bw_at 128 (by decide +kernel) (by first | rfl | decide +kernel)
theorem b_fl_X6_125 : Cond.fieldLink RX6 125 RX2 "answerCount" "I" ∈ BW := bw_at 129 (by decide +kernel) (by first | rfl | decide +kernel)
theorem b_fl_X4_116 : Cond.fieldLink RX4 116 RX2 "answerCount" "I" ∈ BW := bw_at 130 (by decide +kernel) (by first | rfl | decide +kernel)
theorem b_is_X3 : Cond.instantiable RX3 11 ∈ BW := bw_at 142 (by decide +kernel) (by first | rfl | decide +kernel)
theorem nest_X4_44 : Cond.methodLinkNest RX4 44 yX3_init RX6 ∈ lw_tbl := List.mem_of_getElem? (i := 143) (by decide +kernel)
theorem b_in_yX3_init : Cond.instanceMethod yX3_init ∈ BW := bw_at 144 (by decide +kernel) (by first | rfl | decide +kernel)
theorem b_co_yX3_init : Cond.code yX3_init cX3_init 1 none ∈ BW := bw_at 145 (by decide +kernel) (by first | rfl | decide +kernel)
theorem b_ml_X3_3 : Cond.methodLink RX3 3 objectInit ∈ BW := bw_at 146 (by decide +kernel) (by first | rfl | decide +kernel)
theorem b_fl_X3_9 : Cond.fieldLink RX3 9 RX3 "isOpen" "Z" ∈ BW := bw_at 147 (by decide +kernel) (by first | rfl | decide +kernel)
theorem b_fl_X4_53 : Cond.fieldLink RX4 53 RX3 "isOpen" "Z" ∈ BW := bw_at 148 (by decide +kernel) (by first | rfl | decide +kernel)
theorem b_fl_X6_268 : Cond.fieldLink RX6 268 RX3 "isOpen" "Z" ∈ BW := bw_at 149 (by decide +kernel) (by first | rfl | decide +kernel)
theorem b_fl_X3_15 : Cond.fieldLink RX3 15 RX3 "home" "I" ∈ BW := bw_at 150 (by decide +kernel) (by first | rfl | decide +kernel)
theorem b_fl_X4_71 : Cond.fieldLink RX4 71 RX3 "home" "I" ∈ BW := bw_at 151 (by decide +kernel) (by first | rfl | decide +kernel)
theorem b_fl_X6_151 : Cond.fieldLink RX6 151 RX3 "home" "I" ∈ BW := bw_at 152 (by decide +kernel) (by first | rfl | decide +kernel)
theorem b_fl_X3_19 : Cond.fieldLink RX3 19 RX3 "options" "I" ∈ BW := bw_at 153 (by decide +kernel) (by first | rfl | decide +kernel)
theorem b_fl_X6_156 : Cond.fieldLink RX6 156 RX3 "options" "I" ∈ BW := bw_at 154 (by decide +kernel) (by first | rfl | decide +kernel)
theorem b_fl_X3_22 : Cond.fieldLink RX3 22 RX3 "bound" "I" ∈ BW := bw_at 155 (by decide +kernel) (by first | rfl | decide +kernel)
theorem b_fl_X6_159 : Cond.fieldLink RX6 159 RX3 "bound" "I" ∈ BW := bw_at 156 (by decide +kernel) (by first | rfl | decide +kernel)
theorem b_fl_X3_25 : Cond.fieldLink RX3 25 RX3 "ownMark" "I" ∈ BW := bw_at 157 (by decide +kernel) (by first | rfl | decide +kernel)
theorem b_fl_X6_162 : Cond.fieldLink RX6 162 RX3 "ownMark" "I" ∈ BW := bw_at 158 (by decide +kernel) (by first | rfl | decide +kernel)
theorem b_fl_X3_28 : Cond.fieldLink RX3 28 RX3 "seenMark" "I" ∈ BW := bw_at 159 (by decide +kernel) (by first | rfl | decide +kernel)
theorem b_fl_X6_165 : Cond.fieldLink RX6 165 RX3 "seenMark" "I" ∈ BW := bw_at 160 (by decide +kernel) (by first | rfl | decide +kernel)
theorem b_fl_X3_31 : Cond.fieldLink RX3 31 RX3 "readCount" "I" ∈ BW := bw_at 161 (by decide +kernel) (by first | rfl | decide +kernel)
theorem b_fl_X6_171 : Cond.fieldLink RX6 171 RX3 "readCount" "I" ∈ BW := bw_at 162 (by decide +kernel) (by first | rfl | decide +kernel)
theorem b_fl_X3_34 : Cond.fieldLink RX3 34 RX3 "undoingReads" "I" ∈ BW := bw_at 163 (by decide +kernel) (by first | rfl | decide +kernel)
theorem b_fl_X6_174 : Cond.fieldLink RX6 174 RX3 "undoingReads" "I" ∈ BW := bw_at 164 (by decide +kernel) (by first | rfl | decide +kernel)
theorem b_fl_X3_37 : Cond.fieldLink RX3 37 RX3 "readsGoneBack" "I" ∈ BW := bw_at 165 (by decide +kernel) (by first | rfl | decide +kernel)
theorem b_fl_X6_177 : Cond.fieldLink RX6 177 RX3 "readsGoneBack" "I" ∈ BW := bw_at 166 (by decide +kernel) (by first | rfl | decide +kernel)
theorem b_fl_X3_40 : Cond.fieldLink RX3 40 RX3 "latestWrites" "[I" ∈ BW := bw_at 167 (by decide +kernel) (by first | rfl | decide +kernel)
theorem b_fl_X3_44 : Cond.fieldLink RX3 44 RX3 "greatestReads" "[I" ∈ BW := bw_at 168 (by decide +kernel) (by first | rfl | decide +kernel)
theorem b_fl_X4_12 : Cond.fieldLink RX4 12 RX4 "log" "LReplicaSessions$Log;" ∈ BW := bw_at 192 (by decide +kernel) (by first | rfl | decide +kernel)
theorem b_fl_X6_85 : Cond.fieldLink RX6 85 RX4 "log" "LReplicaSessions$Log;" ∈ BW := bw_at 193 (by decide +kernel) (by first | rfl | decide +kernel)
theorem b_fl_X4_20 : Cond.fieldLink RX4 20 RX4 "replicas" "[LReplicaSessions$Replica;" ∈ BW := bw_at 194 (by decide +kernel) (by first | rfl | decide +kernel)
theorem b_fl_X4_26 : Cond.fieldLink RX4 26 RX4 "sessions" "[LReplicaSessions$Session;" ∈ BW := bw_at 195 (by decide +kernel) (by first | rfl | decide +kernel)
theorem b_fl_X4_30 : Cond.fieldLink RX4 30 RX4 "primaryAnswers" "I" ∈ BW := bw_at 196 (by decide +kernel) (by first | rfl | decide +kernel)
theorem b_fl_X6_122 : Cond.fieldLink RX6 122 RX4 "primaryAnswers" "I" ∈ BW := bw_at 197 (by decide +kernel) (by first | rfl | decide +kernel)
theorem b_fl_X4_34 : Cond.fieldLink RX4 34 RX4 "latestPlace" "I" ∈ BW := bw_at 198 (by decide +kernel) (by first | rfl | decide +kernel)
theorem b_fl_X6_193 : Cond.fieldLink RX6 193 RX4 "latestPlace" "I" ∈ BW := bw_at 199 (by decide +kernel) (by first | rfl | decide +kernel)
theorem b_fl_X4_37 : Cond.fieldLink RX4 37 RX4 "latestVersion" "I" ∈ BW := bw_at 200 (by decide +kernel) (by first | rfl | decide +kernel)
theorem b_fl_X6_196 : Cond.fieldLink RX6 196 RX4 "latestVersion" "I" ∈ BW := bw_at 201 (by decide +kernel) (by first | rfl | decide +kernel)
theorem b_fl_X4_40 : Cond.fieldLink RX4 40 RX4 "latestTicks" "I" ∈ BW := bw_at 202 (by decide +kernel) (by first | rfl | decide +kernel)
theorem b_fl_X6_199 : Cond.fieldLink RX6 199 RX4 "latestTicks" "I" ∈ BW := bw_at 203 (by decide +kernel) (by first | rfl | decide +kernel)
theorem b_cl_X6_23 : Cond.classLink RX6 23 RX0 ∈ BW := bw_at 219 (by decide +kernel) (by first | rfl | decide +kernel)
theorem b_is_X0 : Cond.instantiable RX0 3 ∈ BW := bw_at 220 (by decide +kernel) (by first | rfl | decide +kernel)
theorem b_ml_X6_25 : Cond.methodLink RX6 25 yX0_init ∈ BW := bw_at 221 (by decide +kernel) (by first | rfl | decide +kernel)
theorem b_in_yX0_init : Cond.instanceMethod yX0_init ∈ BW := bw_at 222 (by decide +kernel) (by first | rfl | decide +kernel)
theorem b_co_yX0_init : Cond.code yX0_init cX0_init 2 none ∈ BW := bw_at 223 (by decide +kernel) (by first | rfl | decide +kernel)
theorem b_ml_X0_3 : Cond.methodLink RX0 3 objectInit ∈ BW := bw_at 224 (by decide +kernel) (by first | rfl | decide +kernel)
theorem b_cl_X0_11 : Cond.classLink RX0 11 RX4 ∈ BW := bw_at 225 (by decide +kernel) (by first | rfl | decide +kernel)
theorem b_ao_X4 : Cond.arrayOver (.object RX4) ∈ lw_tbl := List.mem_of_getElem? (i := 226) (by decide +kernel)
theorem b_ml_X0_24 : Cond.methodLink RX0 24 yX4_init ∈ BW := bw_at 227 (by decide +kernel) (by first | rfl | decide +kernel)
theorem b_fl_X0_13 : Cond.fieldLink RX0 13 RX0 "states" "[LReplicaSessions$State;" ∈ BW := bw_at 228 (by decide +kernel) (by first | rfl | decide +kernel)
theorem b_fl_X0_17 : Cond.fieldLink RX0 17 RX0 "oldest" "I" ∈ BW := bw_at 229 (by decide +kernel) (by first | rfl | decide +kernel)
theorem b_fl_X0_21 : Cond.fieldLink RX0 21 RX0 "count" "I" ∈ BW := bw_at 230 (by decide +kernel) (by first | rfl | decide +kernel)
theorem b_cl_X6_30 : Cond.classLink RX6 30 RX5 ∈ BW := bw_at 238 (by decide +kernel) (by first | rfl | decide +kernel)
theorem b_is_X5 : Cond.instantiable RX5 6 ∈ BW := bw_at 239 (by decide +kernel) (by first | rfl | decide +kernel)
theorem nest_X6_32 : Cond.methodLinkNest RX6 32 yX5_init RX6 ∈ lw_tbl := List.mem_of_getElem? (i := 240) (by decide +kernel)
theorem b_in_yX5_init : Cond.instanceMethod yX5_init ∈ BW := bw_at 241 (by decide +kernel) (by first | rfl | decide +kernel)
theorem b_co_yX5_init : Cond.code yX5_init cX5_init 1 none ∈ BW := bw_at 242 (by decide +kernel) (by first | rfl | decide +kernel)
theorem b_ml_X5_3 : Cond.methodLink RX5 3 objectInit ∈ BW := bw_at 243 (by decide +kernel) (by first | rfl | decide +kernel)
theorem b_fl_X5_9 : Cond.fieldLink RX5 9 RX5 "codes" "[I" ∈ BW := bw_at 244 (by decide +kernel) (by first | rfl | decide +kernel)
theorem b_fl_X5_15 : Cond.fieldLink RX5 15 RX5 "count" "I" ∈ BW := bw_at 245 (by decide +kernel) (by first | rfl | decide +kernel)
theorem b_fl_X5_19 : Cond.fieldLink RX5 19 RX5 "at" "I" ∈ BW := bw_at 246 (by decide +kernel) (by first | rfl | decide +kernel)
theorem b_fl_X5_22 : Cond.fieldLink RX5 22 RX5 "letter" "I" ∈ BW := bw_at 247 (by decide +kernel) (by first | rfl | decide +kernel)
theorem b_fl_X6_287 : Cond.fieldLink RX6 287 RX5 "letter" "I" ∈ BW := bw_at 248 (by decide +kernel) (by first | rfl | decide +kernel)
theorem b_fl_X5_25 : Cond.fieldLink RX5 25 RX5 "arguments" "[I" ∈ BW := bw_at 249 (by decide +kernel) (by first | rfl | decide +kernel)
theorem b_fl_X5_28 : Cond.fieldLink RX5 28 RX5 "argumentCount" "I" ∈ BW := bw_at 250 (by decide +kernel) (by first | rfl | decide +kernel)
theorem b_fl_X6_12 : Cond.fieldLink RX6 12 RX6 "now" "LReplicaSessions$State;" ∈ BW := bw_at 264 (by decide +kernel) (by first | rfl | decide +kernel)
theorem b_fl_X6_16 : Cond.fieldLink RX6 16 RX6 "saved" "LReplicaSessions$State;" ∈ BW := bw_at 265 (by decide +kernel) (by first | rfl | decide +kernel)
theorem b_fl_X6_19 : Cond.fieldLink RX6 19 RX6 "isSaved" "Z" ∈ BW := bw_at 266 (by decide +kernel) (by first | rfl | decide +kernel)
theorem b_fl_X6_26 : Cond.fieldLink RX6 26 RX6 "history" "LReplicaSessions$History;" ∈ BW := bw_at 267 (by decide +kernel) (by first | rfl | decide +kernel)
theorem b_fl_X6_33 : Cond.fieldLink RX6 33 RX6 "text" "LReplicaSessions$Text;" ∈ BW := bw_at 268 (by decide +kernel) (by first | rfl | decide +kernel)
theorem b_ml_L_13 : Cond.methodLink RL 13 yX6_addReplica ∈ BW := bw_at 280 (by decide +kernel) (by first | rfl | decide +kernel)
theorem b_in_yX6_addReplica : Cond.instanceMethod yX6_addReplica ∈ BW := bw_at 281 (by decide +kernel) (by first | rfl | decide +kernel)
theorem b_se_yX6_addReplica : Cond.selects RX6 yX6_addReplica yX6_addReplica ∈ BW := bw_at 282 (by decide +kernel) (by first | rfl | decide +kernel)
theorem b_co_yX6_addReplica : Cond.code yX6_addReplica cX6_addReplica 3 (some .int) ∈ BW := bw_at 283 (by decide +kernel) (by first | rfl | decide +kernel)
theorem b_ml_X6_37 : Cond.methodLink RX6 37 yX0_prepare ∈ BW := bw_at 284 (by decide +kernel) (by first | rfl | decide +kernel)
theorem b_in_yX0_prepare : Cond.instanceMethod yX0_prepare ∈ BW := bw_at 285 (by decide +kernel) (by first | rfl | decide +kernel)
theorem b_se_yX0_prepare : Cond.selects RX0 yX0_prepare yX0_prepare ∈ BW := bw_at 286 (by decide +kernel) (by first | rfl | decide +kernel)
theorem b_co_yX0_prepare : Cond.code yX0_prepare cX0_prepare 3 none ∈ BW := bw_at 287 (by decide +kernel) (by first | rfl | decide +kernel)
theorem b_ml_X0_25 : Cond.methodLink RX0 25 yX0_stateAfterOldest ∈ BW := bw_at 288 (by decide +kernel) (by first | rfl | decide +kernel)
theorem b_in_yX0_stateAfterOldest : Cond.instanceMethod yX0_stateAfterOldest ∈ BW := bw_at 290 (by decide +kernel) (by first | rfl | decide +kernel)
theorem b_co_yX0_stateAfterOldest : Cond.code yX0_stateAfterOldest cX0_stateAfterOldest 2 (some (.object "ReplicaSessions$State")) ∈ BW := bw_at 291 (by decide +kernel) (by first | rfl | decide +kernel)
theorem b_ml_X0_37 : Cond.methodLink RX0 37 yJ9_floorMod_7cf53 ∈ BW := bw_at 292 (by decide +kernel) (by first | rfl | decide +kernel)
theorem b_st_yJ9_floorMod_7cf53 : Cond.static yJ9_floorMod_7cf53 ∈ BW := bw_at 293 (by decide +kernel) (by first | rfl | decide +kernel)
theorem b_co_yJ9_floorMod_7cf53 : Cond.code yJ9_floorMod_7cf53 cJ9_floorMod_7cf53 3 (some .int) ∈ BW := bw_at 294 (by decide +kernel) (by first | rfl | decide +kernel)
theorem b_ml_X0_29 : Cond.methodLink RX0 29 yX4_copyFrom ∈ BW := bw_at 295 (by decide +kernel) (by first | rfl | decide +kernel)
theorem b_in_yX4_copyFrom : Cond.instanceMethod yX4_copyFrom ∈ BW := bw_at 296 (by decide +kernel) (by first | rfl | decide +kernel)
theorem b_se_yX4_copyFrom : Cond.selects RX4 yX4_copyFrom yX4_copyFrom ∈ BW := bw_at 297 (by decide +kernel) (by first | rfl | decide +kernel)
theorem b_co_yX4_copyFrom : Cond.code yX4_copyFrom cX4_copyFrom 5 none ∈ BW := bw_at 298 (by decide +kernel) (by first | rfl | decide +kernel)
theorem b_ml_X4_119 : Cond.methodLink RX4 119 yX1_copyFrom ∈ BW := bw_at 299 (by decide +kernel) (by first | rfl | decide +kernel)
theorem b_in_yX1_copyFrom : Cond.instanceMethod yX1_copyFrom ∈ BW := bw_at 300 (by decide +kernel) (by first | rfl | decide +kernel)
theorem b_se_yX1_copyFrom : Cond.selects RX1 yX1_copyFrom yX1_copyFrom ∈ BW := bw_at 301 (by decide +kernel) (by first | rfl | decide +kernel)
theorem b_co_yX1_copyFrom : Cond.code yX1_copyFrom cX1_copyFrom 2 none ∈ BW := bw_at 302 (by decide +kernel) (by first | rfl | decide +kernel)
theorem b_ml_X1_39 : Cond.methodLink RX1 39 arraycopyName ∈ BW := bw_at 303 (by decide +kernel) (by first | rfl | decide +kernel)
theorem b_st_arraycopyName : Cond.static arraycopyName ∈ BW := bw_at 304 (by decide +kernel) (by first | rfl | decide +kernel)
theorem b_na_arraycopyName : Cond.native arraycopyName ∈ BW := bw_at 305 (by decide +kernel) (by first | rfl | decide +kernel)
theorem b_ml_X4_123 : Cond.methodLink RX4 123 yX2_copyFrom ∈ BW := bw_at 306 (by decide +kernel) (by first | rfl | decide +kernel)
theorem b_in_yX2_copyFrom : Cond.instanceMethod yX2_copyFrom ∈ BW := bw_at 307 (by decide +kernel) (by first | rfl | decide +kernel)
theorem b_se_yX2_copyFrom : Cond.selects RX2 yX2_copyFrom yX2_copyFrom ∈ BW := bw_at 308 (by decide +kernel) (by first | rfl | decide +kernel)
theorem b_co_yX2_copyFrom : Cond.code yX2_copyFrom cX2_copyFrom 2 none ∈ BW := bw_at 309 (by decide +kernel) (by first | rfl | decide +kernel)
theorem b_ml_X4_126 : Cond.methodLink RX4 126 yX3_copyFrom ∈ BW := bw_at 310 (by decide +kernel) (by first | rfl | decide +kernel)
theorem b_in_yX3_copyFrom : Cond.instanceMethod yX3_copyFrom ∈ BW := bw_at 311 (by decide +kernel) (by first | rfl | decide +kernel)
theorem b_se_yX3_copyFrom : Cond.selects RX3 yX3_copyFrom yX3_copyFrom ∈ BW := bw_at 312 (by decide +kernel) (by first | rfl | decide +kernel)
theorem b_co_yX3_copyFrom : Cond.code yX3_copyFrom cX3_copyFrom 2 none ∈ BW := bw_at 313 (by decide +kernel) (by first | rfl | decide +kernel)
theorem b_ml_X3_66 : Cond.methodLink RX3 66 arraycopyName ∈ BW := bw_at 314 (by decide +kernel) (by first | rfl | decide +kernel)
theorem b_ml_X6_41 : Cond.methodLink RX6 41 yX6_startReplica ∈ BW := bw_at 315 (by decide +kernel) (by first | rfl | decide +kernel)
theorem b_in_yX6_startReplica : Cond.instanceMethod yX6_startReplica ∈ BW := bw_at 317 (by decide +kernel) (by first | rfl | decide +kernel)
theorem b_co_yX6_startReplica : Cond.code yX6_startReplica cX6_startReplica 4 (some .int) ∈ BW := bw_at 318 (by decide +kernel) (by first | rfl | decide +kernel)
theorem b_ml_X6_107 : Cond.methodLink RX6 107 yX4_positionOf ∈ BW := bw_at 319 (by decide +kernel) (by first | rfl | decide +kernel)
theorem b_in_yX4_positionOf : Cond.instanceMethod yX4_positionOf ∈ BW := bw_at 320 (by decide +kernel) (by first | rfl | decide +kernel)
theorem b_se_yX4_positionOf : Cond.selects RX4 yX4_positionOf yX4_positionOf ∈ BW := bw_at 321 (by decide +kernel) (by first | rfl | decide +kernel)
theorem b_co_yX4_positionOf : Cond.code yX4_positionOf cX4_positionOf 3 (some .int) ∈ BW := bw_at 322 (by decide +kernel) (by first | rfl | decide +kernel)
theorem b_ml_X4_63 : Cond.methodLink RX4 63 yX4_findReplica ∈ BW := bw_at 323 (by decide +kernel) (by first | rfl | decide +kernel)
theorem b_in_yX4_findReplica : Cond.instanceMethod yX4_findReplica ∈ BW := bw_at 324 (by decide +kernel) (by first | rfl | decide +kernel)
theorem b_se_yX4_findReplica : Cond.selects RX4 yX4_findReplica yX4_findReplica ∈ BW := bw_at 325 (by decide +kernel) (by first | rfl | decide +kernel)
theorem b_co_yX4_findReplica : Cond.code yX4_findReplica cX4_findReplica 3 (some (.object "ReplicaSessions$Replica")) ∈ BW := bw_at 326 (by decide +kernel) (by first | rfl | decide +kernel)
theorem nest_X4_45 : Cond.methodLinkNest RX4 45 yX6_isWithin RX6 ∈ lw_tbl := List.mem_of_getElem? (i := 327) (by decide +kernel)
theorem b_st_yX6_isWithin : Cond.static yX6_isWithin ∈ BW := bw_at 328 (by decide +kernel) (by first | rfl | decide +kernel)
theorem b_co_yX6_isWithin : Cond.code yX6_isWithin cX6_isWithin 3 (some .boolean) ∈ BW := bw_at 329 (by decide +kernel) (by first | rfl | decide +kernel)
theorem b_ml_X6_189 : Cond.methodLink RX6 189 yX6_isWithin ∈ BW := bw_at 330 (by decide +kernel) (by first | rfl | decide +kernel)
theorem b_ml_X6_246 : Cond.methodLink RX6 246 yX4_takeFreeReplica ∈ BW := bw_at 331 (by decide +kernel) (by first | rfl | decide +kernel)
theorem b_in_yX4_takeFreeReplica : Cond.instanceMethod yX4_takeFreeReplica ∈ BW := bw_at 332 (by decide +kernel) (by first | rfl | decide +kernel)
theorem b_se_yX4_takeFreeReplica : Cond.selects RX4 yX4_takeFreeReplica yX4_takeFreeReplica ∈ BW := bw_at 333 (by decide +kernel) (by first | rfl | decide +kernel)
theorem b_co_yX4_takeFreeReplica : Cond.code yX4_takeFreeReplica cX4_takeFreeReplica 5 (some .int) ∈ BW := bw_at 334 (by decide +kernel) (by first | rfl | decide +kernel)
theorem b_ml_X4_56 : Cond.methodLink RX4 56 yX2_begin ∈ BW := bw_at 335 (by decide +kernel) (by first | rfl | decide +kernel)
theorem b_in_yX2_begin : Cond.instanceMethod yX2_begin ∈ BW := bw_at 336 (by decide +kernel) (by first | rfl | decide +kernel)
theorem b_se_yX2_begin : Cond.selects RX2 yX2_begin yX2_begin ∈ BW := bw_at 337 (by decide +kernel) (by first | rfl | decide +kernel)
theorem b_co_yX2_begin : Cond.code yX2_begin cX2_begin 3 none ∈ BW := bw_at 338 (by decide +kernel) (by first | rfl | decide +kernel)
theorem b_ml_X6_45 : Cond.methodLink RX6 45 yX0_keepUnlessError ∈ BW := bw_at 339 (by decide +kernel) (by first | rfl | decide +kernel)
theorem b_in_yX0_keepUnlessError : Cond.instanceMethod yX0_keepUnlessError ∈ BW := bw_at 340 (by decide +kernel) (by first | rfl | decide +kernel)
theorem b_se_yX0_keepUnlessError : Cond.selects RX0 yX0_keepUnlessError yX0_keepUnlessError ∈ BW := bw_at 341 (by decide +kernel) (by first | rfl | decide +kernel)
theorem b_co_yX0_keepUnlessError : Cond.code yX0_keepUnlessError cX0_keepUnlessError 2 (some .int) ∈ BW := bw_at 342 (by decide +kernel) (by first | rfl | decide +kernel)
theorem nest_X0_33 : Cond.methodLinkNest RX0 33 yX6_isError RX6 ∈ lw_tbl := List.mem_of_getElem? (i := 343) (by decide +kernel)
theorem b_st_yX6_isError : Cond.static yX6_isError ∈ BW := bw_at 344 (by decide +kernel) (by first | rfl | decide +kernel)
theorem b_co_yX6_isError : Cond.code yX6_isError cX6_isError 1 (some .boolean) ∈ BW := bw_at 345 (by decide +kernel) (by first | rfl | decide +kernel)
theorem b_ml_L_18 : Cond.methodLink RL 18 yX6_drop ∈ BW := bw_at 346 (by decide +kernel) (by first | rfl | decide +kernel)
theorem b_in_yX6_drop : Cond.instanceMethod yX6_drop ∈ BW := bw_at 347 (by decide +kernel) (by first | rfl | decide +kernel)
theorem b_se_yX6_drop : Cond.selects RX6 yX6_drop yX6_drop ∈ BW := bw_at 348 (by decide +kernel) (by first | rfl | decide +kernel)
theorem b_co_yX6_drop : Cond.code yX6_drop cX6_drop 2 (some .int) ∈ BW := bw_at 349 (by decide +kernel) (by first | rfl | decide +kernel)
theorem b_ml_X6_49 : Cond.methodLink RX6 49 yX6_removeReplica ∈ BW := bw_at 350 (by decide +kernel) (by first | rfl | decide +kernel)
theorem b_in_yX6_removeReplica : Cond.instanceMethod yX6_removeReplica ∈ BW := bw_at 352 (by decide +kernel) (by first | rfl | decide +kernel)
theorem b_co_yX6_removeReplica : Cond.code yX6_removeReplica cX6_removeReplica 3 (some .int) ∈ BW := bw_at 353 (by decide +kernel) (by first | rfl | decide +kernel)
theorem b_ml_X6_69 : Cond.methodLink RX6 69 yX4_findReplica ∈ BW := bw_at 354 (by decide +kernel) (by first | rfl | decide +kernel)
theorem b_ml_X6_252 : Cond.methodLink RX6 252 yX4_sendSessionsToPrimary ∈ BW := bw_at 355 (by decide +kernel) (by first | rfl | decide +kernel)
theorem b_in_yX4_sendSessionsToPrimary : Cond.instanceMethod yX4_sendSessionsToPrimary ∈ BW := bw_at 356 (by decide +kernel) (by first | rfl | decide +kernel)
theorem b_se_yX4_sendSessionsToPrimary : Cond.selects RX4 yX4_sendSessionsToPrimary yX4_sendSessionsToPrimary ∈ BW := bw_at 357 (by decide +kernel) (by first | rfl | decide +kernel)
theorem b_co_yX4_sendSessionsToPrimary : Cond.code yX4_sendSessionsToPrimary cX4_sendSessionsToPrimary 5 (some .int) ∈ BW := bw_at 358 (by decide +kernel) (by first | rfl | decide +kernel)
theorem b_ml_X4_67 : Cond.methodLink RX4 67 yX4_findSession ∈ BW := bw_at 359 (by decide +kernel) (by first | rfl | decide +kernel)
theorem b_in_yX4_findSession : Cond.instanceMethod yX4_findSession ∈ BW := bw_at 360 (by decide +kernel) (by first | rfl | decide +kernel)
theorem b_se_yX4_findSession : Cond.selects RX4 yX4_findSession yX4_findSession ∈ BW := bw_at 361 (by decide +kernel) (by first | rfl | decide +kernel)
theorem b_co_yX4_findSession : Cond.code yX4_findSession cX4_findSession 3 (some (.object "ReplicaSessions$Session")) ∈ BW := bw_at 362 (by decide +kernel) (by first | rfl | decide +kernel)
theorem b_ml_L_23 : Cond.methodLink RL 23 yX6_setRate ∈ BW := bw_at 363 (by decide +kernel) (by first | rfl | decide +kernel)
theorem b_in_yX6_setRate : Cond.instanceMethod yX6_setRate ∈ BW := bw_at 364 (by decide +kernel) (by first | rfl | decide +kernel)
theorem b_se_yX6_setRate : Cond.selects RX6 yX6_setRate yX6_setRate ∈ BW := bw_at 365 (by decide +kernel) (by first | rfl | decide +kernel)
theorem b_co_yX6_setRate : Cond.code yX6_setRate cX6_setRate 3 (some .int) ∈ BW := bw_at 366 (by decide +kernel) (by first | rfl | decide +kernel)
theorem b_ml_X6_52 : Cond.methodLink RX6 52 yX6_changeRate ∈ BW := bw_at 367 (by decide +kernel) (by first | rfl | decide +kernel)
theorem b_in_yX6_changeRate : Cond.instanceMethod yX6_changeRate ∈ BW := bw_at 369 (by decide +kernel) (by first | rfl | decide +kernel)
theorem b_co_yX6_changeRate : Cond.code yX6_changeRate cX6_changeRate 5 (some .int) ∈ BW := bw_at 370 (by decide +kernel) (by first | rfl | decide +kernel)
theorem b_ml_L_27 : Cond.methodLink RL 27 yX6_stop ∈ BW := bw_at 371 (by decide +kernel) (by first | rfl | decide +kernel)
theorem b_in_yX6_stop : Cond.instanceMethod yX6_stop ∈ BW := bw_at 372 (by decide +kernel) (by first | rfl | decide +kernel)
theorem b_se_yX6_stop : Cond.selects RX6 yX6_stop yX6_stop ∈ BW := bw_at 373 (by decide +kernel) (by first | rfl | decide +kernel)
theorem b_co_yX6_stop : Cond.code yX6_stop cX6_stop 3 (some .int) ∈ BW := bw_at 374 (by decide +kernel) (by first | rfl | decide +kernel)
theorem b_ml_X6_55 : Cond.methodLink RX6 55 yX6_changeStopped ∈ BW := bw_at 375 (by decide +kernel) (by first | rfl | decide +kernel)
theorem b_in_yX6_changeStopped : Cond.instanceMethod yX6_changeStopped ∈ BW := bw_at 377 (by decide +kernel) (by first | rfl | decide +kernel)
theorem b_co_yX6_changeStopped : Cond.code yX6_changeStopped cX6_changeStopped 5 (some .int) ∈ BW := bw_at 378 (by decide +kernel) (by first | rfl | decide +kernel)
theorem b_ml_L_32 : Cond.methodLink RL 32 yX6_jumpBack ∈ BW := bw_at 379 (by decide +kernel) (by first | rfl | decide +kernel)
theorem b_in_yX6_jumpBack : Cond.instanceMethod yX6_jumpBack ∈ BW := bw_at 380 (by decide +kernel) (by first | rfl | decide +kernel)
theorem b_se_yX6_jumpBack : Cond.selects RX6 yX6_jumpBack yX6_jumpBack ∈ BW := bw_at 381 (by decide +kernel) (by first | rfl | decide +kernel)
theorem b_co_yX6_jumpBack : Cond.code yX6_jumpBack cX6_jumpBack 3 (some .int) ∈ BW := bw_at 382 (by decide +kernel) (by first | rfl | decide +kernel)
theorem b_ml_X6_59 : Cond.methodLink RX6 59 yX6_setBack ∈ BW := bw_at 383 (by decide +kernel) (by first | rfl | decide +kernel)
theorem b_in_yX6_setBack : Cond.instanceMethod yX6_setBack ∈ BW := bw_at 385 (by decide +kernel) (by first | rfl | decide +kernel)
theorem b_co_yX6_setBack : Cond.code yX6_setBack cX6_setBack 5 (some .int) ∈ BW := bw_at 386 (by decide +kernel) (by first | rfl | decide +kernel)
theorem b_ml_L_36 : Cond.methodLink RL 36 yX6_tick ∈ BW := bw_at 387 (by decide +kernel) (by first | rfl | decide +kernel)
theorem b_in_yX6_tick : Cond.instanceMethod yX6_tick ∈ BW := bw_at 388 (by decide +kernel) (by first | rfl | decide +kernel)
theorem b_se_yX6_tick : Cond.selects RX6 yX6_tick yX6_tick ∈ BW := bw_at 389 (by decide +kernel) (by first | rfl | decide +kernel)
theorem b_co_yX6_tick : Cond.code yX6_tick cX6_tick 2 (some .int) ∈ BW := bw_at 390 (by decide +kernel) (by first | rfl | decide +kernel)
theorem b_ml_X6_62 : Cond.methodLink RX6 62 yX6_letTicksPass ∈ BW := bw_at 391 (by decide +kernel) (by first | rfl | decide +kernel)
theorem b_in_yX6_letTicksPass : Cond.instanceMethod yX6_letTicksPass ∈ BW := bw_at 393 (by decide +kernel) (by first | rfl | decide +kernel)
theorem b_co_yX6_letTicksPass : Cond.code yX6_letTicksPass cX6_letTicksPass 2 (some .int) ∈ BW := bw_at 394 (by decide +kernel) (by first | rfl | decide +kernel)
theorem b_ml_X6_258 : Cond.methodLink RX6 258 yX4_passTicks ∈ BW := bw_at 395 (by decide +kernel) (by first | rfl | decide +kernel)
theorem b_in_yX4_passTicks : Cond.instanceMethod yX4_passTicks ∈ BW := bw_at 396 (by decide +kernel) (by first | rfl | decide +kernel)
theorem b_se_yX4_passTicks : Cond.selects RX4 yX4_passTicks yX4_passTicks ∈ BW := bw_at 397 (by decide +kernel) (by first | rfl | decide +kernel)
theorem b_co_yX4_passTicks : Cond.code yX4_passTicks cX4_passTicks 4 none ∈ BW := bw_at 398 (by decide +kernel) (by first | rfl | decide +kernel)
theorem b_ml_X4_80 : Cond.methodLink RX4 80 yX2_passTicks ∈ BW := bw_at 399 (by decide +kernel) (by first | rfl | decide +kernel)
theorem b_in_yX2_passTicks : Cond.instanceMethod yX2_passTicks ∈ BW := bw_at 400 (by decide +kernel) (by first | rfl | decide +kernel)
theorem b_se_yX2_passTicks : Cond.selects RX2 yX2_passTicks yX2_passTicks ∈ BW := bw_at 401 (by decide +kernel) (by first | rfl | decide +kernel)
theorem b_co_yX2_passTicks : Cond.code yX2_passTicks cX2_passTicks 3 none ∈ BW := bw_at 402 (by decide +kernel) (by first | rfl | decide +kernel)
theorem b_ml_X2_28 : Cond.methodLink RX2 28 Lib.Math.min.name ∈ BW := bw_at 403 (by decide +kernel) (by first | rfl | decide +kernel)
theorem b_st_Jmin : Cond.static Lib.Math.min.name ∈ BW := bw_at 404 (by decide +kernel) (by first | rfl | decide +kernel)
theorem b_co_Jmin : Cond.code Lib.Math.min.name Lib.Math.min.code 2 (some .int) ∈ BW := bw_at 405 (by decide +kernel) (by first | rfl | decide +kernel)
theorem b_ml_X6_262 : Cond.methodLink RX6 262 yX4_countCaughtUp ∈ BW := bw_at 406 (by decide +kernel) (by first | rfl | decide +kernel)
theorem b_in_yX4_countCaughtUp : Cond.instanceMethod yX4_countCaughtUp ∈ BW := bw_at 407 (by decide +kernel) (by first | rfl | decide +kernel)
theorem b_se_yX4_countCaughtUp : Cond.selects RX4 yX4_countCaughtUp yX4_countCaughtUp ∈ BW := bw_at 408 (by decide +kernel) (by first | rfl | decide +kernel)
theorem b_co_yX4_countCaughtUp : Cond.code yX4_countCaughtUp cX4_countCaughtUp 4 (some .int) ∈ BW := bw_at 409 (by decide +kernel) (by first | rfl | decide +kernel)
theorem b_ml_L_40 : Cond.methodLink RL 40 yX6_replicas ∈ BW := bw_at 410 (by decide +kernel) (by first | rfl | decide +kernel)
theorem b_in_yX6_replicas : Cond.instanceMethod yX6_replicas ∈ BW := bw_at 411 (by decide +kernel) (by first | rfl | decide +kernel)
theorem b_se_yX6_replicas : Cond.selects RX6 yX6_replicas yX6_replicas ∈ BW := bw_at 412 (by decide +kernel) (by first | rfl | decide +kernel)
theorem b_co_yX6_replicas : Cond.code yX6_replicas cX6_replicas 1 (some .int) ∈ BW := bw_at 413 (by decide +kernel) (by first | rfl | decide +kernel)
theorem b_ml_X6_65 : Cond.methodLink RX6 65 yX4_replicaMask ∈ BW := bw_at 414 (by decide +kernel) (by first | rfl | decide +kernel)
theorem b_in_yX4_replicaMask : Cond.instanceMethod yX4_replicaMask ∈ BW := bw_at 415 (by decide +kernel) (by first | rfl | decide +kernel)
theorem b_se_yX4_replicaMask : Cond.selects RX4 yX4_replicaMask yX4_replicaMask ∈ BW := bw_at 416 (by decide +kernel) (by first | rfl | decide +kernel)
theorem b_co_yX4_replicaMask : Cond.code yX4_replicaMask cX4_replicaMask 3 (some .int) ∈ BW := bw_at 417 (by decide +kernel) (by first | rfl | decide +kernel)
theorem b_ml_L_45 : Cond.methodLink RL 45 yX6_replica ∈ BW := bw_at 418 (by decide +kernel) (by first | rfl | decide +kernel)
theorem b_in_yX6_replica : Cond.instanceMethod yX6_replica ∈ BW := bw_at 419 (by decide +kernel) (by first | rfl | decide +kernel)
theorem b_se_yX6_replica : Cond.selects RX6 yX6_replica yX6_replica ∈ BW := bw_at 420 (by decide +kernel) (by first | rfl | decide +kernel)
theorem b_co_yX6_replica : Cond.code yX6_replica cX6_replica 4 (some .int) ∈ BW := bw_at 421 (by decide +kernel) (by first | rfl | decide +kernel)
theorem b_ml_X6_82 : Cond.methodLink RX6 82 yX4_countSessionsAt ∈ BW := bw_at 422 (by decide +kernel) (by first | rfl | decide +kernel)
theorem b_in_yX4_countSessionsAt : Cond.instanceMethod yX4_countSessionsAt ∈ BW := bw_at 423 (by decide +kernel) (by first | rfl | decide +kernel)
theorem b_se_yX4_countSessionsAt : Cond.selects RX4 yX4_countSessionsAt yX4_countSessionsAt ∈ BW := bw_at 424 (by decide +kernel) (by first | rfl | decide +kernel)
theorem b_co_yX4_countSessionsAt : Cond.code yX4_countSessionsAt cX4_countSessionsAt 5 (some .int) ∈ BW := bw_at 425 (by decide +kernel) (by first | rfl | decide +kernel)
theorem b_ml_L_49 : Cond.methodLink RL 49 yX6_length ∈ BW := bw_at 426 (by decide +kernel) (by first | rfl | decide +kernel)
theorem b_in_yX6_length : Cond.instanceMethod yX6_length ∈ BW := bw_at 427 (by decide +kernel) (by first | rfl | decide +kernel)
theorem b_se_yX6_length : Cond.selects RX6 yX6_length yX6_length ∈ BW := bw_at 428 (by decide +kernel) (by first | rfl | decide +kernel)
theorem b_co_yX6_length : Cond.code yX6_length cX6_length 1 (some .int) ∈ BW := bw_at 429 (by decide +kernel) (by first | rfl | decide +kernel)
theorem b_ml_L_53 : Cond.methodLink RL 53 yX6_logged ∈ BW := bw_at 430 (by decide +kernel) (by first | rfl | decide +kernel)
theorem b_in_yX6_logged : Cond.instanceMethod yX6_logged ∈ BW := bw_at 431 (by decide +kernel) (by first | rfl | decide +kernel)
theorem b_se_yX6_logged : Cond.selects RX6 yX6_logged yX6_logged ∈ BW := bw_at 432 (by decide +kernel) (by first | rfl | decide +kernel)
theorem b_co_yX6_logged : Cond.code yX6_logged cX6_logged 3 (some .int) ∈ BW := bw_at 433 (by decide +kernel) (by first | rfl | decide +kernel)
theorem b_ml_X6_94 : Cond.methodLink RX6 94 yX1_contains ∈ BW := bw_at 434 (by decide +kernel) (by first | rfl | decide +kernel)
theorem b_in_yX1_contains : Cond.instanceMethod yX1_contains ∈ BW := bw_at 435 (by decide +kernel) (by first | rfl | decide +kernel)
theorem b_se_yX1_contains : Cond.selects RX1 yX1_contains yX1_contains ∈ BW := bw_at 436 (by decide +kernel) (by first | rfl | decide +kernel)
theorem b_co_yX1_contains : Cond.code yX1_contains cX1_contains 2 (some .boolean) ∈ BW := bw_at 437 (by decide +kernel) (by first | rfl | decide +kernel)
theorem b_ml_X6_98 : Cond.methodLink RX6 98 yX1_keyOf ∈ BW := bw_at 438 (by decide +kernel) (by first | rfl | decide +kernel)
theorem b_in_yX1_keyOf : Cond.instanceMethod yX1_keyOf ∈ BW := bw_at 439 (by decide +kernel) (by first | rfl | decide +kernel)
theorem b_se_yX1_keyOf : Cond.selects RX1 yX1_keyOf yX1_keyOf ∈ BW := bw_at 440 (by decide +kernel) (by first | rfl | decide +kernel)
theorem b_co_yX1_keyOf : Cond.code yX1_keyOf cX1_keyOf 2 (some .int) ∈ BW := bw_at 441 (by decide +kernel) (by first | rfl | decide +kernel)
theorem b_ml_X1_25 : Cond.methodLink RX1 25 yX1_contains ∈ BW := bw_at 442 (by decide +kernel) (by first | rfl | decide +kernel)
theorem b_ml_X6_101 : Cond.methodLink RX6 101 yX1_valueOf ∈ BW := bw_at 443 (by decide +kernel) (by first | rfl | decide +kernel)
theorem b_in_yX1_valueOf : Cond.instanceMethod yX1_valueOf ∈ BW := bw_at 444 (by decide +kernel) (by first | rfl | decide +kernel)
theorem b_se_yX1_valueOf : Cond.selects RX1 yX1_valueOf yX1_valueOf ∈ BW := bw_at 445 (by decide +kernel) (by first | rfl | decide +kernel)
theorem b_co_yX1_valueOf : Cond.code yX1_valueOf cX1_valueOf 2 (some .int) ∈ BW := bw_at 446 (by decide +kernel) (by first | rfl | decide +kernel)
theorem b_ml_X6_104 : Cond.methodLink RX6 104 yX1_writerOf ∈ BW := bw_at 447 (by decide +kernel) (by first | rfl | decide +kernel)
theorem b_in_yX1_writerOf : Cond.instanceMethod yX1_writerOf ∈ BW := bw_at 448 (by decide +kernel) (by first | rfl | decide +kernel)
theorem b_se_yX1_writerOf : Cond.selects RX1 yX1_writerOf yX1_writerOf ∈ BW := bw_at 449 (by decide +kernel) (by first | rfl | decide +kernel)
theorem b_co_yX1_writerOf : Cond.code yX1_writerOf cX1_writerOf 2 (some .int) ∈ BW := bw_at 450 (by decide +kernel) (by first | rfl | decide +kernel)
theorem b_ml_L_57 : Cond.methodLink RL 57 yX6_position ∈ BW := bw_at 451 (by decide +kernel) (by first | rfl | decide +kernel)
theorem b_in_yX6_position : Cond.instanceMethod yX6_position ∈ BW := bw_at 452 (by decide +kernel) (by first | rfl | decide +kernel)
theorem b_se_yX6_position : Cond.selects RX6 yX6_position yX6_position ∈ BW := bw_at 453 (by decide +kernel) (by first | rfl | decide +kernel)
theorem b_co_yX6_position : Cond.code yX6_position cX6_position 2 (some .int) ∈ BW := bw_at 454 (by decide +kernel) (by first | rfl | decide +kernel)
theorem b_ml_L_61 : Cond.methodLink RL 61 yX6_version ∈ BW := bw_at 455 (by decide +kernel) (by first | rfl | decide +kernel)
theorem b_in_yX6_version : Cond.instanceMethod yX6_version ∈ BW := bw_at 456 (by decide +kernel) (by first | rfl | decide +kernel)
theorem b_se_yX6_version : Cond.selects RX6 yX6_version yX6_version ∈ BW := bw_at 457 (by decide +kernel) (by first | rfl | decide +kernel)
theorem b_co_yX6_version : Cond.code yX6_version cX6_version 3 (some .int) ∈ BW := bw_at 458 (by decide +kernel) (by first | rfl | decide +kernel)
theorem b_ml_X6_110 : Cond.methodLink RX6 110 yX4_hasPlace ∈ BW := bw_at 459 (by decide +kernel) (by first | rfl | decide +kernel)
theorem b_in_yX4_hasPlace : Cond.instanceMethod yX4_hasPlace ∈ BW := bw_at 460 (by decide +kernel) (by first | rfl | decide +kernel)
theorem b_se_yX4_hasPlace : Cond.selects RX4 yX4_hasPlace yX4_hasPlace ∈ BW := bw_at 461 (by decide +kernel) (by first | rfl | decide +kernel)
theorem b_co_yX4_hasPlace : Cond.code yX4_hasPlace cX4_hasPlace 2 (some .boolean) ∈ BW := bw_at 462 (by decide +kernel) (by first | rfl | decide +kernel)
theorem b_ml_X6_113 : Cond.methodLink RX6 113 yX6_isKey ∈ BW := bw_at 463 (by decide +kernel) (by first | rfl | decide +kernel)
theorem b_st_yX6_isKey : Cond.static yX6_isKey ∈ BW := bw_at 464 (by decide +kernel) (by first | rfl | decide +kernel)
theorem b_co_yX6_isKey : Cond.code yX6_isKey cX6_isKey 1 (some .boolean) ∈ BW := bw_at 465 (by decide +kernel) (by first | rfl | decide +kernel)
theorem b_ml_X6_116 : Cond.methodLink RX6 116 yX1_versionAt ∈ BW := bw_at 466 (by decide +kernel) (by first | rfl | decide +kernel)
theorem b_in_yX1_versionAt : Cond.instanceMethod yX1_versionAt ∈ BW := bw_at 467 (by decide +kernel) (by first | rfl | decide +kernel)
theorem b_se_yX1_versionAt : Cond.selects RX1 yX1_versionAt yX1_versionAt ∈ BW := bw_at 468 (by decide +kernel) (by first | rfl | decide +kernel)
theorem b_co_yX1_versionAt : Cond.code yX1_versionAt cX1_versionAt 4 (some .int) ∈ BW := bw_at 469 (by decide +kernel) (by first | rfl | decide +kernel)
theorem b_ml_X1_29 : Cond.methodLink RX1 29 Lib.Math.min.name ∈ BW := bw_at 470 (by decide +kernel) (by first | rfl | decide +kernel)
theorem b_ml_X1_35 : Cond.methodLink RX1 35 yX1_keyOf ∈ BW := bw_at 471 (by decide +kernel) (by first | rfl | decide +kernel)
theorem b_ml_L_65 : Cond.methodLink RL 65 yX6_value ∈ BW := bw_at 472 (by decide +kernel) (by first | rfl | decide +kernel)
theorem b_in_yX6_value : Cond.instanceMethod yX6_value ∈ BW := bw_at 473 (by decide +kernel) (by first | rfl | decide +kernel)
theorem b_se_yX6_value : Cond.selects RX6 yX6_value yX6_value ∈ BW := bw_at 474 (by decide +kernel) (by first | rfl | decide +kernel)
theorem b_co_yX6_value : Cond.code yX6_value cX6_value 3 (some .int) ∈ BW := bw_at 475 (by decide +kernel) (by first | rfl | decide +kernel)
theorem b_ml_L_69 : Cond.methodLink RL 69 yX6_missing ∈ BW := bw_at 476 (by decide +kernel) (by first | rfl | decide +kernel)
theorem b_in_yX6_missing : Cond.instanceMethod yX6_missing ∈ BW := bw_at 477 (by decide +kernel) (by first | rfl | decide +kernel)
theorem b_se_yX6_missing : Cond.selects RX6 yX6_missing yX6_missing ∈ BW := bw_at 478 (by decide +kernel) (by first | rfl | decide +kernel)
theorem b_co_yX6_missing : Cond.code yX6_missing cX6_missing 3 (some .int) ∈ BW := bw_at 479 (by decide +kernel) (by first | rfl | decide +kernel)
theorem b_ml_X6_119 : Cond.methodLink RX6 119 yX1_countAfter ∈ BW := bw_at 480 (by decide +kernel) (by first | rfl | decide +kernel)
theorem b_in_yX1_countAfter : Cond.instanceMethod yX1_countAfter ∈ BW := bw_at 481 (by decide +kernel) (by first | rfl | decide +kernel)
theorem b_se_yX1_countAfter : Cond.selects RX1 yX1_countAfter yX1_countAfter ∈ BW := bw_at 482 (by decide +kernel) (by first | rfl | decide +kernel)
theorem b_co_yX1_countAfter : Cond.code yX1_countAfter cX1_countAfter 5 (some .int) ∈ BW := bw_at 483 (by decide +kernel) (by first | rfl | decide +kernel)
theorem b_ml_L_73 : Cond.methodLink RL 73 yX6_answers ∈ BW := bw_at 484 (by decide +kernel) (by first | rfl | decide +kernel)
theorem b_in_yX6_answers : Cond.instanceMethod yX6_answers ∈ BW := bw_at 485 (by decide +kernel) (by first | rfl | decide +kernel)
theorem b_se_yX6_answers : Cond.selects RX6 yX6_answers yX6_answers ∈ BW := bw_at 486 (by decide +kernel) (by first | rfl | decide +kernel)
theorem b_co_yX6_answers : Cond.code yX6_answers cX6_answers 3 (some .int) ∈ BW := bw_at 487 (by decide +kernel) (by first | rfl | decide +kernel)
theorem b_ml_L_77 : Cond.methodLink RL 77 yX6_open ∈ BW := bw_at 488 (by decide +kernel) (by first | rfl | decide +kernel)
theorem b_in_yX6_open : Cond.instanceMethod yX6_open ∈ BW := bw_at 489 (by decide +kernel) (by first | rfl | decide +kernel)
theorem b_se_yX6_open : Cond.selects RX6 yX6_open yX6_open ∈ BW := bw_at 490 (by decide +kernel) (by first | rfl | decide +kernel)
theorem b_co_yX6_open : Cond.code yX6_open cX6_open 4 (some .int) ∈ BW := bw_at 491 (by decide +kernel) (by first | rfl | decide +kernel)
theorem b_ml_X6_128 : Cond.methodLink RX6 128 yX6_startSession ∈ BW := bw_at 492 (by decide +kernel) (by first | rfl | decide +kernel)
theorem b_in_yX6_startSession : Cond.instanceMethod yX6_startSession ∈ BW := bw_at 494 (by decide +kernel) (by first | rfl | decide +kernel)
theorem b_co_yX6_startSession : Cond.code yX6_startSession cX6_startSession 4 (some .int) ∈ BW := bw_at 495 (by decide +kernel) (by first | rfl | decide +kernel)
theorem b_ml_X6_265 : Cond.methodLink RX6 265 yX4_takeFreeSession ∈ BW := bw_at 496 (by decide +kernel) (by first | rfl | decide +kernel)
theorem b_in_yX4_takeFreeSession : Cond.instanceMethod yX4_takeFreeSession ∈ BW := bw_at 497 (by decide +kernel) (by first | rfl | decide +kernel)
theorem b_se_yX4_takeFreeSession : Cond.selects RX4 yX4_takeFreeSession yX4_takeFreeSession ∈ BW := bw_at 498 (by decide +kernel) (by first | rfl | decide +kernel)
theorem b_co_yX4_takeFreeSession : Cond.code yX4_takeFreeSession cX4_takeFreeSession 6 (some .int) ∈ BW := bw_at 499 (by decide +kernel) (by first | rfl | decide +kernel)
theorem b_ml_X4_60 : Cond.methodLink RX4 60 yX3_begin ∈ BW := bw_at 500 (by decide +kernel) (by first | rfl | decide +kernel)
theorem b_in_yX3_begin : Cond.instanceMethod yX3_begin ∈ BW := bw_at 501 (by decide +kernel) (by first | rfl | decide +kernel)
theorem b_se_yX3_begin : Cond.selects RX3 yX3_begin yX3_begin ∈ BW := bw_at 502 (by decide +kernel) (by first | rfl | decide +kernel)
theorem b_co_yX3_begin : Cond.code yX3_begin cX3_begin 4 none ∈ BW := bw_at 503 (by decide +kernel) (by first | rfl | decide +kernel)
theorem b_ml_X3_47 : Cond.methodLink RX3 47 yJ7_fill_53178 ∈ BW := bw_at 504 (by decide +kernel) (by first | rfl | decide +kernel)
theorem b_st_yJ7_fill_53178 : Cond.static yJ7_fill_53178 ∈ BW := bw_at 505 (by decide +kernel) (by first | rfl | decide +kernel)
theorem b_co_yJ7_fill_53178 : Cond.code yJ7_fill_53178 cJ7_fill_53178 4 none ∈ BW := bw_at 506 (by decide +kernel) (by first | rfl | decide +kernel)
theorem b_ml_L_82 : Cond.methodLink RL 82 yX6_close ∈ BW := bw_at 507 (by decide +kernel) (by first | rfl | decide +kernel)
theorem b_in_yX6_close : Cond.instanceMethod yX6_close ∈ BW := bw_at 508 (by decide +kernel) (by first | rfl | decide +kernel)
theorem b_se_yX6_close : Cond.selects RX6 yX6_close yX6_close ∈ BW := bw_at 509 (by decide +kernel) (by first | rfl | decide +kernel)
theorem b_co_yX6_close : Cond.code yX6_close cX6_close 2 (some .int) ∈ BW := bw_at 510 (by decide +kernel) (by first | rfl | decide +kernel)
theorem b_ml_X6_132 : Cond.methodLink RX6 132 yX6_endSession ∈ BW := bw_at 511 (by decide +kernel) (by first | rfl | decide +kernel)
theorem b_in_yX6_endSession : Cond.instanceMethod yX6_endSession ∈ BW := bw_at 513 (by decide +kernel) (by first | rfl | decide +kernel)
theorem b_co_yX6_endSession : Cond.code yX6_endSession cX6_endSession 3 (some .int) ∈ BW := bw_at 514 (by decide +kernel) (by first | rfl | decide +kernel)
theorem b_ml_X6_147 : Cond.methodLink RX6 147 yX4_findSession ∈ BW := bw_at 515 (by decide +kernel) (by first | rfl | decide +kernel)
theorem b_ml_L_86 : Cond.methodLink RL 86 yX6_move ∈ BW := bw_at 516 (by decide +kernel) (by first | rfl | decide +kernel)
theorem b_in_yX6_move : Cond.instanceMethod yX6_move ∈ BW := bw_at 517 (by decide +kernel) (by first | rfl | decide +kernel)
theorem b_se_yX6_move : Cond.selects RX6 yX6_move yX6_move ∈ BW := bw_at 518 (by decide +kernel) (by first | rfl | decide +kernel)
theorem b_co_yX6_move : Cond.code yX6_move cX6_move 3 (some .int) ∈ BW := bw_at 519 (by decide +kernel) (by first | rfl | decide +kernel)
theorem b_ml_X6_135 : Cond.methodLink RX6 135 yX6_changeHome ∈ BW := bw_at 520 (by decide +kernel) (by first | rfl | decide +kernel)
theorem b_in_yX6_changeHome : Cond.instanceMethod yX6_changeHome ∈ BW := bw_at 522 (by decide +kernel) (by first | rfl | decide +kernel)
theorem b_co_yX6_changeHome : Cond.code yX6_changeHome cX6_changeHome 5 (some .int) ∈ BW := bw_at 523 (by decide +kernel) (by first | rfl | decide +kernel)
theorem b_ml_L_90 : Cond.methodLink RL 90 yX6_change ∈ BW := bw_at 524 (by decide +kernel) (by first | rfl | decide +kernel)
theorem b_in_yX6_change : Cond.instanceMethod yX6_change ∈ BW := bw_at 525 (by decide +kernel) (by first | rfl | decide +kernel)
theorem b_se_yX6_change : Cond.selects RX6 yX6_change yX6_change ∈ BW := bw_at 526 (by decide +kernel) (by first | rfl | decide +kernel)
theorem b_co_yX6_change : Cond.code yX6_change cX6_change 4 (some .int) ∈ BW := bw_at 527 (by decide +kernel) (by first | rfl | decide +kernel)
theorem b_ml_X6_138 : Cond.methodLink RX6 138 yX6_changeOptions ∈ BW := bw_at 528 (by decide +kernel) (by first | rfl | decide +kernel)
theorem b_in_yX6_changeOptions : Cond.instanceMethod yX6_changeOptions ∈ BW := bw_at 530 (by decide +kernel) (by first | rfl | decide +kernel)
theorem b_co_yX6_changeOptions : Cond.code yX6_changeOptions cX6_changeOptions 6 (some .int) ∈ BW := bw_at 531 (by decide +kernel) (by first | rfl | decide +kernel)
theorem b_ml_L_94 : Cond.methodLink RL 94 yX6_hand ∈ BW := bw_at 532 (by decide +kernel) (by first | rfl | decide +kernel)
theorem b_in_yX6_hand : Cond.instanceMethod yX6_hand ∈ BW := bw_at 533 (by decide +kernel) (by first | rfl | decide +kernel)
theorem b_se_yX6_hand : Cond.selects RX6 yX6_hand yX6_hand ∈ BW := bw_at 534 (by decide +kernel) (by first | rfl | decide +kernel)
theorem b_co_yX6_hand : Cond.code yX6_hand cX6_hand 3 (some .int) ∈ BW := bw_at 535 (by decide +kernel) (by first | rfl | decide +kernel)
theorem b_ml_X6_141 : Cond.methodLink RX6 141 yX6_handMarks ∈ BW := bw_at 536 (by decide +kernel) (by first | rfl | decide +kernel)
theorem b_in_yX6_handMarks : Cond.instanceMethod yX6_handMarks ∈ BW := bw_at 538 (by decide +kernel) (by first | rfl | decide +kernel)
theorem b_co_yX6_handMarks : Cond.code yX6_handMarks cX6_handMarks 5 (some .int) ∈ BW := bw_at 539 (by decide +kernel) (by first | rfl | decide +kernel)
theorem b_ml_X6_209 : Cond.methodLink RX6 209 Lib.Math.max.name ∈ BW := bw_at 540 (by decide +kernel) (by first | rfl | decide +kernel)
theorem b_st_Jmax : Cond.static Lib.Math.max.name ∈ BW := bw_at 541 (by decide +kernel) (by first | rfl | decide +kernel)
theorem b_co_Jmax : Cond.code Lib.Math.max.name Lib.Math.max.code 2 (some .int) ∈ BW := bw_at 542 (by decide +kernel) (by first | rfl | decide +kernel)
theorem b_ml_L_98 : Cond.methodLink RL 98 yX6_sessions ∈ BW := bw_at 543 (by decide +kernel) (by first | rfl | decide +kernel)
theorem b_in_yX6_sessions : Cond.instanceMethod yX6_sessions ∈ BW := bw_at 544 (by decide +kernel) (by first | rfl | decide +kernel)
theorem b_se_yX6_sessions : Cond.selects RX6 yX6_sessions yX6_sessions ∈ BW := bw_at 545 (by decide +kernel) (by first | rfl | decide +kernel)
theorem b_co_yX6_sessions : Cond.code yX6_sessions cX6_sessions 1 (some .int) ∈ BW := bw_at 546 (by decide +kernel) (by first | rfl | decide +kernel)
theorem b_ml_X6_144 : Cond.methodLink RX6 144 yX4_sessionMask ∈ BW := bw_at 547 (by decide +kernel) (by first | rfl | decide +kernel)
theorem b_in_yX4_sessionMask : Cond.instanceMethod yX4_sessionMask ∈ BW := bw_at 548 (by decide +kernel) (by first | rfl | decide +kernel)
theorem b_se_yX4_sessionMask : Cond.selects RX4 yX4_sessionMask yX4_sessionMask ∈ BW := bw_at 549 (by decide +kernel) (by first | rfl | decide +kernel)
theorem b_co_yX4_sessionMask : Cond.code yX4_sessionMask cX4_sessionMask 3 (some .int) ∈ BW := bw_at 550 (by decide +kernel) (by first | rfl | decide +kernel)
theorem b_ml_L_102 : Cond.methodLink RL 102 yX6_session ∈ BW := bw_at 551 (by decide +kernel) (by first | rfl | decide +kernel)
theorem b_in_yX6_session : Cond.instanceMethod yX6_session ∈ BW := bw_at 552 (by decide +kernel) (by first | rfl | decide +kernel)
theorem b_se_yX6_session : Cond.selects RX6 yX6_session yX6_session ∈ BW := bw_at 553 (by decide +kernel) (by first | rfl | decide +kernel)
theorem b_co_yX6_session : Cond.code yX6_session cX6_session 4 (some .int) ∈ BW := bw_at 554 (by decide +kernel) (by first | rfl | decide +kernel)
theorem b_ml_X6_168 : Cond.methodLink RX6 168 yX3_need ∈ BW := bw_at 555 (by decide +kernel) (by first | rfl | decide +kernel)
theorem b_in_yX3_need : Cond.instanceMethod yX3_need ∈ BW := bw_at 556 (by decide +kernel) (by first | rfl | decide +kernel)
theorem b_se_yX3_need : Cond.selects RX3 yX3_need yX3_need ∈ BW := bw_at 557 (by decide +kernel) (by first | rfl | decide +kernel)
theorem b_co_yX3_need : Cond.code yX3_need cX3_need 1 (some .int) ∈ BW := bw_at 558 (by decide +kernel) (by first | rfl | decide +kernel)
theorem b_ml_X3_53 : Cond.methodLink RX3 53 yX3_has ∈ BW := bw_at 559 (by decide +kernel) (by first | rfl | decide +kernel)
theorem b_in_yX3_has : Cond.instanceMethod yX3_has ∈ BW := bw_at 560 (by decide +kernel) (by first | rfl | decide +kernel)
theorem b_se_yX3_has : Cond.selects RX3 yX3_has yX3_has ∈ BW := bw_at 561 (by decide +kernel) (by first | rfl | decide +kernel)
theorem b_co_yX3_has : Cond.code yX3_has cX3_has 2 (some .boolean) ∈ BW := bw_at 562 (by decide +kernel) (by first | rfl | decide +kernel)
theorem b_ml_X3_57 : Cond.methodLink RX3 57 Lib.Math.max.name ∈ BW := bw_at 563 (by decide +kernel) (by first | rfl | decide +kernel)
theorem b_ml_L_106 : Cond.methodLink RL 106 yX6_write ∈ BW := bw_at 564 (by decide +kernel) (by first | rfl | decide +kernel)
theorem b_in_yX6_write : Cond.instanceMethod yX6_write ∈ BW := bw_at 565 (by decide +kernel) (by first | rfl | decide +kernel)
theorem b_se_yX6_write : Cond.selects RX6 yX6_write yX6_write ∈ BW := bw_at 566 (by decide +kernel) (by first | rfl | decide +kernel)
theorem b_co_yX6_write : Cond.code yX6_write cX6_write 4 (some .int) ∈ BW := bw_at 567 (by decide +kernel) (by first | rfl | decide +kernel)
theorem b_ml_X6_180 : Cond.methodLink RX6 180 yX6_addWrite ∈ BW := bw_at 568 (by decide +kernel) (by first | rfl | decide +kernel)
theorem b_in_yX6_addWrite : Cond.instanceMethod yX6_addWrite ∈ BW := bw_at 570 (by decide +kernel) (by first | rfl | decide +kernel)
theorem b_co_yX6_addWrite : Cond.code yX6_addWrite cX6_addWrite 6 (some .int) ∈ BW := bw_at 571 (by decide +kernel) (by first | rfl | decide +kernel)
theorem b_ml_X6_271 : Cond.methodLink RX6 271 yX1_add ∈ BW := bw_at 572 (by decide +kernel) (by first | rfl | decide +kernel)
theorem b_in_yX1_add : Cond.instanceMethod yX1_add ∈ BW := bw_at 573 (by decide +kernel) (by first | rfl | decide +kernel)
theorem b_se_yX1_add : Cond.selects RX1 yX1_add yX1_add ∈ BW := bw_at 574 (by decide +kernel) (by first | rfl | decide +kernel)
theorem b_co_yX1_add : Cond.code yX1_add cX1_add 4 (some .int) ∈ BW := bw_at 575 (by decide +kernel) (by first | rfl | decide +kernel)
theorem b_ml_X6_273 : Cond.methodLink RX6 273 yX3_noteWrite ∈ BW := bw_at 576 (by decide +kernel) (by first | rfl | decide +kernel)
theorem b_in_yX3_noteWrite : Cond.instanceMethod yX3_noteWrite ∈ BW := bw_at 577 (by decide +kernel) (by first | rfl | decide +kernel)
theorem b_se_yX3_noteWrite : Cond.selects RX3 yX3_noteWrite yX3_noteWrite ∈ BW := bw_at 578 (by decide +kernel) (by first | rfl | decide +kernel)
theorem b_co_yX3_noteWrite : Cond.code yX3_noteWrite cX3_noteWrite 3 none ∈ BW := bw_at 579 (by decide +kernel) (by first | rfl | decide +kernel)
theorem nest_X3_63 : Cond.methodLinkNest RX3 63 yX6_isKey RX6 ∈ lw_tbl := List.mem_of_getElem? (i := 580) (by decide +kernel)
theorem b_ml_L_110 : Cond.methodLink RL 110 yX6_read ∈ BW := bw_at 581 (by decide +kernel) (by first | rfl | decide +kernel)
theorem b_in_yX6_read : Cond.instanceMethod yX6_read ∈ BW := bw_at 582 (by decide +kernel) (by first | rfl | decide +kernel)
theorem b_se_yX6_read : Cond.selects RX6 yX6_read yX6_read ∈ BW := bw_at 583 (by decide +kernel) (by first | rfl | decide +kernel)
theorem b_co_yX6_read : Cond.code yX6_read cX6_read 3 (some .int) ∈ BW := bw_at 584 (by decide +kernel) (by first | rfl | decide +kernel)
theorem b_ml_X6_183 : Cond.methodLink RX6 183 yX6_readAtHome ∈ BW := bw_at 585 (by decide +kernel) (by first | rfl | decide +kernel)
theorem b_in_yX6_readAtHome : Cond.instanceMethod yX6_readAtHome ∈ BW := bw_at 587 (by decide +kernel) (by first | rfl | decide +kernel)
theorem b_co_yX6_readAtHome : Cond.code yX6_readAtHome cX6_readAtHome 5 (some .int) ∈ BW := bw_at 588 (by decide +kernel) (by first | rfl | decide +kernel)
theorem b_ml_X6_202 : Cond.methodLink RX6 202 yX4_waitOf ∈ BW := bw_at 589 (by decide +kernel) (by first | rfl | decide +kernel)
theorem b_in_yX4_waitOf : Cond.instanceMethod yX4_waitOf ∈ BW := bw_at 590 (by decide +kernel) (by first | rfl | decide +kernel)
theorem b_se_yX4_waitOf : Cond.selects RX4 yX4_waitOf yX4_waitOf ∈ BW := bw_at 591 (by decide +kernel) (by first | rfl | decide +kernel)
theorem b_co_yX4_waitOf : Cond.code yX4_waitOf cX4_waitOf 5 (some .int) ∈ BW := bw_at 592 (by decide +kernel) (by first | rfl | decide +kernel)
theorem b_ml_X4_95 : Cond.methodLink RX4 95 yX4_neededPosition ∈ BW := bw_at 593 (by decide +kernel) (by first | rfl | decide +kernel)
theorem b_in_yX4_neededPosition : Cond.instanceMethod yX4_neededPosition ∈ BW := bw_at 595 (by decide +kernel) (by first | rfl | decide +kernel)
theorem b_co_yX4_neededPosition : Cond.code yX4_neededPosition cX4_neededPosition 4 (some .int) ∈ BW := bw_at 596 (by decide +kernel) (by first | rfl | decide +kernel)
theorem b_ml_X4_83 : Cond.methodLink RX4 83 yX3_need ∈ BW := bw_at 597 (by decide +kernel) (by first | rfl | decide +kernel)
theorem b_ml_X4_87 : Cond.methodLink RX4 87 yX3_has ∈ BW := bw_at 598 (by decide +kernel) (by first | rfl | decide +kernel)
theorem b_ml_X4_91 : Cond.methodLink RX4 91 yX1_versionAt ∈ BW := bw_at 599 (by decide +kernel) (by first | rfl | decide +kernel)
theorem b_ml_X4_99 : Cond.methodLink RX4 99 yX2_ticksTo ∈ BW := bw_at 600 (by decide +kernel) (by first | rfl | decide +kernel)
theorem b_in_yX2_ticksTo : Cond.instanceMethod yX2_ticksTo ∈ BW := bw_at 601 (by decide +kernel) (by first | rfl | decide +kernel)
theorem b_se_yX2_ticksTo : Cond.selects RX2 yX2_ticksTo yX2_ticksTo ∈ BW := bw_at 602 (by decide +kernel) (by first | rfl | decide +kernel)
theorem b_co_yX2_ticksTo : Cond.code yX2_ticksTo cX2_ticksTo 2 (some .int) ∈ BW := bw_at 603 (by decide +kernel) (by first | rfl | decide +kernel)
theorem b_ml_X6_277 : Cond.methodLink RX6 277 yX4_answer ∈ BW := bw_at 604 (by decide +kernel) (by first | rfl | decide +kernel)
theorem b_in_yX4_answer : Cond.instanceMethod yX4_answer ∈ BW := bw_at 605 (by decide +kernel) (by first | rfl | decide +kernel)
theorem b_se_yX4_answer : Cond.selects RX4 yX4_answer yX4_answer ∈ BW := bw_at 606 (by decide +kernel) (by first | rfl | decide +kernel)
theorem b_co_yX4_answer : Cond.code yX4_answer cX4_answer 7 (some .int) ∈ BW := bw_at 607 (by decide +kernel) (by first | rfl | decide +kernel)
theorem b_ml_X4_103 : Cond.methodLink RX4 103 yX4_positionOf ∈ BW := bw_at 608 (by decide +kernel) (by first | rfl | decide +kernel)
theorem b_ml_X4_106 : Cond.methodLink RX4 106 yX3_noteRead ∈ BW := bw_at 609 (by decide +kernel) (by first | rfl | decide +kernel)
theorem b_in_yX3_noteRead : Cond.instanceMethod yX3_noteRead ∈ BW := bw_at 610 (by decide +kernel) (by first | rfl | decide +kernel)
theorem b_se_yX3_noteRead : Cond.selects RX3 yX3_noteRead yX3_noteRead ∈ BW := bw_at 611 (by decide +kernel) (by first | rfl | decide +kernel)
theorem b_co_yX3_noteRead : Cond.code yX3_noteRead cX3_noteRead 4 none ∈ BW := bw_at 612 (by decide +kernel) (by first | rfl | decide +kernel)
theorem b_ml_X4_109 : Cond.methodLink RX4 109 yX4_countAnswer ∈ BW := bw_at 613 (by decide +kernel) (by first | rfl | decide +kernel)
theorem b_in_yX4_countAnswer : Cond.instanceMethod yX4_countAnswer ∈ BW := bw_at 615 (by decide +kernel) (by first | rfl | decide +kernel)
theorem b_co_yX4_countAnswer : Cond.code yX4_countAnswer cX4_countAnswer 3 none ∈ BW := bw_at 616 (by decide +kernel) (by first | rfl | decide +kernel)
theorem b_ml_X4_113 : Cond.methodLink RX4 113 yX1_valueOf ∈ BW := bw_at 617 (by decide +kernel) (by first | rfl | decide +kernel)
theorem b_ml_X6_281 : Cond.methodLink RX6 281 yX3_has ∈ BW := bw_at 618 (by decide +kernel) (by first | rfl | decide +kernel)
theorem b_ml_L_114 : Cond.methodLink RL 114 yX6_readAt ∈ BW := bw_at 619 (by decide +kernel) (by first | rfl | decide +kernel)
theorem b_in_yX6_readAt : Cond.instanceMethod yX6_readAt ∈ BW := bw_at 620 (by decide +kernel) (by first | rfl | decide +kernel)
theorem b_se_yX6_readAt : Cond.selects RX6 yX6_readAt yX6_readAt ∈ BW := bw_at 621 (by decide +kernel) (by first | rfl | decide +kernel)
theorem b_co_yX6_readAt : Cond.code yX6_readAt cX6_readAt 4 (some .int) ∈ BW := bw_at 622 (by decide +kernel) (by first | rfl | decide +kernel)
theorem b_ml_X6_186 : Cond.methodLink RX6 186 yX6_readAtPlace ∈ BW := bw_at 623 (by decide +kernel) (by first | rfl | decide +kernel)
theorem b_in_yX6_readAtPlace : Cond.instanceMethod yX6_readAtPlace ∈ BW := bw_at 625 (by decide +kernel) (by first | rfl | decide +kernel)
theorem b_co_yX6_readAtPlace : Cond.code yX6_readAtPlace cX6_readAtPlace 5 (some .int) ∈ BW := bw_at 626 (by decide +kernel) (by first | rfl | decide +kernel)
theorem b_ml_L_118 : Cond.methodLink RL 118 yX6_latest ∈ BW := bw_at 627 (by decide +kernel) (by first | rfl | decide +kernel)
theorem b_in_yX6_latest : Cond.instanceMethod yX6_latest ∈ BW := bw_at 628 (by decide +kernel) (by first | rfl | decide +kernel)
theorem b_se_yX6_latest : Cond.selects RX6 yX6_latest yX6_latest ∈ BW := bw_at 629 (by decide +kernel) (by first | rfl | decide +kernel)
theorem b_co_yX6_latest : Cond.code yX6_latest cX6_latest 2 (some .int) ∈ BW := bw_at 630 (by decide +kernel) (by first | rfl | decide +kernel)
theorem b_ml_L_122 : Cond.methodLink RL 122 yX6_waitFor ∈ BW := bw_at 631 (by decide +kernel) (by first | rfl | decide +kernel)
theorem b_in_yX6_waitFor : Cond.instanceMethod yX6_waitFor ∈ BW := bw_at 632 (by decide +kernel) (by first | rfl | decide +kernel)
theorem b_se_yX6_waitFor : Cond.selects RX6 yX6_waitFor yX6_waitFor ∈ BW := bw_at 633 (by decide +kernel) (by first | rfl | decide +kernel)
theorem b_co_yX6_waitFor : Cond.code yX6_waitFor cX6_waitFor 5 (some .int) ∈ BW := bw_at 634 (by decide +kernel) (by first | rfl | decide +kernel)
theorem b_ml_L_126 : Cond.methodLink RL 126 yX6_bestReplica ∈ BW := bw_at 635 (by decide +kernel) (by first | rfl | decide +kernel)
theorem b_in_yX6_bestReplica : Cond.instanceMethod yX6_bestReplica ∈ BW := bw_at 636 (by decide +kernel) (by first | rfl | decide +kernel)
theorem b_se_yX6_bestReplica : Cond.selects RX6 yX6_bestReplica yX6_bestReplica ∈ BW := bw_at 637 (by decide +kernel) (by first | rfl | decide +kernel)
theorem b_co_yX6_bestReplica : Cond.code yX6_bestReplica cX6_bestReplica 8 (some .int) ∈ BW := bw_at 638 (by decide +kernel) (by first | rfl | decide +kernel)
theorem b_ml_L_130 : Cond.methodLink RL 130 yX6_keysAfter ∈ BW := bw_at 639 (by decide +kernel) (by first | rfl | decide +kernel)
theorem b_in_yX6_keysAfter : Cond.instanceMethod yX6_keysAfter ∈ BW := bw_at 640 (by decide +kernel) (by first | rfl | decide +kernel)
theorem b_se_yX6_keysAfter : Cond.selects RX6 yX6_keysAfter yX6_keysAfter ∈ BW := bw_at 641 (by decide +kernel) (by first | rfl | decide +kernel)
theorem b_co_yX6_keysAfter : Cond.code yX6_keysAfter cX6_keysAfter 8 (some .int) ∈ BW := bw_at 642 (by decide +kernel) (by first | rfl | decide +kernel)
theorem b_ml_L_134 : Cond.methodLink RL 134 yX6_catchUp ∈ BW := bw_at 643 (by decide +kernel) (by first | rfl | decide +kernel)
theorem b_in_yX6_catchUp : Cond.instanceMethod yX6_catchUp ∈ BW := bw_at 644 (by decide +kernel) (by first | rfl | decide +kernel)
theorem b_se_yX6_catchUp : Cond.selects RX6 yX6_catchUp yX6_catchUp ∈ BW := bw_at 645 (by decide +kernel) (by first | rfl | decide +kernel)
theorem b_co_yX6_catchUp : Cond.code yX6_catchUp cX6_catchUp 5 (some .int) ∈ BW := bw_at 646 (by decide +kernel) (by first | rfl | decide +kernel)
theorem b_ml_X6_206 : Cond.methodLink RX6 206 yX2_ticksTo ∈ BW := bw_at 647 (by decide +kernel) (by first | rfl | decide +kernel)
theorem b_ml_L_138 : Cond.methodLink RL 138 yX6_append ∈ BW := bw_at 648 (by decide +kernel) (by first | rfl | decide +kernel)
theorem b_in_yX6_append : Cond.instanceMethod yX6_append ∈ BW := bw_at 649 (by decide +kernel) (by first | rfl | decide +kernel)
theorem b_se_yX6_append : Cond.selects RX6 yX6_append yX6_append ∈ BW := bw_at 650 (by decide +kernel) (by first | rfl | decide +kernel)
theorem b_co_yX6_append : Cond.code yX6_append cX6_append 2 (some .int) ∈ BW := bw_at 651 (by decide +kernel) (by first | rfl | decide +kernel)
theorem b_ml_X6_214 : Cond.methodLink RX6 214 yX5_add ∈ BW := bw_at 652 (by decide +kernel) (by first | rfl | decide +kernel)
theorem b_in_yX5_add : Cond.instanceMethod yX5_add ∈ BW := bw_at 653 (by decide +kernel) (by first | rfl | decide +kernel)
theorem b_se_yX5_add : Cond.selects RX5 yX5_add yX5_add ∈ BW := bw_at 654 (by decide +kernel) (by first | rfl | decide +kernel)
theorem b_co_yX5_add : Cond.code yX5_add cX5_add 2 (some .int) ∈ BW := bw_at 655 (by decide +kernel) (by first | rfl | decide +kernel)
theorem b_ml_L_142 : Cond.methodLink RL 142 yX6_clearText ∈ BW := bw_at 656 (by decide +kernel) (by first | rfl | decide +kernel)
theorem b_in_yX6_clearText : Cond.instanceMethod yX6_clearText ∈ BW := bw_at 657 (by decide +kernel) (by first | rfl | decide +kernel)
theorem b_se_yX6_clearText : Cond.selects RX6 yX6_clearText yX6_clearText ∈ BW := bw_at 658 (by decide +kernel) (by first | rfl | decide +kernel)
theorem b_co_yX6_clearText : Cond.code yX6_clearText cX6_clearText 1 (some .int) ∈ BW := bw_at 659 (by decide +kernel) (by first | rfl | decide +kernel)
theorem b_ml_X6_217 : Cond.methodLink RX6 217 yX5_empty ∈ BW := bw_at 660 (by decide +kernel) (by first | rfl | decide +kernel)
theorem b_in_yX5_empty : Cond.instanceMethod yX5_empty ∈ BW := bw_at 661 (by decide +kernel) (by first | rfl | decide +kernel)
theorem b_se_yX5_empty : Cond.selects RX5 yX5_empty yX5_empty ∈ BW := bw_at 662 (by decide +kernel) (by first | rfl | decide +kernel)
theorem b_co_yX5_empty : Cond.code yX5_empty cX5_empty 2 (some .int) ∈ BW := bw_at 663 (by decide +kernel) (by first | rfl | decide +kernel)
theorem b_ml_L_146 : Cond.methodLink RL 146 yX6_errorPosition ∈ BW := bw_at 664 (by decide +kernel) (by first | rfl | decide +kernel)
theorem b_in_yX6_errorPosition : Cond.instanceMethod yX6_errorPosition ∈ BW := bw_at 665 (by decide +kernel) (by first | rfl | decide +kernel)
theorem b_se_yX6_errorPosition : Cond.selects RX6 yX6_errorPosition yX6_errorPosition ∈ BW := bw_at 666 (by decide +kernel) (by first | rfl | decide +kernel)
theorem b_co_yX6_errorPosition : Cond.code yX6_errorPosition cX6_errorPosition 1 (some .int) ∈ BW := bw_at 667 (by decide +kernel) (by first | rfl | decide +kernel)
theorem b_ml_X6_220 : Cond.methodLink RX6 220 yX5_findError ∈ BW := bw_at 668 (by decide +kernel) (by first | rfl | decide +kernel)
theorem b_in_yX5_findError : Cond.instanceMethod yX5_findError ∈ BW := bw_at 669 (by decide +kernel) (by first | rfl | decide +kernel)
theorem b_se_yX5_findError : Cond.selects RX5 yX5_findError yX5_findError ∈ BW := bw_at 670 (by decide +kernel) (by first | rfl | decide +kernel)
theorem b_co_yX5_findError : Cond.code yX5_findError cX5_findError 2 (some .int) ∈ BW := bw_at 671 (by decide +kernel) (by first | rfl | decide +kernel)
theorem b_ml_X5_31 : Cond.methodLink RX5 31 yX5_rewind ∈ BW := bw_at 672 (by decide +kernel) (by first | rfl | decide +kernel)
theorem b_in_yX5_rewind : Cond.instanceMethod yX5_rewind ∈ BW := bw_at 673 (by decide +kernel) (by first | rfl | decide +kernel)
theorem b_se_yX5_rewind : Cond.selects RX5 yX5_rewind yX5_rewind ∈ BW := bw_at 674 (by decide +kernel) (by first | rfl | decide +kernel)
theorem b_co_yX5_rewind : Cond.code yX5_rewind cX5_rewind 1 none ∈ BW := bw_at 675 (by decide +kernel) (by first | rfl | decide +kernel)
theorem b_ml_X5_34 : Cond.methodLink RX5 34 yX5_readCommand ∈ BW := bw_at 676 (by decide +kernel) (by first | rfl | decide +kernel)
theorem b_in_yX5_readCommand : Cond.instanceMethod yX5_readCommand ∈ BW := bw_at 677 (by decide +kernel) (by first | rfl | decide +kernel)
theorem b_se_yX5_readCommand : Cond.selects RX5 yX5_readCommand yX5_readCommand ∈ BW := bw_at 678 (by decide +kernel) (by first | rfl | decide +kernel)
theorem b_co_yX5_readCommand : Cond.code yX5_readCommand cX5_readCommand 1 (some .boolean) ∈ BW := bw_at 679 (by decide +kernel) (by first | rfl | decide +kernel)
theorem b_ml_X5_42 : Cond.methodLink RX5 42 yX5_codeHere ∈ BW := bw_at 680 (by decide +kernel) (by first | rfl | decide +kernel)
theorem b_in_yX5_codeHere : Cond.instanceMethod yX5_codeHere ∈ BW := bw_at 682 (by decide +kernel) (by first | rfl | decide +kernel)
theorem b_co_yX5_codeHere : Cond.code yX5_codeHere cX5_codeHere 1 (some .int) ∈ BW := bw_at 683 (by decide +kernel) (by first | rfl | decide +kernel)
theorem b_ml_X5_38 : Cond.methodLink RX5 38 yX5_readSign ∈ BW := bw_at 684 (by decide +kernel) (by first | rfl | decide +kernel)
theorem b_in_yX5_readSign : Cond.instanceMethod yX5_readSign ∈ BW := bw_at 685 (by decide +kernel) (by first | rfl | decide +kernel)
theorem b_se_yX5_readSign : Cond.selects RX5 yX5_readSign yX5_readSign ∈ BW := bw_at 686 (by decide +kernel) (by first | rfl | decide +kernel)
theorem b_co_yX5_readSign : Cond.code yX5_readSign cX5_readSign 2 (some .boolean) ∈ BW := bw_at 687 (by decide +kernel) (by first | rfl | decide +kernel)
theorem b_ml_X5_46 : Cond.methodLink RX5 46 yX5_readDigit ∈ BW := bw_at 688 (by decide +kernel) (by first | rfl | decide +kernel)
theorem b_in_yX5_readDigit : Cond.instanceMethod yX5_readDigit ∈ BW := bw_at 690 (by decide +kernel) (by first | rfl | decide +kernel)
theorem b_co_yX5_readDigit : Cond.code yX5_readDigit cX5_readDigit 1 (some .boolean) ∈ BW := bw_at 691 (by decide +kernel) (by first | rfl | decide +kernel)
theorem nest_X5_55 : Cond.methodLinkNest RX5 55 yX6_isWithin RX6 ∈ lw_tbl := List.mem_of_getElem? (i := 692) (by decide +kernel)
theorem b_ml_X5_59 : Cond.methodLink RX5 59 yX5_takeDigit ∈ BW := bw_at 693 (by decide +kernel) (by first | rfl | decide +kernel)
theorem b_in_yX5_takeDigit : Cond.instanceMethod yX5_takeDigit ∈ BW := bw_at 695 (by decide +kernel) (by first | rfl | decide +kernel)
theorem b_co_yX5_takeDigit : Cond.code yX5_takeDigit cX5_takeDigit 2 (some .int) ∈ BW := bw_at 696 (by decide +kernel) (by first | rfl | decide +kernel)
theorem b_ml_X5_62 : Cond.methodLink RX5 62 yX5_addArgument ∈ BW := bw_at 697 (by decide +kernel) (by first | rfl | decide +kernel)
theorem b_in_yX5_addArgument : Cond.instanceMethod yX5_addArgument ∈ BW := bw_at 699 (by decide +kernel) (by first | rfl | decide +kernel)
theorem b_co_yX5_addArgument : Cond.code yX5_addArgument cX5_addArgument 2 (some .boolean) ∈ BW := bw_at 700 (by decide +kernel) (by first | rfl | decide +kernel)
theorem b_ml_X5_49 : Cond.methodLink RX5 49 yX5_readNumber ∈ BW := bw_at 701 (by decide +kernel) (by first | rfl | decide +kernel)
theorem b_in_yX5_readNumber : Cond.instanceMethod yX5_readNumber ∈ BW := bw_at 703 (by decide +kernel) (by first | rfl | decide +kernel)
theorem b_co_yX5_readNumber : Cond.code yX5_readNumber cX5_readNumber 3 (some .boolean) ∈ BW := bw_at 704 (by decide +kernel) (by first | rfl | decide +kernel)
theorem b_ml_X5_52 : Cond.methodLink RX5 52 yX5_readPlace ∈ BW := bw_at 705 (by decide +kernel) (by first | rfl | decide +kernel)
theorem b_in_yX5_readPlace : Cond.instanceMethod yX5_readPlace ∈ BW := bw_at 707 (by decide +kernel) (by first | rfl | decide +kernel)
theorem b_co_yX5_readPlace : Cond.code yX5_readPlace cX5_readPlace 1 (some .boolean) ∈ BW := bw_at 708 (by decide +kernel) (by first | rfl | decide +kernel)
theorem b_ml_L_150 : Cond.methodLink RL 150 yX6_execute ∈ BW := bw_at 709 (by decide +kernel) (by first | rfl | decide +kernel)
theorem b_in_yX6_execute : Cond.instanceMethod yX6_execute ∈ BW := bw_at 710 (by decide +kernel) (by first | rfl | decide +kernel)
theorem b_se_yX6_execute : Cond.selects RX6 yX6_execute yX6_execute ∈ BW := bw_at 711 (by decide +kernel) (by first | rfl | decide +kernel)
theorem b_co_yX6_execute : Cond.code yX6_execute cX6_execute 2 (some .int) ∈ BW := bw_at 712 (by decide +kernel) (by first | rfl | decide +kernel)
theorem b_ml_X6_223 : Cond.methodLink RX6 223 yX5_rewind ∈ BW := bw_at 713 (by decide +kernel) (by first | rfl | decide +kernel)
theorem b_ml_X6_226 : Cond.methodLink RX6 226 yX5_readCommand ∈ BW := bw_at 714 (by decide +kernel) (by first | rfl | decide +kernel)
theorem b_ml_X6_230 : Cond.methodLink RX6 230 yX6_runCommand ∈ BW := bw_at 715 (by decide +kernel) (by first | rfl | decide +kernel)
theorem b_in_yX6_runCommand : Cond.instanceMethod yX6_runCommand ∈ BW := bw_at 717 (by decide +kernel) (by first | rfl | decide +kernel)
theorem b_co_yX6_runCommand : Cond.code yX6_runCommand cX6_runCommand 3 (some .int) ∈ BW := bw_at 718 (by decide +kernel) (by first | rfl | decide +kernel)
theorem b_ml_X6_284 : Cond.methodLink RX6 284 yX5_argument ∈ BW := bw_at 719 (by decide +kernel) (by first | rfl | decide +kernel)
theorem b_in_yX5_argument : Cond.instanceMethod yX5_argument ∈ BW := bw_at 720 (by decide +kernel) (by first | rfl | decide +kernel)
theorem b_se_yX5_argument : Cond.selects RX5 yX5_argument yX5_argument ∈ BW := bw_at 721 (by decide +kernel) (by first | rfl | decide +kernel)
theorem b_co_yX5_argument : Cond.code yX5_argument cX5_argument 2 (some .int) ∈ BW := bw_at 722 (by decide +kernel) (by first | rfl | decide +kernel)
theorem b_ml_X6_233 : Cond.methodLink RX6 233 yX6_isError ∈ BW := bw_at 723 (by decide +kernel) (by first | rfl | decide +kernel)
theorem b_ml_X6_236 : Cond.methodLink RX6 236 yX5_readSign ∈ BW := bw_at 724 (by decide +kernel) (by first | rfl | decide +kernel)
theorem b_ml_L_154 : Cond.methodLink RL 154 yX6_undo ∈ BW := bw_at 725 (by decide +kernel) (by first | rfl | decide +kernel)
theorem b_in_yX6_undo : Cond.instanceMethod yX6_undo ∈ BW := bw_at 726 (by decide +kernel) (by first | rfl | decide +kernel)
theorem b_se_yX6_undo : Cond.selects RX6 yX6_undo yX6_undo ∈ BW := bw_at 727 (by decide +kernel) (by first | rfl | decide +kernel)
theorem b_co_yX6_undo : Cond.code yX6_undo cX6_undo 1 (some .int) ∈ BW := bw_at 728 (by decide +kernel) (by first | rfl | decide +kernel)
theorem b_ml_X6_239 : Cond.methodLink RX6 239 yX0_takeLatest ∈ BW := bw_at 729 (by decide +kernel) (by first | rfl | decide +kernel)
theorem b_in_yX0_takeLatest : Cond.instanceMethod yX0_takeLatest ∈ BW := bw_at 730 (by decide +kernel) (by first | rfl | decide +kernel)
theorem b_se_yX0_takeLatest : Cond.selects RX0 yX0_takeLatest yX0_takeLatest ∈ BW := bw_at 731 (by decide +kernel) (by first | rfl | decide +kernel)
theorem b_co_yX0_takeLatest : Cond.code yX0_takeLatest cX0_takeLatest 3 (some .int) ∈ BW := bw_at 732 (by decide +kernel) (by first | rfl | decide +kernel)
theorem b_ml_L_158 : Cond.methodLink RL 158 yX6_save ∈ BW := bw_at 733 (by decide +kernel) (by first | rfl | decide +kernel)
theorem b_in_yX6_save : Cond.instanceMethod yX6_save ∈ BW := bw_at 734 (by decide +kernel) (by first | rfl | decide +kernel)
theorem b_se_yX6_save : Cond.selects RX6 yX6_save yX6_save ∈ BW := bw_at 735 (by decide +kernel) (by first | rfl | decide +kernel)
theorem b_co_yX6_save : Cond.code yX6_save cX6_save 1 (some .int) ∈ BW := bw_at 736 (by decide +kernel) (by first | rfl | decide +kernel)
theorem b_ml_X6_243 : Cond.methodLink RX6 243 yX4_copyFrom ∈ BW := bw_at 737 (by decide +kernel) (by first | rfl | decide +kernel)
theorem b_ml_L_162 : Cond.methodLink RL 162 yX6_restore ∈ BW := bw_at 738 (by decide +kernel) (by first | rfl | decide +kernel)
theorem b_in_yX6_restore : Cond.instanceMethod yX6_restore ∈ BW := bw_at 739 (by decide +kernel) (by first | rfl | decide +kernel)
theorem b_se_yX6_restore : Cond.selects RX6 yX6_restore yX6_restore ∈ BW := bw_at 740 (by decide +kernel) (by first | rfl | decide +kernel)
theorem b_co_yX6_restore : Cond.code yX6_restore cX6_restore 1 (some .int) ∈ BW := bw_at 741 (by decide +kernel) (by first | rfl | decide +kernel)
theorem b_cl_L_10 : Cond.classLink RL 10 RX7 ∈ BW := bw_at 742 (by decide +kernel) (by first | rfl | decide +kernel)
theorem b_is_X7 : Cond.instantiable RX7 11 ∈ BW := bw_at 743 (by decide +kernel) (by first | rfl | decide +kernel)
theorem b_ml_L_12 : Cond.methodLink RL 12 yX7_init ∈ BW := bw_at 744 (by decide +kernel) (by first | rfl | decide +kernel)
theorem b_in_yX7_init : Cond.instanceMethod yX7_init ∈ BW := bw_at 745 (by decide +kernel) (by first | rfl | decide +kernel)
theorem b_co_yX7_init : Cond.code yX7_init cX7_init 2 none ∈ BW := bw_at 746 (by decide +kernel) (by first | rfl | decide +kernel)
theorem b_ml_X7_1 : Cond.methodLink RX7 1 objectInit ∈ BW := bw_at 747 (by decide +kernel) (by first | rfl | decide +kernel)
theorem b_fl_X7_7 : Cond.fieldLink RX7 7 RX7 "z" "[I" ∈ BW := bw_at 748 (by decide +kernel) (by first | rfl | decide +kernel)
theorem b_fl_X7_13 : Cond.fieldLink RX7 13 RX7 "past" "[I" ∈ BW := bw_at 749 (by decide +kernel) (by first | rfl | decide +kernel)
theorem b_fl_X7_41 : Cond.fieldLink RX7 41 RX7 "pastMany" "I" ∈ BW := bw_at 750 (by decide +kernel) (by first | rfl | decide +kernel)
theorem b_fl_X7_16 : Cond.fieldLink RX7 16 RX7 "kept" "[I" ∈ BW := bw_at 751 (by decide +kernel) (by first | rfl | decide +kernel)
theorem b_fl_X7_45 : Cond.fieldLink RX7 45 RX7 "isKept" "Z" ∈ BW := bw_at 752 (by decide +kernel) (by first | rfl | decide +kernel)
theorem b_fl_X7_19 : Cond.fieldLink RX7 19 RX7 "buffer" "[C" ∈ BW := bw_at 753 (by decide +kernel) (by first | rfl | decide +kernel)
theorem b_fl_X7_142 : Cond.fieldLink RX7 142 RX7 "typed" "I" ∈ BW := bw_at 754 (by decide +kernel) (by first | rfl | decide +kernel)
theorem b_fl_X7_23 : Cond.fieldLink RX7 23 RX7 "told" "[I" ∈ BW := bw_at 755 (by decide +kernel) (by first | rfl | decide +kernel)
theorem b_fl_X7_162 : Cond.fieldLink RX7 162 RX7 "toldMany" "I" ∈ BW := bw_at 756 (by decide +kernel) (by first | rfl | decide +kernel)
theorem b_fl_X7_145 : Cond.fieldLink RX7 145 RX7 "spot" "I" ∈ BW := bw_at 757 (by decide +kernel) (by first | rfl | decide +kernel)
theorem b_fl_X7_148 : Cond.fieldLink RX7 148 RX7 "wrong" "I" ∈ BW := bw_at 758 (by decide +kernel) (by first | rfl | decide +kernel)
theorem b_ac_char : Cond.arrayClass .char ∈ BW := bw_at 782 (by decide +kernel) (by first | rfl | decide +kernel)
theorem b_ml_L_157 : Cond.methodLink RL 157 yX7_undo ∈ BW := bw_at 783 (by decide +kernel) (by first | rfl | decide +kernel)
theorem b_in_yX7_undo : Cond.instanceMethod yX7_undo ∈ BW := bw_at 784 (by decide +kernel) (by first | rfl | decide +kernel)
theorem b_se_yX7_undo : Cond.selects RX7 yX7_undo yX7_undo ∈ BW := bw_at 785 (by decide +kernel) (by first | rfl | decide +kernel)
theorem b_co_yX7_undo : Cond.code yX7_undo cX7_undo 2 (some .int) ∈ BW := bw_at 786 (by decide +kernel) (by first | rfl | decide +kernel)
theorem b_ml_L_161 : Cond.methodLink RL 161 yX7_save ∈ BW := bw_at 787 (by decide +kernel) (by first | rfl | decide +kernel)
theorem b_in_yX7_save : Cond.instanceMethod yX7_save ∈ BW := bw_at 788 (by decide +kernel) (by first | rfl | decide +kernel)
theorem b_se_yX7_save : Cond.selects RX7 yX7_save yX7_save ∈ BW := bw_at 789 (by decide +kernel) (by first | rfl | decide +kernel)
theorem b_co_yX7_save : Cond.code yX7_save cX7_save 2 (some .int) ∈ BW := bw_at 790 (by decide +kernel) (by first | rfl | decide +kernel)
theorem b_ml_L_165 : Cond.methodLink RL 165 yX7_restore ∈ BW := bw_at 791 (by decide +kernel) (by first | rfl | decide +kernel)
theorem b_in_yX7_restore : Cond.instanceMethod yX7_restore ∈ BW := bw_at 792 (by decide +kernel) (by first | rfl | decide +kernel)
theorem b_se_yX7_restore : Cond.selects RX7 yX7_restore yX7_restore ∈ BW := bw_at 793 (by decide +kernel) (by first | rfl | decide +kernel)
theorem b_co_yX7_restore : Cond.code yX7_restore cX7_restore 2 (some .int) ∈ BW := bw_at 794 (by decide +kernel) (by first | rfl | decide +kernel)
theorem b_ml_X7_49 : Cond.methodLink RX7 49 yX7_record ∈ BW := bw_at 795 (by decide +kernel) (by first | rfl | decide +kernel)
theorem b_in_yX7_record : Cond.instanceMethod yX7_record ∈ BW := bw_at 797 (by decide +kernel) (by first | rfl | decide +kernel)
theorem b_co_yX7_record : Cond.code yX7_record cX7_record 2 none ∈ BW := bw_at 798 (by decide +kernel) (by first | rfl | decide +kernel)
theorem b_ml_L_17 : Cond.methodLink RL 17 yX7_addReplica ∈ BW := bw_at 799 (by decide +kernel) (by first | rfl | decide +kernel)
theorem b_in_yX7_addReplica : Cond.instanceMethod yX7_addReplica ∈ BW := bw_at 800 (by decide +kernel) (by first | rfl | decide +kernel)
theorem b_se_yX7_addReplica : Cond.selects RX7 yX7_addReplica yX7_addReplica ∈ BW := bw_at 801 (by decide +kernel) (by first | rfl | decide +kernel)
theorem b_co_yX7_addReplica : Cond.code yX7_addReplica cX7_addReplica 4 (some .int) ∈ BW := bw_at 802 (by decide +kernel) (by first | rfl | decide +kernel)
theorem b_ml_X7_52 : Cond.methodLink RX7 52 yX7_isPlace ∈ BW := bw_at 803 (by decide +kernel) (by first | rfl | decide +kernel)
theorem b_in_yX7_isPlace : Cond.instanceMethod yX7_isPlace ∈ BW := bw_at 805 (by decide +kernel) (by first | rfl | decide +kernel)
theorem b_co_yX7_isPlace : Cond.code yX7_isPlace cX7_isPlace 2 (some .boolean) ∈ BW := bw_at 806 (by decide +kernel) (by first | rfl | decide +kernel)
theorem b_ml_X7_34 : Cond.methodLink RX7 34 yX7_isReplica ∈ BW := bw_at 807 (by decide +kernel) (by first | rfl | decide +kernel)
theorem b_in_yX7_isReplica : Cond.instanceMethod yX7_isReplica ∈ BW := bw_at 809 (by decide +kernel) (by first | rfl | decide +kernel)
theorem b_co_yX7_isReplica : Cond.code yX7_isReplica cX7_isReplica 2 (some .boolean) ∈ BW := bw_at 810 (by decide +kernel) (by first | rfl | decide +kernel)
theorem b_ml_X7_26 : Cond.methodLink RX7 26 yX7_in ∈ BW := bw_at 811 (by decide +kernel) (by first | rfl | decide +kernel)
theorem b_st_yX7_in : Cond.static yX7_in ∈ BW := bw_at 812 (by decide +kernel) (by first | rfl | decide +kernel)
theorem b_co_yX7_in : Cond.code yX7_in cX7_in 3 (some .boolean) ∈ BW := bw_at 813 (by decide +kernel) (by first | rfl | decide +kernel)
theorem b_ml_X7_30 : Cond.methodLink RX7 30 yX7_ofReplica ∈ BW := bw_at 814 (by decide +kernel) (by first | rfl | decide +kernel)
theorem b_in_yX7_ofReplica : Cond.instanceMethod yX7_ofReplica ∈ BW := bw_at 816 (by decide +kernel) (by first | rfl | decide +kernel)
theorem b_co_yX7_ofReplica : Cond.code yX7_ofReplica cX7_ofReplica 3 (some .int) ∈ BW := bw_at 817 (by decide +kernel) (by first | rfl | decide +kernel)
theorem b_ml_X7_55 : Cond.methodLink RX7 55 yX7_layReplica ∈ BW := bw_at 818 (by decide +kernel) (by first | rfl | decide +kernel)
theorem b_in_yX7_layReplica : Cond.instanceMethod yX7_layReplica ∈ BW := bw_at 820 (by decide +kernel) (by first | rfl | decide +kernel)
theorem b_co_yX7_layReplica : Cond.code yX7_layReplica cX7_layReplica 4 none ∈ BW := bw_at 821 (by decide +kernel) (by first | rfl | decide +kernel)
theorem b_ml_X7_59 : Cond.methodLink RX7 59 yX7_at ∈ BW := bw_at 822 (by decide +kernel) (by first | rfl | decide +kernel)
theorem b_in_yX7_at : Cond.instanceMethod yX7_at ∈ BW := bw_at 824 (by decide +kernel) (by first | rfl | decide +kernel)
theorem b_co_yX7_at : Cond.code yX7_at cX7_at 2 (some .int) ∈ BW := bw_at 825 (by decide +kernel) (by first | rfl | decide +kernel)
theorem b_ml_L_22 : Cond.methodLink RL 22 yX7_drop ∈ BW := bw_at 826 (by decide +kernel) (by first | rfl | decide +kernel)
theorem b_in_yX7_drop : Cond.instanceMethod yX7_drop ∈ BW := bw_at 827 (by decide +kernel) (by first | rfl | decide +kernel)
theorem b_se_yX7_drop : Cond.selects RX7 yX7_drop yX7_drop ∈ BW := bw_at 828 (by decide +kernel) (by first | rfl | decide +kernel)
theorem b_co_yX7_drop : Cond.code yX7_drop cX7_drop 4 (some .int) ∈ BW := bw_at 829 (by decide +kernel) (by first | rfl | decide +kernel)
theorem b_ml_X7_63 : Cond.methodLink RX7 63 yX7_homes ∈ BW := bw_at 830 (by decide +kernel) (by first | rfl | decide +kernel)
theorem b_in_yX7_homes : Cond.instanceMethod yX7_homes ∈ BW := bw_at 832 (by decide +kernel) (by first | rfl | decide +kernel)
theorem b_co_yX7_homes : Cond.code yX7_homes cX7_homes 4 (some .int) ∈ BW := bw_at 833 (by decide +kernel) (by first | rfl | decide +kernel)
theorem b_ml_X7_38 : Cond.methodLink RX7 38 yX7_ofSession ∈ BW := bw_at 834 (by decide +kernel) (by first | rfl | decide +kernel)
theorem b_in_yX7_ofSession : Cond.instanceMethod yX7_ofSession ∈ BW := bw_at 836 (by decide +kernel) (by first | rfl | decide +kernel)
theorem b_co_yX7_ofSession : Cond.code yX7_ofSession cX7_ofSession 3 (some .int) ∈ BW := bw_at 837 (by decide +kernel) (by first | rfl | decide +kernel)
theorem b_ml_X7_66 : Cond.methodLink RX7 66 yX7_laySession ∈ BW := bw_at 838 (by decide +kernel) (by first | rfl | decide +kernel)
theorem b_in_yX7_laySession : Cond.instanceMethod yX7_laySession ∈ BW := bw_at 840 (by decide +kernel) (by first | rfl | decide +kernel)
theorem b_co_yX7_laySession : Cond.code yX7_laySession cX7_laySession 4 none ∈ BW := bw_at 841 (by decide +kernel) (by first | rfl | decide +kernel)
theorem b_ml_L_26 : Cond.methodLink RL 26 yX7_setRate ∈ BW := bw_at 842 (by decide +kernel) (by first | rfl | decide +kernel)
theorem b_in_yX7_setRate : Cond.instanceMethod yX7_setRate ∈ BW := bw_at 843 (by decide +kernel) (by first | rfl | decide +kernel)
theorem b_se_yX7_setRate : Cond.selects RX7 yX7_setRate yX7_setRate ∈ BW := bw_at 844 (by decide +kernel) (by first | rfl | decide +kernel)
theorem b_co_yX7_setRate : Cond.code yX7_setRate cX7_setRate 4 (some .int) ∈ BW := bw_at 845 (by decide +kernel) (by first | rfl | decide +kernel)
theorem b_ml_L_31 : Cond.methodLink RL 31 yX7_stop ∈ BW := bw_at 846 (by decide +kernel) (by first | rfl | decide +kernel)
theorem b_in_yX7_stop : Cond.instanceMethod yX7_stop ∈ BW := bw_at 847 (by decide +kernel) (by first | rfl | decide +kernel)
theorem b_se_yX7_stop : Cond.selects RX7 yX7_stop yX7_stop ∈ BW := bw_at 848 (by decide +kernel) (by first | rfl | decide +kernel)
theorem b_co_yX7_stop : Cond.code yX7_stop cX7_stop 4 (some .int) ∈ BW := bw_at 849 (by decide +kernel) (by first | rfl | decide +kernel)
theorem b_ml_L_35 : Cond.methodLink RL 35 yX7_jumpBack ∈ BW := bw_at 850 (by decide +kernel) (by first | rfl | decide +kernel)
theorem b_in_yX7_jumpBack : Cond.instanceMethod yX7_jumpBack ∈ BW := bw_at 851 (by decide +kernel) (by first | rfl | decide +kernel)
theorem b_se_yX7_jumpBack : Cond.selects RX7 yX7_jumpBack yX7_jumpBack ∈ BW := bw_at 852 (by decide +kernel) (by first | rfl | decide +kernel)
theorem b_co_yX7_jumpBack : Cond.code yX7_jumpBack cX7_jumpBack 4 (some .int) ∈ BW := bw_at 853 (by decide +kernel) (by first | rfl | decide +kernel)
theorem b_ml_X7_69 : Cond.methodLink RX7 69 yX7_whyNotJump ∈ BW := bw_at 854 (by decide +kernel) (by first | rfl | decide +kernel)
theorem b_in_yX7_whyNotJump : Cond.instanceMethod yX7_whyNotJump ∈ BW := bw_at 856 (by decide +kernel) (by first | rfl | decide +kernel)
theorem b_co_yX7_whyNotJump : Cond.code yX7_whyNotJump cX7_whyNotJump 3 (some .int) ∈ BW := bw_at 857 (by decide +kernel) (by first | rfl | decide +kernel)
theorem b_ml_X7_72 : Cond.methodLink RX7 72 yX7_jumps ∈ BW := bw_at 858 (by decide +kernel) (by first | rfl | decide +kernel)
theorem b_in_yX7_jumps : Cond.instanceMethod yX7_jumps ∈ BW := bw_at 860 (by decide +kernel) (by first | rfl | decide +kernel)
theorem b_co_yX7_jumps : Cond.code yX7_jumps cX7_jumps 4 (some .int) ∈ BW := bw_at 861 (by decide +kernel) (by first | rfl | decide +kernel)
theorem b_ml_L_39 : Cond.methodLink RL 39 yX7_tick ∈ BW := bw_at 862 (by decide +kernel) (by first | rfl | decide +kernel)
theorem b_in_yX7_tick : Cond.instanceMethod yX7_tick ∈ BW := bw_at 863 (by decide +kernel) (by first | rfl | decide +kernel)
theorem b_se_yX7_tick : Cond.selects RX7 yX7_tick yX7_tick ∈ BW := bw_at 864 (by decide +kernel) (by first | rfl | decide +kernel)
theorem b_co_yX7_tick : Cond.code yX7_tick cX7_tick 4 (some .int) ∈ BW := bw_at 865 (by decide +kernel) (by first | rfl | decide +kernel)
theorem b_ml_X7_78 : Cond.methodLink RX7 78 yX7_ticks ∈ BW := bw_at 866 (by decide +kernel) (by first | rfl | decide +kernel)
theorem b_in_yX7_ticks : Cond.instanceMethod yX7_ticks ∈ BW := bw_at 868 (by decide +kernel) (by first | rfl | decide +kernel)
theorem b_co_yX7_ticks : Cond.code yX7_ticks cX7_ticks 3 none ∈ BW := bw_at 869 (by decide +kernel) (by first | rfl | decide +kernel)
theorem b_ml_X7_75 : Cond.methodLink RX7 75 yX7_atBehind ∈ BW := bw_at 870 (by decide +kernel) (by first | rfl | decide +kernel)
theorem b_in_yX7_atBehind : Cond.instanceMethod yX7_atBehind ∈ BW := bw_at 872 (by decide +kernel) (by first | rfl | decide +kernel)
theorem b_co_yX7_atBehind : Cond.code yX7_atBehind cX7_atBehind 4 (some .int) ∈ BW := bw_at 873 (by decide +kernel) (by first | rfl | decide +kernel)
theorem b_ml_L_44 : Cond.methodLink RL 44 yX7_replicas ∈ BW := bw_at 874 (by decide +kernel) (by first | rfl | decide +kernel)
theorem b_in_yX7_replicas : Cond.instanceMethod yX7_replicas ∈ BW := bw_at 875 (by decide +kernel) (by first | rfl | decide +kernel)
theorem b_se_yX7_replicas : Cond.selects RX7 yX7_replicas yX7_replicas ∈ BW := bw_at 876 (by decide +kernel) (by first | rfl | decide +kernel)
theorem b_co_yX7_replicas : Cond.code yX7_replicas cX7_replicas 3 (some .int) ∈ BW := bw_at 877 (by decide +kernel) (by first | rfl | decide +kernel)
theorem b_ml_L_48 : Cond.methodLink RL 48 yX7_replica ∈ BW := bw_at 878 (by decide +kernel) (by first | rfl | decide +kernel)
theorem b_in_yX7_replica : Cond.instanceMethod yX7_replica ∈ BW := bw_at 879 (by decide +kernel) (by first | rfl | decide +kernel)
theorem b_se_yX7_replica : Cond.selects RX7 yX7_replica yX7_replica ∈ BW := bw_at 880 (by decide +kernel) (by first | rfl | decide +kernel)
theorem b_co_yX7_replica : Cond.code yX7_replica cX7_replica 3 (some .int) ∈ BW := bw_at 881 (by decide +kernel) (by first | rfl | decide +kernel)
theorem b_ml_L_52 : Cond.methodLink RL 52 yX7_length ∈ BW := bw_at 882 (by decide +kernel) (by first | rfl | decide +kernel)
theorem b_in_yX7_length : Cond.instanceMethod yX7_length ∈ BW := bw_at 883 (by decide +kernel) (by first | rfl | decide +kernel)
theorem b_se_yX7_length : Cond.selects RX7 yX7_length yX7_length ∈ BW := bw_at 884 (by decide +kernel) (by first | rfl | decide +kernel)
theorem b_co_yX7_length : Cond.code yX7_length cX7_length 1 (some .int) ∈ BW := bw_at 885 (by decide +kernel) (by first | rfl | decide +kernel)
theorem b_ml_L_56 : Cond.methodLink RL 56 yX7_logged ∈ BW := bw_at 886 (by decide +kernel) (by first | rfl | decide +kernel)
theorem b_in_yX7_logged : Cond.instanceMethod yX7_logged ∈ BW := bw_at 887 (by decide +kernel) (by first | rfl | decide +kernel)
theorem b_se_yX7_logged : Cond.selects RX7 yX7_logged yX7_logged ∈ BW := bw_at 888 (by decide +kernel) (by first | rfl | decide +kernel)
theorem b_co_yX7_logged : Cond.code yX7_logged cX7_logged 3 (some .int) ∈ BW := bw_at 889 (by decide +kernel) (by first | rfl | decide +kernel)
theorem b_ml_X7_82 : Cond.methodLink RX7 82 yX7_ofWrite ∈ BW := bw_at 890 (by decide +kernel) (by first | rfl | decide +kernel)
theorem b_in_yX7_ofWrite : Cond.instanceMethod yX7_ofWrite ∈ BW := bw_at 892 (by decide +kernel) (by first | rfl | decide +kernel)
theorem b_co_yX7_ofWrite : Cond.code yX7_ofWrite cX7_ofWrite 3 (some .int) ∈ BW := bw_at 893 (by decide +kernel) (by first | rfl | decide +kernel)
theorem b_ml_L_60 : Cond.methodLink RL 60 yX7_position ∈ BW := bw_at 894 (by decide +kernel) (by first | rfl | decide +kernel)
theorem b_in_yX7_position : Cond.instanceMethod yX7_position ∈ BW := bw_at 895 (by decide +kernel) (by first | rfl | decide +kernel)
theorem b_se_yX7_position : Cond.selects RX7 yX7_position yX7_position ∈ BW := bw_at 896 (by decide +kernel) (by first | rfl | decide +kernel)
theorem b_co_yX7_position : Cond.code yX7_position cX7_position 2 (some .int) ∈ BW := bw_at 897 (by decide +kernel) (by first | rfl | decide +kernel)
theorem b_ml_L_64 : Cond.methodLink RL 64 yX7_version ∈ BW := bw_at 898 (by decide +kernel) (by first | rfl | decide +kernel)
theorem b_in_yX7_version : Cond.instanceMethod yX7_version ∈ BW := bw_at 899 (by decide +kernel) (by first | rfl | decide +kernel)
theorem b_se_yX7_version : Cond.selects RX7 yX7_version yX7_version ∈ BW := bw_at 900 (by decide +kernel) (by first | rfl | decide +kernel)
theorem b_co_yX7_version : Cond.code yX7_version cX7_version 3 (some .int) ∈ BW := bw_at 901 (by decide +kernel) (by first | rfl | decide +kernel)
theorem b_ml_X7_85 : Cond.methodLink RX7 85 yX7_isKey ∈ BW := bw_at 902 (by decide +kernel) (by first | rfl | decide +kernel)
theorem b_st_yX7_isKey : Cond.static yX7_isKey ∈ BW := bw_at 903 (by decide +kernel) (by first | rfl | decide +kernel)
theorem b_co_yX7_isKey : Cond.code yX7_isKey cX7_isKey 1 (some .boolean) ∈ BW := bw_at 904 (by decide +kernel) (by first | rfl | decide +kernel)
theorem b_ml_X7_88 : Cond.methodLink RX7 88 yX7_versionAt ∈ BW := bw_at 905 (by decide +kernel) (by first | rfl | decide +kernel)
theorem b_in_yX7_versionAt : Cond.instanceMethod yX7_versionAt ∈ BW := bw_at 907 (by decide +kernel) (by first | rfl | decide +kernel)
theorem b_co_yX7_versionAt : Cond.code yX7_versionAt cX7_versionAt 4 (some .int) ∈ BW := bw_at 908 (by decide +kernel) (by first | rfl | decide +kernel)
theorem b_ml_L_68 : Cond.methodLink RL 68 yX7_value ∈ BW := bw_at 909 (by decide +kernel) (by first | rfl | decide +kernel)
theorem b_in_yX7_value : Cond.instanceMethod yX7_value ∈ BW := bw_at 910 (by decide +kernel) (by first | rfl | decide +kernel)
theorem b_se_yX7_value : Cond.selects RX7 yX7_value yX7_value ∈ BW := bw_at 911 (by decide +kernel) (by first | rfl | decide +kernel)
theorem b_co_yX7_value : Cond.code yX7_value cX7_value 3 (some .int) ∈ BW := bw_at 912 (by decide +kernel) (by first | rfl | decide +kernel)
theorem b_ml_X7_91 : Cond.methodLink RX7 91 yX7_valueOf ∈ BW := bw_at 913 (by decide +kernel) (by first | rfl | decide +kernel)
theorem b_in_yX7_valueOf : Cond.instanceMethod yX7_valueOf ∈ BW := bw_at 915 (by decide +kernel) (by first | rfl | decide +kernel)
theorem b_co_yX7_valueOf : Cond.code yX7_valueOf cX7_valueOf 2 (some .int) ∈ BW := bw_at 916 (by decide +kernel) (by first | rfl | decide +kernel)
theorem b_ml_L_72 : Cond.methodLink RL 72 yX7_missing ∈ BW := bw_at 917 (by decide +kernel) (by first | rfl | decide +kernel)
theorem b_in_yX7_missing : Cond.instanceMethod yX7_missing ∈ BW := bw_at 918 (by decide +kernel) (by first | rfl | decide +kernel)
theorem b_se_yX7_missing : Cond.selects RX7 yX7_missing yX7_missing ∈ BW := bw_at 919 (by decide +kernel) (by first | rfl | decide +kernel)
theorem b_co_yX7_missing : Cond.code yX7_missing cX7_missing 5 (some .int) ∈ BW := bw_at 920 (by decide +kernel) (by first | rfl | decide +kernel)
theorem b_ml_L_76 : Cond.methodLink RL 76 yX7_answers ∈ BW := bw_at 921 (by decide +kernel) (by first | rfl | decide +kernel)
theorem b_in_yX7_answers : Cond.instanceMethod yX7_answers ∈ BW := bw_at 922 (by decide +kernel) (by first | rfl | decide +kernel)
theorem b_se_yX7_answers : Cond.selects RX7 yX7_answers yX7_answers ∈ BW := bw_at 923 (by decide +kernel) (by first | rfl | decide +kernel)
theorem b_co_yX7_answers : Cond.code yX7_answers cX7_answers 2 (some .int) ∈ BW := bw_at 924 (by decide +kernel) (by first | rfl | decide +kernel)
theorem b_ml_L_81 : Cond.methodLink RL 81 yX7_open ∈ BW := bw_at 925 (by decide +kernel) (by first | rfl | decide +kernel)
theorem b_in_yX7_open : Cond.instanceMethod yX7_open ∈ BW := bw_at 926 (by decide +kernel) (by first | rfl | decide +kernel)
theorem b_se_yX7_open : Cond.selects RX7 yX7_open yX7_open ∈ BW := bw_at 927 (by decide +kernel) (by first | rfl | decide +kernel)
theorem b_co_yX7_open : Cond.code yX7_open cX7_open 6 (some .int) ∈ BW := bw_at 928 (by decide +kernel) (by first | rfl | decide +kernel)
theorem b_ml_L_85 : Cond.methodLink RL 85 yX7_close ∈ BW := bw_at 929 (by decide +kernel) (by first | rfl | decide +kernel)
theorem b_in_yX7_close : Cond.instanceMethod yX7_close ∈ BW := bw_at 930 (by decide +kernel) (by first | rfl | decide +kernel)
theorem b_se_yX7_close : Cond.selects RX7 yX7_close yX7_close ∈ BW := bw_at 931 (by decide +kernel) (by first | rfl | decide +kernel)
theorem b_co_yX7_close : Cond.code yX7_close cX7_close 2 (some .int) ∈ BW := bw_at 932 (by decide +kernel) (by first | rfl | decide +kernel)
theorem b_ml_X7_94 : Cond.methodLink RX7 94 yX7_isSession ∈ BW := bw_at 933 (by decide +kernel) (by first | rfl | decide +kernel)
theorem b_in_yX7_isSession : Cond.instanceMethod yX7_isSession ∈ BW := bw_at 935 (by decide +kernel) (by first | rfl | decide +kernel)
theorem b_co_yX7_isSession : Cond.code yX7_isSession cX7_isSession 2 (some .boolean) ∈ BW := bw_at 936 (by decide +kernel) (by first | rfl | decide +kernel)
theorem b_ml_L_89 : Cond.methodLink RL 89 yX7_move ∈ BW := bw_at 937 (by decide +kernel) (by first | rfl | decide +kernel)
theorem b_in_yX7_move : Cond.instanceMethod yX7_move ∈ BW := bw_at 938 (by decide +kernel) (by first | rfl | decide +kernel)
theorem b_se_yX7_move : Cond.selects RX7 yX7_move yX7_move ∈ BW := bw_at 939 (by decide +kernel) (by first | rfl | decide +kernel)
theorem b_co_yX7_move : Cond.code yX7_move cX7_move 3 (some .int) ∈ BW := bw_at 940 (by decide +kernel) (by first | rfl | decide +kernel)
theorem b_ml_X7_97 : Cond.methodLink RX7 97 yX7_moves ∈ BW := bw_at 941 (by decide +kernel) (by first | rfl | decide +kernel)
theorem b_in_yX7_moves : Cond.instanceMethod yX7_moves ∈ BW := bw_at 943 (by decide +kernel) (by first | rfl | decide +kernel)
theorem b_co_yX7_moves : Cond.code yX7_moves cX7_moves 4 (some .int) ∈ BW := bw_at 944 (by decide +kernel) (by first | rfl | decide +kernel)
theorem b_ml_L_93 : Cond.methodLink RL 93 yX7_change ∈ BW := bw_at 945 (by decide +kernel) (by first | rfl | decide +kernel)
theorem b_in_yX7_change : Cond.instanceMethod yX7_change ∈ BW := bw_at 946 (by decide +kernel) (by first | rfl | decide +kernel)
theorem b_se_yX7_change : Cond.selects RX7 yX7_change yX7_change ∈ BW := bw_at 947 (by decide +kernel) (by first | rfl | decide +kernel)
theorem b_co_yX7_change : Cond.code yX7_change cX7_change 5 (some .int) ∈ BW := bw_at 948 (by decide +kernel) (by first | rfl | decide +kernel)
theorem b_ml_L_97 : Cond.methodLink RL 97 yX7_hand ∈ BW := bw_at 949 (by decide +kernel) (by first | rfl | decide +kernel)
theorem b_in_yX7_hand : Cond.instanceMethod yX7_hand ∈ BW := bw_at 950 (by decide +kernel) (by first | rfl | decide +kernel)
theorem b_se_yX7_hand : Cond.selects RX7 yX7_hand yX7_hand ∈ BW := bw_at 951 (by decide +kernel) (by first | rfl | decide +kernel)
theorem b_co_yX7_hand : Cond.code yX7_hand cX7_hand 4 (some .int) ∈ BW := bw_at 952 (by decide +kernel) (by first | rfl | decide +kernel)
theorem b_ml_X7_103 : Cond.methodLink RX7 103 yX7_whyNotHand ∈ BW := bw_at 953 (by decide +kernel) (by first | rfl | decide +kernel)
theorem b_in_yX7_whyNotHand : Cond.instanceMethod yX7_whyNotHand ∈ BW := bw_at 955 (by decide +kernel) (by first | rfl | decide +kernel)
theorem b_co_yX7_whyNotHand : Cond.code yX7_whyNotHand cX7_whyNotHand 3 (some .int) ∈ BW := bw_at 956 (by decide +kernel) (by first | rfl | decide +kernel)
theorem b_ml_X7_106 : Cond.methodLink RX7 106 yX7_hands ∈ BW := bw_at 957 (by decide +kernel) (by first | rfl | decide +kernel)
theorem b_in_yX7_hands : Cond.instanceMethod yX7_hands ∈ BW := bw_at 959 (by decide +kernel) (by first | rfl | decide +kernel)
theorem b_co_yX7_hands : Cond.code yX7_hands cX7_hands 3 (some .int) ∈ BW := bw_at 960 (by decide +kernel) (by first | rfl | decide +kernel)
theorem b_ml_X7_100 : Cond.methodLink RX7 100 yX7_more ∈ BW := bw_at 961 (by decide +kernel) (by first | rfl | decide +kernel)
theorem b_st_yX7_more : Cond.static yX7_more ∈ BW := bw_at 962 (by decide +kernel) (by first | rfl | decide +kernel)
theorem b_co_yX7_more : Cond.code yX7_more cX7_more 2 (some .int) ∈ BW := bw_at 963 (by decide +kernel) (by first | rfl | decide +kernel)
theorem b_ml_L_101 : Cond.methodLink RL 101 yX7_sessions ∈ BW := bw_at 964 (by decide +kernel) (by first | rfl | decide +kernel)
theorem b_in_yX7_sessions : Cond.instanceMethod yX7_sessions ∈ BW := bw_at 965 (by decide +kernel) (by first | rfl | decide +kernel)
theorem b_se_yX7_sessions : Cond.selects RX7 yX7_sessions yX7_sessions ∈ BW := bw_at 966 (by decide +kernel) (by first | rfl | decide +kernel)
theorem b_co_yX7_sessions : Cond.code yX7_sessions cX7_sessions 3 (some .int) ∈ BW := bw_at 967 (by decide +kernel) (by first | rfl | decide +kernel)
theorem b_ml_L_105 : Cond.methodLink RL 105 yX7_session ∈ BW := bw_at 968 (by decide +kernel) (by first | rfl | decide +kernel)
theorem b_in_yX7_session : Cond.instanceMethod yX7_session ∈ BW := bw_at 969 (by decide +kernel) (by first | rfl | decide +kernel)
theorem b_se_yX7_session : Cond.selects RX7 yX7_session yX7_session ∈ BW := bw_at 970 (by decide +kernel) (by first | rfl | decide +kernel)
theorem b_co_yX7_session : Cond.code yX7_session cX7_session 3 (some .int) ∈ BW := bw_at 971 (by decide +kernel) (by first | rfl | decide +kernel)
theorem b_ml_X7_113 : Cond.methodLink RX7 113 yX7_need ∈ BW := bw_at 972 (by decide +kernel) (by first | rfl | decide +kernel)
theorem b_in_yX7_need : Cond.instanceMethod yX7_need ∈ BW := bw_at 974 (by decide +kernel) (by first | rfl | decide +kernel)
theorem b_co_yX7_need : Cond.code yX7_need cX7_need 2 (some .int) ∈ BW := bw_at 975 (by decide +kernel) (by first | rfl | decide +kernel)
theorem b_ml_X7_109 : Cond.methodLink RX7 109 yX7_has ∈ BW := bw_at 976 (by decide +kernel) (by first | rfl | decide +kernel)
theorem b_in_yX7_has : Cond.instanceMethod yX7_has ∈ BW := bw_at 978 (by decide +kernel) (by first | rfl | decide +kernel)
theorem b_co_yX7_has : Cond.code yX7_has cX7_has 3 (some .boolean) ∈ BW := bw_at 979 (by decide +kernel) (by first | rfl | decide +kernel)
theorem b_ml_L_109 : Cond.methodLink RL 109 yX7_write ∈ BW := bw_at 980 (by decide +kernel) (by first | rfl | decide +kernel)
theorem b_in_yX7_write : Cond.instanceMethod yX7_write ∈ BW := bw_at 981 (by decide +kernel) (by first | rfl | decide +kernel)
theorem b_se_yX7_write : Cond.selects RX7 yX7_write yX7_write ∈ BW := bw_at 982 (by decide +kernel) (by first | rfl | decide +kernel)
theorem b_co_yX7_write : Cond.code yX7_write cX7_write 5 (some .int) ∈ BW := bw_at 983 (by decide +kernel) (by first | rfl | decide +kernel)
theorem b_ml_X7_116 : Cond.methodLink RX7 116 yX7_whyNotWrite ∈ BW := bw_at 984 (by decide +kernel) (by first | rfl | decide +kernel)
theorem b_in_yX7_whyNotWrite : Cond.instanceMethod yX7_whyNotWrite ∈ BW := bw_at 986 (by decide +kernel) (by first | rfl | decide +kernel)
theorem b_co_yX7_whyNotWrite : Cond.code yX7_whyNotWrite cX7_whyNotWrite 4 (some .int) ∈ BW := bw_at 987 (by decide +kernel) (by first | rfl | decide +kernel)
theorem b_ml_X7_120 : Cond.methodLink RX7 120 yX7_writes ∈ BW := bw_at 988 (by decide +kernel) (by first | rfl | decide +kernel)
theorem b_in_yX7_writes : Cond.instanceMethod yX7_writes ∈ BW := bw_at 990 (by decide +kernel) (by first | rfl | decide +kernel)
theorem b_co_yX7_writes : Cond.code yX7_writes cX7_writes 5 (some .int) ∈ BW := bw_at 991 (by decide +kernel) (by first | rfl | decide +kernel)
theorem b_ml_L_113 : Cond.methodLink RL 113 yX7_read ∈ BW := bw_at 992 (by decide +kernel) (by first | rfl | decide +kernel)
theorem b_in_yX7_read : Cond.instanceMethod yX7_read ∈ BW := bw_at 993 (by decide +kernel) (by first | rfl | decide +kernel)
theorem b_se_yX7_read : Cond.selects RX7 yX7_read yX7_read ∈ BW := bw_at 994 (by decide +kernel) (by first | rfl | decide +kernel)
theorem b_co_yX7_read : Cond.code yX7_read cX7_read 4 (some .int) ∈ BW := bw_at 995 (by decide +kernel) (by first | rfl | decide +kernel)
theorem b_ml_X7_136 : Cond.methodLink RX7 136 yX7_whyNotRead ∈ BW := bw_at 996 (by decide +kernel) (by first | rfl | decide +kernel)
theorem b_in_yX7_whyNotRead : Cond.instanceMethod yX7_whyNotRead ∈ BW := bw_at 998 (by decide +kernel) (by first | rfl | decide +kernel)
theorem b_co_yX7_whyNotRead : Cond.code yX7_whyNotRead cX7_whyNotRead 3 (some .int) ∈ BW := bw_at 999 (by decide +kernel) (by first | rfl | decide +kernel)
theorem b_ml_X7_129 : Cond.methodLink RX7 129 yX7_waitsAtHome ∈ BW := bw_at 1000 (by decide +kernel) (by first | rfl | decide +kernel)
theorem b_in_yX7_waitsAtHome : Cond.instanceMethod yX7_waitsAtHome ∈ BW := bw_at 1002 (by decide +kernel) (by first | rfl | decide +kernel)
theorem b_co_yX7_waitsAtHome : Cond.code yX7_waitsAtHome cX7_waitsAtHome 4 (some .int) ∈ BW := bw_at 1003 (by decide +kernel) (by first | rfl | decide +kernel)
theorem b_ml_X7_126 : Cond.methodLink RX7 126 yX7_waitOf ∈ BW := bw_at 1004 (by decide +kernel) (by first | rfl | decide +kernel)
theorem b_in_yX7_waitOf : Cond.instanceMethod yX7_waitOf ∈ BW := bw_at 1006 (by decide +kernel) (by first | rfl | decide +kernel)
theorem b_co_yX7_waitOf : Cond.code yX7_waitOf cX7_waitOf 6 (some .int) ∈ BW := bw_at 1007 (by decide +kernel) (by first | rfl | decide +kernel)
theorem b_ml_X7_123 : Cond.methodLink RX7 123 yX7_needed ∈ BW := bw_at 1008 (by decide +kernel) (by first | rfl | decide +kernel)
theorem b_in_yX7_needed : Cond.instanceMethod yX7_needed ∈ BW := bw_at 1010 (by decide +kernel) (by first | rfl | decide +kernel)
theorem b_co_yX7_needed : Cond.code yX7_needed cX7_needed 4 (some .int) ∈ BW := bw_at 1011 (by decide +kernel) (by first | rfl | decide +kernel)
theorem b_ml_X7_139 : Cond.methodLink RX7 139 yX7_reads ∈ BW := bw_at 1012 (by decide +kernel) (by first | rfl | decide +kernel)
theorem b_in_yX7_reads : Cond.instanceMethod yX7_reads ∈ BW := bw_at 1014 (by decide +kernel) (by first | rfl | decide +kernel)
theorem b_co_yX7_reads : Cond.code yX7_reads cX7_reads 4 (some .int) ∈ BW := bw_at 1015 (by decide +kernel) (by first | rfl | decide +kernel)
theorem b_ml_X7_132 : Cond.methodLink RX7 132 yX7_answer ∈ BW := bw_at 1016 (by decide +kernel) (by first | rfl | decide +kernel)
theorem b_in_yX7_answer : Cond.instanceMethod yX7_answer ∈ BW := bw_at 1018 (by decide +kernel) (by first | rfl | decide +kernel)
theorem b_co_yX7_answer : Cond.code yX7_answer cX7_answer 6 (some .int) ∈ BW := bw_at 1019 (by decide +kernel) (by first | rfl | decide +kernel)
theorem b_ml_L_117 : Cond.methodLink RL 117 yX7_readAt ∈ BW := bw_at 1020 (by decide +kernel) (by first | rfl | decide +kernel)
theorem b_in_yX7_readAt : Cond.instanceMethod yX7_readAt ∈ BW := bw_at 1021 (by decide +kernel) (by first | rfl | decide +kernel)
theorem b_se_yX7_readAt : Cond.selects RX7 yX7_readAt yX7_readAt ∈ BW := bw_at 1022 (by decide +kernel) (by first | rfl | decide +kernel)
theorem b_co_yX7_readAt : Cond.code yX7_readAt cX7_readAt 4 (some .int) ∈ BW := bw_at 1023 (by decide +kernel) (by first | rfl | decide +kernel)
theorem b_ml_L_121 : Cond.methodLink RL 121 yX7_latest ∈ BW := bw_at 1024 (by decide +kernel) (by first | rfl | decide +kernel)
theorem b_in_yX7_latest : Cond.instanceMethod yX7_latest ∈ BW := bw_at 1025 (by decide +kernel) (by first | rfl | decide +kernel)
theorem b_se_yX7_latest : Cond.selects RX7 yX7_latest yX7_latest ∈ BW := bw_at 1026 (by decide +kernel) (by first | rfl | decide +kernel)
theorem b_co_yX7_latest : Cond.code yX7_latest cX7_latest 2 (some .int) ∈ BW := bw_at 1027 (by decide +kernel) (by first | rfl | decide +kernel)
theorem b_ml_L_125 : Cond.methodLink RL 125 yX7_waitFor ∈ BW := bw_at 1028 (by decide +kernel) (by first | rfl | decide +kernel)
theorem b_in_yX7_waitFor : Cond.instanceMethod yX7_waitFor ∈ BW := bw_at 1029 (by decide +kernel) (by first | rfl | decide +kernel)
theorem b_se_yX7_waitFor : Cond.selects RX7 yX7_waitFor yX7_waitFor ∈ BW := bw_at 1030 (by decide +kernel) (by first | rfl | decide +kernel)
theorem b_co_yX7_waitFor : Cond.code yX7_waitFor cX7_waitFor 4 (some .int) ∈ BW := bw_at 1031 (by decide +kernel) (by first | rfl | decide +kernel)
theorem b_ml_L_129 : Cond.methodLink RL 129 yX7_bestReplica ∈ BW := bw_at 1032 (by decide +kernel) (by first | rfl | decide +kernel)
theorem b_in_yX7_bestReplica : Cond.instanceMethod yX7_bestReplica ∈ BW := bw_at 1033 (by decide +kernel) (by first | rfl | decide +kernel)
theorem b_se_yX7_bestReplica : Cond.selects RX7 yX7_bestReplica yX7_bestReplica ∈ BW := bw_at 1034 (by decide +kernel) (by first | rfl | decide +kernel)
theorem b_co_yX7_bestReplica : Cond.code yX7_bestReplica cX7_bestReplica 8 (some .int) ∈ BW := bw_at 1035 (by decide +kernel) (by first | rfl | decide +kernel)
theorem b_ml_L_133 : Cond.methodLink RL 133 yX7_keysAfter ∈ BW := bw_at 1036 (by decide +kernel) (by first | rfl | decide +kernel)
theorem b_in_yX7_keysAfter : Cond.instanceMethod yX7_keysAfter ∈ BW := bw_at 1037 (by decide +kernel) (by first | rfl | decide +kernel)
theorem b_se_yX7_keysAfter : Cond.selects RX7 yX7_keysAfter yX7_keysAfter ∈ BW := bw_at 1038 (by decide +kernel) (by first | rfl | decide +kernel)
theorem b_co_yX7_keysAfter : Cond.code yX7_keysAfter cX7_keysAfter 6 (some .int) ∈ BW := bw_at 1039 (by decide +kernel) (by first | rfl | decide +kernel)
theorem b_ml_L_137 : Cond.methodLink RL 137 yX7_catchUp ∈ BW := bw_at 1040 (by decide +kernel) (by first | rfl | decide +kernel)
theorem b_in_yX7_catchUp : Cond.instanceMethod yX7_catchUp ∈ BW := bw_at 1041 (by decide +kernel) (by first | rfl | decide +kernel)
theorem b_se_yX7_catchUp : Cond.selects RX7 yX7_catchUp yX7_catchUp ∈ BW := bw_at 1042 (by decide +kernel) (by first | rfl | decide +kernel)
theorem b_co_yX7_catchUp : Cond.code yX7_catchUp cX7_catchUp 5 (some .int) ∈ BW := bw_at 1043 (by decide +kernel) (by first | rfl | decide +kernel)
theorem b_ml_L_141 : Cond.methodLink RL 141 yX7_append ∈ BW := bw_at 1044 (by decide +kernel) (by first | rfl | decide +kernel)
theorem b_in_yX7_append : Cond.instanceMethod yX7_append ∈ BW := bw_at 1045 (by decide +kernel) (by first | rfl | decide +kernel)
theorem b_se_yX7_append : Cond.selects RX7 yX7_append yX7_append ∈ BW := bw_at 1046 (by decide +kernel) (by first | rfl | decide +kernel)
theorem b_co_yX7_append : Cond.code yX7_append cX7_append 2 (some .int) ∈ BW := bw_at 1047 (by decide +kernel) (by first | rfl | decide +kernel)
theorem b_ml_L_145 : Cond.methodLink RL 145 yX7_clearText ∈ BW := bw_at 1048 (by decide +kernel) (by first | rfl | decide +kernel)
theorem b_in_yX7_clearText : Cond.instanceMethod yX7_clearText ∈ BW := bw_at 1049 (by decide +kernel) (by first | rfl | decide +kernel)
theorem b_se_yX7_clearText : Cond.selects RX7 yX7_clearText yX7_clearText ∈ BW := bw_at 1050 (by decide +kernel) (by first | rfl | decide +kernel)
theorem b_co_yX7_clearText : Cond.code yX7_clearText cX7_clearText 2 (some .int) ∈ BW := bw_at 1051 (by decide +kernel) (by first | rfl | decide +kernel)
theorem b_ml_L_149 : Cond.methodLink RL 149 yX7_errorPosition ∈ BW := bw_at 1052 (by decide +kernel) (by first | rfl | decide +kernel)
theorem b_in_yX7_errorPosition : Cond.instanceMethod yX7_errorPosition ∈ BW := bw_at 1053 (by decide +kernel) (by first | rfl | decide +kernel)
theorem b_se_yX7_errorPosition : Cond.selects RX7 yX7_errorPosition yX7_errorPosition ∈ BW := bw_at 1054 (by decide +kernel) (by first | rfl | decide +kernel)
theorem b_co_yX7_errorPosition : Cond.code yX7_errorPosition cX7_errorPosition 2 (some .int) ∈ BW := bw_at 1055 (by decide +kernel) (by first | rfl | decide +kernel)
theorem b_ml_X7_171 : Cond.methodLink RX7 171 yX7_readCommand ∈ BW := bw_at 1056 (by decide +kernel) (by first | rfl | decide +kernel)
theorem b_in_yX7_readCommand : Cond.instanceMethod yX7_readCommand ∈ BW := bw_at 1058 (by decide +kernel) (by first | rfl | decide +kernel)
theorem b_co_yX7_readCommand : Cond.code yX7_readCommand cX7_readCommand 3 none ∈ BW := bw_at 1059 (by decide +kernel) (by first | rfl | decide +kernel)
theorem b_ml_X7_151 : Cond.methodLink RX7 151 yX7_letter ∈ BW := bw_at 1060 (by decide +kernel) (by first | rfl | decide +kernel)
theorem b_in_yX7_letter : Cond.instanceMethod yX7_letter ∈ BW := bw_at 1062 (by decide +kernel) (by first | rfl | decide +kernel)
theorem b_co_yX7_letter : Cond.code yX7_letter cX7_letter 1 (some .int) ∈ BW := bw_at 1063 (by decide +kernel) (by first | rfl | decide +kernel)
theorem b_ml_X7_155 : Cond.methodLink RX7 155 yX7_wants ∈ BW := bw_at 1064 (by decide +kernel) (by first | rfl | decide +kernel)
theorem b_in_yX7_wants : Cond.instanceMethod yX7_wants ∈ BW := bw_at 1066 (by decide +kernel) (by first | rfl | decide +kernel)
theorem b_co_yX7_wants : Cond.code yX7_wants cX7_wants 2 none ∈ BW := bw_at 1067 (by decide +kernel) (by first | rfl | decide +kernel)
theorem b_ml_X7_165 : Cond.methodLink RX7 165 yX7_number ∈ BW := bw_at 1068 (by decide +kernel) (by first | rfl | decide +kernel)
theorem b_in_yX7_number : Cond.instanceMethod yX7_number ∈ BW := bw_at 1070 (by decide +kernel) (by first | rfl | decide +kernel)
theorem b_co_yX7_number : Cond.code yX7_number cX7_number 3 (some .int) ∈ BW := bw_at 1071 (by decide +kernel) (by first | rfl | decide +kernel)
theorem b_ml_X7_159 : Cond.methodLink RX7 159 yX7_digit ∈ BW := bw_at 1072 (by decide +kernel) (by first | rfl | decide +kernel)
theorem b_in_yX7_digit : Cond.instanceMethod yX7_digit ∈ BW := bw_at 1074 (by decide +kernel) (by first | rfl | decide +kernel)
theorem b_co_yX7_digit : Cond.code yX7_digit cX7_digit 2 (some .int) ∈ BW := bw_at 1075 (by decide +kernel) (by first | rfl | decide +kernel)
theorem b_ml_X7_168 : Cond.methodLink RX7 168 yX7_place ∈ BW := bw_at 1076 (by decide +kernel) (by first | rfl | decide +kernel)
theorem b_in_yX7_place : Cond.instanceMethod yX7_place ∈ BW := bw_at 1078 (by decide +kernel) (by first | rfl | decide +kernel)
theorem b_co_yX7_place : Cond.code yX7_place cX7_place 2 (some .int) ∈ BW := bw_at 1079 (by decide +kernel) (by first | rfl | decide +kernel)
theorem b_ml_L_153 : Cond.methodLink RL 153 yX7_execute ∈ BW := bw_at 1080 (by decide +kernel) (by first | rfl | decide +kernel)
theorem b_in_yX7_execute : Cond.instanceMethod yX7_execute ∈ BW := bw_at 1081 (by decide +kernel) (by first | rfl | decide +kernel)
theorem b_se_yX7_execute : Cond.selects RX7 yX7_execute yX7_execute ∈ BW := bw_at 1082 (by decide +kernel) (by first | rfl | decide +kernel)
theorem b_co_yX7_execute : Cond.code yX7_execute cX7_execute 2 (some .int) ∈ BW := bw_at 1083 (by decide +kernel) (by first | rfl | decide +kernel)
theorem b_ml_X7_174 : Cond.methodLink RX7 174 yX7_errorPosition ∈ BW := bw_at 1084 (by decide +kernel) (by first | rfl | decide +kernel)
theorem b_ml_X7_177 : Cond.methodLink RX7 177 yX7_executeOne ∈ BW := bw_at 1085 (by decide +kernel) (by first | rfl | decide +kernel)
theorem b_in_yX7_executeOne : Cond.instanceMethod yX7_executeOne ∈ BW := bw_at 1087 (by decide +kernel) (by first | rfl | decide +kernel)
theorem b_co_yX7_executeOne : Cond.code yX7_executeOne cX7_executeOne 6 (some .int) ∈ BW := bw_at 1088 (by decide +kernel) (by first | rfl | decide +kernel)
theorem b_X0 : ∀ w ∈ wsX00, w ∈ BW := bw_sub _ [231, 233, 235] (by decide +kernel) (by decide +kernel)
theorem b_X1 : ∀ w ∈ wsX10, w ∈ BW := bw_sub _ [99, 101, 103, 105] (by decide +kernel) (by decide +kernel)
theorem b_X2 : ∀ w ∈ wsX20, w ∈ BW := bw_sub _ [131, 133, 135, 137, 139] (by decide +kernel) (by decide +kernel)
theorem b_X3 : ∀ w ∈ wsX30, w ∈ BW := bw_sub _ [169, 171, 173, 175, 177, 179, 181, 183, 185, 187, 189] (by decide +kernel) (by decide +kernel)
theorem b_X4 : ∀ w ∈ wsX40, w ∈ BW := bw_sub _ [204, 206, 208, 210, 212, 214, 216] (by decide +kernel) (by decide +kernel)
theorem b_X5 : ∀ w ∈ wsX50, w ∈ BW := bw_sub _ [251, 253, 255, 257, 259, 261] (by decide +kernel) (by decide +kernel)
theorem b_X6 : ∀ w ∈ wsX60, w ∈ BW := bw_sub _ [269, 271, 273, 275, 277] (by decide +kernel) (by decide +kernel)
theorem b_X7 : ∀ w ∈ wsX70, w ∈ BW := bw_sub _ [759, 761, 763, 765, 767, 769, 771, 773, 775, 777, 779] (by decide +kernel) (by decide +kernel)
def nestWs : List Cond := [Cond.methodLinkNest RX4 11 yX1_init RX6, Cond.methodLinkNest RX4 43 yX2_init RX6, Cond.methodLinkNest RX4 44 yX3_init RX6, Cond.methodLinkNest RX6 32 yX5_init RX6, Cond.methodLinkNest RX4 45 yX6_isWithin RX6, Cond.methodLinkNest RX0 33 yX6_isError RX6, Cond.methodLinkNest RX3 63 yX6_isKey RX6, Cond.methodLinkNest RX5 55 yX6_isWithin RX6]
end
section
theorem dX0_init_0 : decode cX0_init 0 = .ok (.aload_n 0, 1) := by decide +kernel
theorem dX0_init_1 : decode cX0_init 1 = .ok (.invokespecial 3, 3) := by decide +kernel
theorem dX0_init_4 : decode cX0_init 4 = .ok (.aload_n 0, 1) := by decide +kernel
theorem dX0_init_5 : decode cX0_init 5 = .ok (.bipush 6, 2) := by decide +kernel
theorem dX0_init_7 : decode cX0_init 7 = .ok (.anewarray 11, 3) := by decide +kernel
theorem dX0_init_10 : decode cX0_init 10 = .ok (.putfield 13, 3) := by decide +kernel
theorem dX0_init_13 : decode cX0_init 13 = .ok (.aload_n 0, 1) := by decide +kernel
theorem dX0_init_14 : decode cX0_init 14 = .ok (.iconst 0, 1) := by decide +kernel
theorem dX0_init_15 : decode cX0_init 15 = .ok (.putfield 17, 3) := by decide +kernel
theorem dX0_init_18 : decode cX0_init 18 = .ok (.aload_n 0, 1) := by decide +kernel
theorem dX0_init_19 : decode cX0_init 19 = .ok (.iconst 0, 1) := by decide +kernel
theorem dX0_init_20 : decode cX0_init 20 = .ok (.putfield 21, 3) := by decide +kernel
theorem dX0_init_23 : decode cX0_init 23 = .ok (.iconst 0, 1) := by decide +kernel
theorem dX0_init_24 : decode cX0_init 24 = .ok (.istore_n 1, 1) := by decide +kernel
theorem dX0_init_25 : decode cX0_init 25 = .ok (.iload_n 1, 1) := by decide +kernel
theorem dX0_init_26 : decode cX0_init 26 = .ok (.bipush 6, 2) := by decide +kernel
theorem dX0_init_28 : decode cX0_init 28 = .ok (.if_icmp .ge 22, 3) := by decide +kernel
theorem dX0_init_31 : decode cX0_init 31 = .ok (.aload_n 0, 1) := by decide +kernel
theorem dX0_init_32 : decode cX0_init 32 = .ok (.getfield 13, 3) := by decide +kernel
theorem dX0_init_35 : decode cX0_init 35 = .ok (.iload_n 1, 1) := by decide +kernel
theorem dX0_init_36 : decode cX0_init 36 = .ok (.new 11, 3) := by decide +kernel
theorem dX0_init_39 : decode cX0_init 39 = .ok (.dup, 1) := by decide +kernel
theorem dX0_init_40 : decode cX0_init 40 = .ok (.invokespecial 24, 3) := by decide +kernel
theorem dX0_init_43 : decode cX0_init 43 = .ok (.aastore, 1) := by decide +kernel
theorem dX0_init_44 : decode cX0_init 44 = .ok (.iinc 1 1, 3) := by decide +kernel
theorem dX0_init_47 : decode cX0_init 47 = .ok (.goto (-22), 3) := by decide +kernel
theorem dX0_init_50 : decode cX0_init 50 = .ok (.return_, 1) := by decide +kernel
theorem dX0_prepare_0 : decode cX0_prepare 0 = .ok (.aload_n 0, 1) := by decide +kernel
theorem dX0_prepare_1 : decode cX0_prepare 1 = .ok (.aload_n 0, 1) := by decide +kernel
theorem dX0_prepare_2 : decode cX0_prepare 2 = .ok (.getfield 21, 3) := by decide +kernel
theorem dX0_prepare_5 : decode cX0_prepare 5 = .ok (.invokevirtual 25, 3) := by decide +kernel
theorem dX0_prepare_8 : decode cX0_prepare 8 = .ok (.astore_n 2, 1) := by decide +kernel
theorem dX0_prepare_9 : decode cX0_prepare 9 = .ok (.aload_n 2, 1) := by decide +kernel
theorem dX0_prepare_10 : decode cX0_prepare 10 = .ok (.ifnull 8, 3) := by decide +kernel
theorem dX0_prepare_13 : decode cX0_prepare 13 = .ok (.aload_n 2, 1) := by decide +kernel
theorem dX0_prepare_14 : decode cX0_prepare 14 = .ok (.aload_n 1, 1) := by decide +kernel
theorem dX0_prepare_15 : decode cX0_prepare 15 = .ok (.invokevirtual 29, 3) := by decide +kernel
theorem dX0_prepare_18 : decode cX0_prepare 18 = .ok (.return_, 1) := by decide +kernel
theorem dX0_keepUnlessError_0 : decode cX0_keepUnlessError 0 = .ok (.iload_n 1, 1) := by decide +kernel
theorem dX0_keepUnlessError_1 : decode cX0_keepUnlessError 1 = .ok (.invokestatic 33, 3) := by decide +kernel
theorem dX0_keepUnlessError_4 : decode cX0_keepUnlessError 4 = .ok (.ifCond .ne 39, 3) := by decide +kernel
theorem dX0_keepUnlessError_7 : decode cX0_keepUnlessError 7 = .ok (.aload_n 0, 1) := by decide +kernel
theorem dX0_keepUnlessError_8 : decode cX0_keepUnlessError 8 = .ok (.getfield 21, 3) := by decide +kernel
theorem dX0_keepUnlessError_11 : decode cX0_keepUnlessError 11 = .ok (.iconst 5, 1) := by decide +kernel
theorem dX0_keepUnlessError_12 : decode cX0_keepUnlessError 12 = .ok (.if_icmp .ge 16, 3) := by decide +kernel
theorem dX0_keepUnlessError_15 : decode cX0_keepUnlessError 15 = .ok (.aload_n 0, 1) := by decide +kernel
theorem dX0_keepUnlessError_16 : decode cX0_keepUnlessError 16 = .ok (.dup, 1) := by decide +kernel
theorem dX0_keepUnlessError_17 : decode cX0_keepUnlessError 17 = .ok (.getfield 21, 3) := by decide +kernel
theorem dX0_keepUnlessError_20 : decode cX0_keepUnlessError 20 = .ok (.iconst 1, 1) := by decide +kernel
theorem dX0_keepUnlessError_21 : decode cX0_keepUnlessError 21 = .ok (.iadd, 1) := by decide +kernel
theorem dX0_keepUnlessError_22 : decode cX0_keepUnlessError 22 = .ok (.putfield 21, 3) := by decide +kernel
theorem dX0_keepUnlessError_25 : decode cX0_keepUnlessError 25 = .ok (.goto 18, 3) := by decide +kernel
theorem dX0_keepUnlessError_28 : decode cX0_keepUnlessError 28 = .ok (.aload_n 0, 1) := by decide +kernel
theorem dX0_keepUnlessError_29 : decode cX0_keepUnlessError 29 = .ok (.aload_n 0, 1) := by decide +kernel
theorem dX0_keepUnlessError_30 : decode cX0_keepUnlessError 30 = .ok (.getfield 17, 3) := by decide +kernel
theorem dX0_keepUnlessError_33 : decode cX0_keepUnlessError 33 = .ok (.iconst 1, 1) := by decide +kernel
theorem dX0_keepUnlessError_34 : decode cX0_keepUnlessError 34 = .ok (.iadd, 1) := by decide +kernel
theorem dX0_keepUnlessError_35 : decode cX0_keepUnlessError 35 = .ok (.bipush 6, 2) := by decide +kernel
theorem dX0_keepUnlessError_37 : decode cX0_keepUnlessError 37 = .ok (.invokestatic 37, 3) := by decide +kernel
theorem dX0_keepUnlessError_40 : decode cX0_keepUnlessError 40 = .ok (.putfield 17, 3) := by decide +kernel
theorem dX0_keepUnlessError_43 : decode cX0_keepUnlessError 43 = .ok (.iload_n 1, 1) := by decide +kernel
theorem dX0_keepUnlessError_44 : decode cX0_keepUnlessError 44 = .ok (.ireturn, 1) := by decide +kernel
theorem dX0_takeLatest_0 : decode cX0_takeLatest 0 = .ok (.aload_n 0, 1) := by decide +kernel
theorem dX0_takeLatest_1 : decode cX0_takeLatest 1 = .ok (.getfield 21, 3) := by decide +kernel
theorem dX0_takeLatest_4 : decode cX0_takeLatest 4 = .ok (.ifCond .le 16, 3) := by decide +kernel
theorem dX0_takeLatest_7 : decode cX0_takeLatest 7 = .ok (.aload_n 0, 1) := by decide +kernel
theorem dX0_takeLatest_8 : decode cX0_takeLatest 8 = .ok (.aload_n 0, 1) := by decide +kernel
theorem dX0_takeLatest_9 : decode cX0_takeLatest 9 = .ok (.getfield 21, 3) := by decide +kernel
theorem dX0_takeLatest_12 : decode cX0_takeLatest 12 = .ok (.iconst 1, 1) := by decide +kernel
theorem dX0_takeLatest_13 : decode cX0_takeLatest 13 = .ok (.isub, 1) := by decide +kernel
theorem dX0_takeLatest_14 : decode cX0_takeLatest 14 = .ok (.invokevirtual 25, 3) := by decide +kernel
theorem dX0_takeLatest_17 : decode cX0_takeLatest 17 = .ok (.goto 4, 3) := by decide +kernel
theorem dX0_takeLatest_20 : decode cX0_takeLatest 20 = .ok (.aconst_null, 1) := by decide +kernel
theorem dX0_takeLatest_21 : decode cX0_takeLatest 21 = .ok (.astore_n 2, 1) := by decide +kernel
theorem dX0_takeLatest_22 : decode cX0_takeLatest 22 = .ok (.aload_n 2, 1) := by decide +kernel
theorem dX0_takeLatest_23 : decode cX0_takeLatest 23 = .ok (.ifnonnull 6, 3) := by decide +kernel
theorem dX0_takeLatest_26 : decode cX0_takeLatest 26 = .ok (.bipush (-3), 2) := by decide +kernel
theorem dX0_takeLatest_28 : decode cX0_takeLatest 28 = .ok (.ireturn, 1) := by decide +kernel
theorem dX0_takeLatest_29 : decode cX0_takeLatest 29 = .ok (.aload_n 1, 1) := by decide +kernel
theorem dX0_takeLatest_30 : decode cX0_takeLatest 30 = .ok (.aload_n 2, 1) := by decide +kernel
theorem dX0_takeLatest_31 : decode cX0_takeLatest 31 = .ok (.invokevirtual 29, 3) := by decide +kernel
theorem dX0_takeLatest_34 : decode cX0_takeLatest 34 = .ok (.aload_n 0, 1) := by decide +kernel
theorem dX0_takeLatest_35 : decode cX0_takeLatest 35 = .ok (.dup, 1) := by decide +kernel
theorem dX0_takeLatest_36 : decode cX0_takeLatest 36 = .ok (.getfield 21, 3) := by decide +kernel
theorem dX0_takeLatest_39 : decode cX0_takeLatest 39 = .ok (.iconst 1, 1) := by decide +kernel
theorem dX0_takeLatest_40 : decode cX0_takeLatest 40 = .ok (.isub, 1) := by decide +kernel
theorem dX0_takeLatest_41 : decode cX0_takeLatest 41 = .ok (.putfield 21, 3) := by decide +kernel
theorem dX0_takeLatest_44 : decode cX0_takeLatest 44 = .ok (.aload_n 0, 1) := by decide +kernel
theorem dX0_takeLatest_45 : decode cX0_takeLatest 45 = .ok (.getfield 21, 3) := by decide +kernel
theorem dX0_takeLatest_48 : decode cX0_takeLatest 48 = .ok (.ireturn, 1) := by decide +kernel
theorem dX0_stateAfterOldest_0 : decode cX0_stateAfterOldest 0 = .ok (.aload_n 0, 1) := by decide +kernel
theorem dX0_stateAfterOldest_1 : decode cX0_stateAfterOldest 1 = .ok (.getfield 13, 3) := by decide +kernel
theorem dX0_stateAfterOldest_4 : decode cX0_stateAfterOldest 4 = .ok (.aload_n 0, 1) := by decide +kernel
theorem dX0_stateAfterOldest_5 : decode cX0_stateAfterOldest 5 = .ok (.getfield 17, 3) := by decide +kernel
theorem dX0_stateAfterOldest_8 : decode cX0_stateAfterOldest 8 = .ok (.iload_n 1, 1) := by decide +kernel
theorem dX0_stateAfterOldest_9 : decode cX0_stateAfterOldest 9 = .ok (.iadd, 1) := by decide +kernel
theorem dX0_stateAfterOldest_10 : decode cX0_stateAfterOldest 10 = .ok (.bipush 6, 2) := by decide +kernel
theorem dX0_stateAfterOldest_12 : decode cX0_stateAfterOldest 12 = .ok (.invokestatic 37, 3) := by decide +kernel
theorem dX0_stateAfterOldest_15 : decode cX0_stateAfterOldest 15 = .ok (.aaload, 1) := by decide +kernel
theorem dX0_stateAfterOldest_16 : decode cX0_stateAfterOldest 16 = .ok (.areturn, 1) := by decide +kernel
theorem dX1_init_0 : decode cX1_init 0 = .ok (.aload_n 0, 1) := by decide +kernel
theorem dX1_init_1 : decode cX1_init 1 = .ok (.invokespecial 3, 3) := by decide +kernel
theorem dX1_init_4 : decode cX1_init 4 = .ok (.aload_n 0, 1) := by decide +kernel
theorem dX1_init_5 : decode cX1_init 5 = .ok (.iconst 0, 1) := by decide +kernel
theorem dX1_init_6 : decode cX1_init 6 = .ok (.putfield 9, 3) := by decide +kernel
theorem dX1_init_9 : decode cX1_init 9 = .ok (.aload_n 0, 1) := by decide +kernel
theorem dX1_init_10 : decode cX1_init 10 = .ok (.sipush 200, 3) := by decide +kernel
theorem dX1_init_13 : decode cX1_init 13 = .ok (.newarray .int, 2) := by decide +kernel
theorem dX1_init_15 : decode cX1_init 15 = .ok (.putfield 15, 3) := by decide +kernel
theorem dX1_init_18 : decode cX1_init 18 = .ok (.aload_n 0, 1) := by decide +kernel
theorem dX1_init_19 : decode cX1_init 19 = .ok (.sipush 200, 3) := by decide +kernel
theorem dX1_init_22 : decode cX1_init 22 = .ok (.newarray .int, 2) := by decide +kernel
theorem dX1_init_24 : decode cX1_init 24 = .ok (.putfield 19, 3) := by decide +kernel
theorem dX1_init_27 : decode cX1_init 27 = .ok (.aload_n 0, 1) := by decide +kernel
theorem dX1_init_28 : decode cX1_init 28 = .ok (.sipush 200, 3) := by decide +kernel
theorem dX1_init_31 : decode cX1_init 31 = .ok (.newarray .int, 2) := by decide +kernel
theorem dX1_init_33 : decode cX1_init 33 = .ok (.putfield 22, 3) := by decide +kernel
theorem dX1_init_36 : decode cX1_init 36 = .ok (.return_, 1) := by decide +kernel
theorem dX1_contains_0 : decode cX1_contains 0 = .ok (.iload_n 1, 1) := by decide +kernel
theorem dX1_contains_1 : decode cX1_contains 1 = .ok (.iconst 1, 1) := by decide +kernel
theorem dX1_contains_2 : decode cX1_contains 2 = .ok (.if_icmp .lt 22, 3) := by decide +kernel
theorem dX1_contains_5 : decode cX1_contains 5 = .ok (.iload_n 1, 1) := by decide +kernel
theorem dX1_contains_6 : decode cX1_contains 6 = .ok (.aload_n 0, 1) := by decide +kernel
theorem dX1_contains_7 : decode cX1_contains 7 = .ok (.getfield 9, 3) := by decide +kernel
theorem dX1_contains_10 : decode cX1_contains 10 = .ok (.if_icmp .gt 14, 3) := by decide +kernel
theorem dX1_contains_13 : decode cX1_contains 13 = .ok (.iload_n 1, 1) := by decide +kernel
theorem dX1_contains_14 : decode cX1_contains 14 = .ok (.sipush 200, 3) := by decide +kernel
theorem dX1_contains_17 : decode cX1_contains 17 = .ok (.if_icmp .gt 7, 3) := by decide +kernel
theorem dX1_contains_20 : decode cX1_contains 20 = .ok (.iconst 1, 1) := by decide +kernel
theorem dX1_contains_21 : decode cX1_contains 21 = .ok (.goto 4, 3) := by decide +kernel
theorem dX1_contains_24 : decode cX1_contains 24 = .ok (.iconst 0, 1) := by decide +kernel
theorem dX1_contains_25 : decode cX1_contains 25 = .ok (.ireturn, 1) := by decide +kernel
theorem dX1_keyOf_0 : decode cX1_keyOf 0 = .ok (.aload_n 0, 1) := by decide +kernel
theorem dX1_keyOf_1 : decode cX1_keyOf 1 = .ok (.iload_n 1, 1) := by decide +kernel
theorem dX1_keyOf_2 : decode cX1_keyOf 2 = .ok (.invokevirtual 25, 3) := by decide +kernel
theorem dX1_keyOf_5 : decode cX1_keyOf 5 = .ok (.ifCond .eq 14, 3) := by decide +kernel
theorem dX1_keyOf_8 : decode cX1_keyOf 8 = .ok (.aload_n 0, 1) := by decide +kernel
theorem dX1_keyOf_9 : decode cX1_keyOf 9 = .ok (.getfield 15, 3) := by decide +kernel
theorem dX1_keyOf_12 : decode cX1_keyOf 12 = .ok (.iload_n 1, 1) := by decide +kernel
theorem dX1_keyOf_13 : decode cX1_keyOf 13 = .ok (.iconst 1, 1) := by decide +kernel
theorem dX1_keyOf_14 : decode cX1_keyOf 14 = .ok (.isub, 1) := by decide +kernel
theorem dX1_keyOf_15 : decode cX1_keyOf 15 = .ok (.iaload, 1) := by decide +kernel
theorem dX1_keyOf_16 : decode cX1_keyOf 16 = .ok (.goto 5, 3) := by decide +kernel
theorem dX1_keyOf_19 : decode cX1_keyOf 19 = .ok (.bipush (-6), 2) := by decide +kernel
theorem dX1_keyOf_21 : decode cX1_keyOf 21 = .ok (.ireturn, 1) := by decide +kernel
theorem dX1_valueOf_0 : decode cX1_valueOf 0 = .ok (.aload_n 0, 1) := by decide +kernel
theorem dX1_valueOf_1 : decode cX1_valueOf 1 = .ok (.iload_n 1, 1) := by decide +kernel
theorem dX1_valueOf_2 : decode cX1_valueOf 2 = .ok (.invokevirtual 25, 3) := by decide +kernel
theorem dX1_valueOf_5 : decode cX1_valueOf 5 = .ok (.ifCond .eq 14, 3) := by decide +kernel
theorem dX1_valueOf_8 : decode cX1_valueOf 8 = .ok (.aload_n 0, 1) := by decide +kernel
theorem dX1_valueOf_9 : decode cX1_valueOf 9 = .ok (.getfield 19, 3) := by decide +kernel
theorem dX1_valueOf_12 : decode cX1_valueOf 12 = .ok (.iload_n 1, 1) := by decide +kernel
theorem dX1_valueOf_13 : decode cX1_valueOf 13 = .ok (.iconst 1, 1) := by decide +kernel
theorem dX1_valueOf_14 : decode cX1_valueOf 14 = .ok (.isub, 1) := by decide +kernel
theorem dX1_valueOf_15 : decode cX1_valueOf 15 = .ok (.iaload, 1) := by decide +kernel
theorem dX1_valueOf_16 : decode cX1_valueOf 16 = .ok (.goto 5, 3) := by decide +kernel
theorem dX1_valueOf_19 : decode cX1_valueOf 19 = .ok (.bipush (-6), 2) := by decide +kernel
theorem dX1_valueOf_21 : decode cX1_valueOf 21 = .ok (.ireturn, 1) := by decide +kernel
theorem dX1_writerOf_0 : decode cX1_writerOf 0 = .ok (.aload_n 0, 1) := by decide +kernel
theorem dX1_writerOf_1 : decode cX1_writerOf 1 = .ok (.iload_n 1, 1) := by decide +kernel
theorem dX1_writerOf_2 : decode cX1_writerOf 2 = .ok (.invokevirtual 25, 3) := by decide +kernel
theorem dX1_writerOf_5 : decode cX1_writerOf 5 = .ok (.ifCond .eq 14, 3) := by decide +kernel
theorem dX1_writerOf_8 : decode cX1_writerOf 8 = .ok (.aload_n 0, 1) := by decide +kernel
theorem dX1_writerOf_9 : decode cX1_writerOf 9 = .ok (.getfield 22, 3) := by decide +kernel
theorem dX1_writerOf_12 : decode cX1_writerOf 12 = .ok (.iload_n 1, 1) := by decide +kernel
theorem dX1_writerOf_13 : decode cX1_writerOf 13 = .ok (.iconst 1, 1) := by decide +kernel
theorem dX1_writerOf_14 : decode cX1_writerOf 14 = .ok (.isub, 1) := by decide +kernel
theorem dX1_writerOf_15 : decode cX1_writerOf 15 = .ok (.iaload, 1) := by decide +kernel
theorem dX1_writerOf_16 : decode cX1_writerOf 16 = .ok (.goto 5, 3) := by decide +kernel
theorem dX1_writerOf_19 : decode cX1_writerOf 19 = .ok (.bipush (-6), 2) := by decide +kernel
theorem dX1_writerOf_21 : decode cX1_writerOf 21 = .ok (.ireturn, 1) := by decide +kernel
theorem dX1_add_0 : decode cX1_add 0 = .ok (.aload_n 0, 1) := by decide +kernel
theorem dX1_add_1 : decode cX1_add 1 = .ok (.getfield 9, 3) := by decide +kernel
theorem dX1_add_4 : decode cX1_add 4 = .ok (.ifCond .lt 13, 3) := by decide +kernel
theorem dX1_add_7 : decode cX1_add 7 = .ok (.aload_n 0, 1) := by decide +kernel
theorem dX1_add_8 : decode cX1_add 8 = .ok (.getfield 9, 3) := by decide +kernel
theorem dX1_add_11 : decode cX1_add 11 = .ok (.sipush 200, 3) := by decide +kernel
theorem dX1_add_14 : decode cX1_add 14 = .ok (.if_icmp .lt 6, 3) := by decide +kernel
theorem dX1_add_17 : decode cX1_add 17 = .ok (.bipush (-4), 2) := by decide +kernel
theorem dX1_add_19 : decode cX1_add 19 = .ok (.ireturn, 1) := by decide +kernel
theorem dX1_add_20 : decode cX1_add 20 = .ok (.aload_n 0, 1) := by decide +kernel
theorem dX1_add_21 : decode cX1_add 21 = .ok (.getfield 15, 3) := by decide +kernel
theorem dX1_add_24 : decode cX1_add 24 = .ok (.aload_n 0, 1) := by decide +kernel
theorem dX1_add_25 : decode cX1_add 25 = .ok (.getfield 9, 3) := by decide +kernel
theorem dX1_add_28 : decode cX1_add 28 = .ok (.iload_n 1, 1) := by decide +kernel
theorem dX1_add_29 : decode cX1_add 29 = .ok (.iastore, 1) := by decide +kernel
theorem dX1_add_30 : decode cX1_add 30 = .ok (.aload_n 0, 1) := by decide +kernel
theorem dX1_add_31 : decode cX1_add 31 = .ok (.getfield 19, 3) := by decide +kernel
theorem dX1_add_34 : decode cX1_add 34 = .ok (.aload_n 0, 1) := by decide +kernel
theorem dX1_add_35 : decode cX1_add 35 = .ok (.getfield 9, 3) := by decide +kernel
theorem dX1_add_38 : decode cX1_add 38 = .ok (.iload_n 2, 1) := by decide +kernel
theorem dX1_add_39 : decode cX1_add 39 = .ok (.iastore, 1) := by decide +kernel
theorem dX1_add_40 : decode cX1_add 40 = .ok (.aload_n 0, 1) := by decide +kernel
theorem dX1_add_41 : decode cX1_add 41 = .ok (.getfield 22, 3) := by decide +kernel
theorem dX1_add_44 : decode cX1_add 44 = .ok (.aload_n 0, 1) := by decide +kernel
theorem dX1_add_45 : decode cX1_add 45 = .ok (.getfield 9, 3) := by decide +kernel
theorem dX1_add_48 : decode cX1_add 48 = .ok (.iload_n 3, 1) := by decide +kernel
theorem dX1_add_49 : decode cX1_add 49 = .ok (.iastore, 1) := by decide +kernel
theorem dX1_add_50 : decode cX1_add 50 = .ok (.aload_n 0, 1) := by decide +kernel
theorem dX1_add_51 : decode cX1_add 51 = .ok (.dup, 1) := by decide +kernel
theorem dX1_add_52 : decode cX1_add 52 = .ok (.getfield 9, 3) := by decide +kernel
theorem dX1_add_55 : decode cX1_add 55 = .ok (.iconst 1, 1) := by decide +kernel
theorem dX1_add_56 : decode cX1_add 56 = .ok (.iadd, 1) := by decide +kernel
theorem dX1_add_57 : decode cX1_add 57 = .ok (.putfield 9, 3) := by decide +kernel
theorem dX1_add_60 : decode cX1_add 60 = .ok (.aload_n 0, 1) := by decide +kernel
theorem dX1_add_61 : decode cX1_add 61 = .ok (.getfield 9, 3) := by decide +kernel
theorem dX1_add_64 : decode cX1_add 64 = .ok (.ireturn, 1) := by decide +kernel
theorem dX1_versionAt_0 : decode cX1_versionAt 0 = .ok (.iload_n 1, 1) := by decide +kernel
theorem dX1_versionAt_1 : decode cX1_versionAt 1 = .ok (.aload_n 0, 1) := by decide +kernel
theorem dX1_versionAt_2 : decode cX1_versionAt 2 = .ok (.getfield 9, 3) := by decide +kernel
theorem dX1_versionAt_5 : decode cX1_versionAt 5 = .ok (.invokestatic 29, 3) := by decide +kernel
theorem dX1_versionAt_8 : decode cX1_versionAt 8 = .ok (.istore_n 3, 1) := by decide +kernel
theorem dX1_versionAt_9 : decode cX1_versionAt 9 = .ok (.iload_n 3, 1) := by decide +kernel
theorem dX1_versionAt_10 : decode cX1_versionAt 10 = .ok (.ifCond .le 18, 3) := by decide +kernel
theorem dX1_versionAt_13 : decode cX1_versionAt 13 = .ok (.aload_n 0, 1) := by decide +kernel
theorem dX1_versionAt_14 : decode cX1_versionAt 14 = .ok (.iload_n 3, 1) := by decide +kernel
theorem dX1_versionAt_15 : decode cX1_versionAt 15 = .ok (.invokevirtual 35, 3) := by decide +kernel
theorem dX1_versionAt_18 : decode cX1_versionAt 18 = .ok (.iload_n 2, 1) := by decide +kernel
theorem dX1_versionAt_19 : decode cX1_versionAt 19 = .ok (.if_icmp .eq 9, 3) := by decide +kernel
theorem dX1_versionAt_22 : decode cX1_versionAt 22 = .ok (.iinc 3 (-1), 3) := by decide +kernel
theorem dX1_versionAt_25 : decode cX1_versionAt 25 = .ok (.goto (-16), 3) := by decide +kernel
theorem dX1_versionAt_28 : decode cX1_versionAt 28 = .ok (.iload_n 3, 1) := by decide +kernel
theorem dX1_versionAt_29 : decode cX1_versionAt 29 = .ok (.ireturn, 1) := by decide +kernel
theorem dX1_countAfter_0 : decode cX1_countAfter 0 = .ok (.iconst 0, 1) := by decide +kernel
theorem dX1_countAfter_1 : decode cX1_countAfter 1 = .ok (.istore_n 3, 1) := by decide +kernel
theorem dX1_countAfter_2 : decode cX1_countAfter 2 = .ok (.aload_n 0, 1) := by decide +kernel
theorem dX1_countAfter_3 : decode cX1_countAfter 3 = .ok (.getfield 9, 3) := by decide +kernel
theorem dX1_countAfter_6 : decode cX1_countAfter 6 = .ok (.istore 4, 2) := by decide +kernel
theorem dX1_countAfter_8 : decode cX1_countAfter 8 = .ok (.iload 4, 2) := by decide +kernel
theorem dX1_countAfter_10 : decode cX1_countAfter 10 = .ok (.iload_n 1, 1) := by decide +kernel
theorem dX1_countAfter_11 : decode cX1_countAfter 11 = .ok (.if_icmp .le 27, 3) := by decide +kernel
theorem dX1_countAfter_14 : decode cX1_countAfter 14 = .ok (.iload 4, 2) := by decide +kernel
theorem dX1_countAfter_16 : decode cX1_countAfter 16 = .ok (.ifCond .le 22, 3) := by decide +kernel
theorem dX1_countAfter_19 : decode cX1_countAfter 19 = .ok (.aload_n 0, 1) := by decide +kernel
theorem dX1_countAfter_20 : decode cX1_countAfter 20 = .ok (.iload 4, 2) := by decide +kernel
theorem dX1_countAfter_22 : decode cX1_countAfter 22 = .ok (.invokevirtual 35, 3) := by decide +kernel
theorem dX1_countAfter_25 : decode cX1_countAfter 25 = .ok (.iload_n 2, 1) := by decide +kernel
theorem dX1_countAfter_26 : decode cX1_countAfter 26 = .ok (.if_icmp .ne 6, 3) := by decide +kernel
theorem dX1_countAfter_29 : decode cX1_countAfter 29 = .ok (.iinc 3 1, 3) := by decide +kernel
theorem dX1_countAfter_32 : decode cX1_countAfter 32 = .ok (.iinc 4 (-1), 3) := by decide +kernel
theorem dX1_countAfter_35 : decode cX1_countAfter 35 = .ok (.goto (-27), 3) := by decide +kernel
theorem dX1_countAfter_38 : decode cX1_countAfter 38 = .ok (.iload_n 3, 1) := by decide +kernel
theorem dX1_countAfter_39 : decode cX1_countAfter 39 = .ok (.ireturn, 1) := by decide +kernel
theorem dX1_copyFrom_0 : decode cX1_copyFrom 0 = .ok (.aload_n 0, 1) := by decide +kernel
theorem dX1_copyFrom_1 : decode cX1_copyFrom 1 = .ok (.aload_n 1, 1) := by decide +kernel
theorem dX1_copyFrom_2 : decode cX1_copyFrom 2 = .ok (.getfield 9, 3) := by decide +kernel
theorem dX1_copyFrom_5 : decode cX1_copyFrom 5 = .ok (.putfield 9, 3) := by decide +kernel
theorem dX1_copyFrom_8 : decode cX1_copyFrom 8 = .ok (.aload_n 1, 1) := by decide +kernel
theorem dX1_copyFrom_9 : decode cX1_copyFrom 9 = .ok (.getfield 15, 3) := by decide +kernel
theorem dX1_copyFrom_12 : decode cX1_copyFrom 12 = .ok (.iconst 0, 1) := by decide +kernel
theorem dX1_copyFrom_13 : decode cX1_copyFrom 13 = .ok (.aload_n 0, 1) := by decide +kernel
theorem dX1_copyFrom_14 : decode cX1_copyFrom 14 = .ok (.getfield 15, 3) := by decide +kernel
theorem dX1_copyFrom_17 : decode cX1_copyFrom 17 = .ok (.iconst 0, 1) := by decide +kernel
theorem dX1_copyFrom_18 : decode cX1_copyFrom 18 = .ok (.sipush 200, 3) := by decide +kernel
theorem dX1_copyFrom_21 : decode cX1_copyFrom 21 = .ok (.invokestatic 39, 3) := by decide +kernel
theorem dX1_copyFrom_24 : decode cX1_copyFrom 24 = .ok (.aload_n 1, 1) := by decide +kernel
theorem dX1_copyFrom_25 : decode cX1_copyFrom 25 = .ok (.getfield 19, 3) := by decide +kernel
theorem dX1_copyFrom_28 : decode cX1_copyFrom 28 = .ok (.iconst 0, 1) := by decide +kernel
theorem dX1_copyFrom_29 : decode cX1_copyFrom 29 = .ok (.aload_n 0, 1) := by decide +kernel
theorem dX1_copyFrom_30 : decode cX1_copyFrom 30 = .ok (.getfield 19, 3) := by decide +kernel
theorem dX1_copyFrom_33 : decode cX1_copyFrom 33 = .ok (.iconst 0, 1) := by decide +kernel
theorem dX1_copyFrom_34 : decode cX1_copyFrom 34 = .ok (.sipush 200, 3) := by decide +kernel
theorem dX1_copyFrom_37 : decode cX1_copyFrom 37 = .ok (.invokestatic 39, 3) := by decide +kernel
theorem dX1_copyFrom_40 : decode cX1_copyFrom 40 = .ok (.aload_n 1, 1) := by decide +kernel
theorem dX1_copyFrom_41 : decode cX1_copyFrom 41 = .ok (.getfield 22, 3) := by decide +kernel
theorem dX1_copyFrom_44 : decode cX1_copyFrom 44 = .ok (.iconst 0, 1) := by decide +kernel
theorem dX1_copyFrom_45 : decode cX1_copyFrom 45 = .ok (.aload_n 0, 1) := by decide +kernel
theorem dX1_copyFrom_46 : decode cX1_copyFrom 46 = .ok (.getfield 22, 3) := by decide +kernel
theorem dX1_copyFrom_49 : decode cX1_copyFrom 49 = .ok (.iconst 0, 1) := by decide +kernel
theorem dX1_copyFrom_50 : decode cX1_copyFrom 50 = .ok (.sipush 200, 3) := by decide +kernel
theorem dX1_copyFrom_53 : decode cX1_copyFrom 53 = .ok (.invokestatic 39, 3) := by decide +kernel
theorem dX1_copyFrom_56 : decode cX1_copyFrom 56 = .ok (.return_, 1) := by decide +kernel
theorem dX2_init_0 : decode cX2_init 0 = .ok (.aload_n 0, 1) := by decide +kernel
theorem dX2_init_1 : decode cX2_init 1 = .ok (.invokespecial 3, 3) := by decide +kernel
theorem dX2_init_4 : decode cX2_init 4 = .ok (.aload_n 0, 1) := by decide +kernel
theorem dX2_init_5 : decode cX2_init 5 = .ok (.iconst 0, 1) := by decide +kernel
theorem dX2_init_6 : decode cX2_init 6 = .ok (.putfield 9, 3) := by decide +kernel
theorem dX2_init_9 : decode cX2_init 9 = .ok (.aload_n 0, 1) := by decide +kernel
theorem dX2_init_10 : decode cX2_init 10 = .ok (.iconst 0, 1) := by decide +kernel
theorem dX2_init_11 : decode cX2_init 11 = .ok (.putfield 15, 3) := by decide +kernel
theorem dX2_init_14 : decode cX2_init 14 = .ok (.aload_n 0, 1) := by decide +kernel
theorem dX2_init_15 : decode cX2_init 15 = .ok (.iconst 0, 1) := by decide +kernel
theorem dX2_init_16 : decode cX2_init 16 = .ok (.putfield 19, 3) := by decide +kernel
theorem dX2_init_19 : decode cX2_init 19 = .ok (.aload_n 0, 1) := by decide +kernel
theorem dX2_init_20 : decode cX2_init 20 = .ok (.iconst 0, 1) := by decide +kernel
theorem dX2_init_21 : decode cX2_init 21 = .ok (.putfield 22, 3) := by decide +kernel
theorem dX2_init_24 : decode cX2_init 24 = .ok (.aload_n 0, 1) := by decide +kernel
theorem dX2_init_25 : decode cX2_init 25 = .ok (.iconst 0, 1) := by decide +kernel
theorem dX2_init_26 : decode cX2_init 26 = .ok (.putfield 25, 3) := by decide +kernel
theorem dX2_init_29 : decode cX2_init 29 = .ok (.return_, 1) := by decide +kernel
theorem dX2_begin_0 : decode cX2_begin 0 = .ok (.aload_n 0, 1) := by decide +kernel
theorem dX2_begin_1 : decode cX2_begin 1 = .ok (.iconst 1, 1) := by decide +kernel
theorem dX2_begin_2 : decode cX2_begin 2 = .ok (.putfield 9, 3) := by decide +kernel
theorem dX2_begin_5 : decode cX2_begin 5 = .ok (.aload_n 0, 1) := by decide +kernel
theorem dX2_begin_6 : decode cX2_begin 6 = .ok (.iload_n 2, 1) := by decide +kernel
theorem dX2_begin_7 : decode cX2_begin 7 = .ok (.putfield 15, 3) := by decide +kernel
theorem dX2_begin_10 : decode cX2_begin 10 = .ok (.aload_n 0, 1) := by decide +kernel
theorem dX2_begin_11 : decode cX2_begin 11 = .ok (.iload_n 1, 1) := by decide +kernel
theorem dX2_begin_12 : decode cX2_begin 12 = .ok (.putfield 19, 3) := by decide +kernel
theorem dX2_begin_15 : decode cX2_begin 15 = .ok (.aload_n 0, 1) := by decide +kernel
theorem dX2_begin_16 : decode cX2_begin 16 = .ok (.iconst 0, 1) := by decide +kernel
theorem dX2_begin_17 : decode cX2_begin 17 = .ok (.putfield 22, 3) := by decide +kernel
theorem dX2_begin_20 : decode cX2_begin 20 = .ok (.aload_n 0, 1) := by decide +kernel
theorem dX2_begin_21 : decode cX2_begin 21 = .ok (.iconst 0, 1) := by decide +kernel
theorem dX2_begin_22 : decode cX2_begin 22 = .ok (.putfield 25, 3) := by decide +kernel
theorem dX2_begin_25 : decode cX2_begin 25 = .ok (.return_, 1) := by decide +kernel
theorem dX2_ticksTo_0 : decode cX2_ticksTo 0 = .ok (.aload_n 0, 1) := by decide +kernel
theorem dX2_ticksTo_1 : decode cX2_ticksTo 1 = .ok (.getfield 15, 3) := by decide +kernel
theorem dX2_ticksTo_4 : decode cX2_ticksTo 4 = .ok (.iload_n 1, 1) := by decide +kernel
theorem dX2_ticksTo_5 : decode cX2_ticksTo 5 = .ok (.if_icmp .lt 5, 3) := by decide +kernel
theorem dX2_ticksTo_8 : decode cX2_ticksTo 8 = .ok (.iconst 0, 1) := by decide +kernel
theorem dX2_ticksTo_9 : decode cX2_ticksTo 9 = .ok (.ireturn, 1) := by decide +kernel
theorem dX2_ticksTo_10 : decode cX2_ticksTo 10 = .ok (.aload_n 0, 1) := by decide +kernel
theorem dX2_ticksTo_11 : decode cX2_ticksTo 11 = .ok (.getfield 22, 3) := by decide +kernel
theorem dX2_ticksTo_14 : decode cX2_ticksTo 14 = .ok (.ifCond .ne 10, 3) := by decide +kernel
theorem dX2_ticksTo_17 : decode cX2_ticksTo 17 = .ok (.aload_n 0, 1) := by decide +kernel
theorem dX2_ticksTo_18 : decode cX2_ticksTo 18 = .ok (.getfield 19, 3) := by decide +kernel
theorem dX2_ticksTo_21 : decode cX2_ticksTo 21 = .ok (.ifCond .gt 6, 3) := by decide +kernel
theorem dX2_ticksTo_24 : decode cX2_ticksTo 24 = .ok (.bipush (-6), 2) := by decide +kernel
theorem dX2_ticksTo_26 : decode cX2_ticksTo 26 = .ok (.ireturn, 1) := by decide +kernel
theorem dX2_ticksTo_27 : decode cX2_ticksTo 27 = .ok (.iload_n 1, 1) := by decide +kernel
theorem dX2_ticksTo_28 : decode cX2_ticksTo 28 = .ok (.aload_n 0, 1) := by decide +kernel
theorem dX2_ticksTo_29 : decode cX2_ticksTo 29 = .ok (.getfield 15, 3) := by decide +kernel
theorem dX2_ticksTo_32 : decode cX2_ticksTo 32 = .ok (.isub, 1) := by decide +kernel
theorem dX2_ticksTo_33 : decode cX2_ticksTo 33 = .ok (.aload_n 0, 1) := by decide +kernel
theorem dX2_ticksTo_34 : decode cX2_ticksTo 34 = .ok (.getfield 19, 3) := by decide +kernel
theorem dX2_ticksTo_37 : decode cX2_ticksTo 37 = .ok (.iadd, 1) := by decide +kernel
theorem dX2_ticksTo_38 : decode cX2_ticksTo 38 = .ok (.iconst 1, 1) := by decide +kernel
theorem dX2_ticksTo_39 : decode cX2_ticksTo 39 = .ok (.isub, 1) := by decide +kernel
theorem dX2_ticksTo_40 : decode cX2_ticksTo 40 = .ok (.aload_n 0, 1) := by decide +kernel
theorem dX2_ticksTo_41 : decode cX2_ticksTo 41 = .ok (.getfield 19, 3) := by decide +kernel
theorem dX2_ticksTo_44 : decode cX2_ticksTo 44 = .ok (.idiv, 1) := by decide +kernel
theorem dX2_ticksTo_45 : decode cX2_ticksTo 45 = .ok (.ireturn, 1) := by decide +kernel
theorem dX2_passTicks_0 : decode cX2_passTicks 0 = .ok (.aload_n 0, 1) := by decide +kernel
theorem dX2_passTicks_1 : decode cX2_passTicks 1 = .ok (.getfield 22, 3) := by decide +kernel
theorem dX2_passTicks_4 : decode cX2_passTicks 4 = .ok (.ifCond .ne 22, 3) := by decide +kernel
theorem dX2_passTicks_7 : decode cX2_passTicks 7 = .ok (.aload_n 0, 1) := by decide +kernel
theorem dX2_passTicks_8 : decode cX2_passTicks 8 = .ok (.aload_n 0, 1) := by decide +kernel
theorem dX2_passTicks_9 : decode cX2_passTicks 9 = .ok (.getfield 15, 3) := by decide +kernel
theorem dX2_passTicks_12 : decode cX2_passTicks 12 = .ok (.aload_n 0, 1) := by decide +kernel
theorem dX2_passTicks_13 : decode cX2_passTicks 13 = .ok (.getfield 19, 3) := by decide +kernel
theorem dX2_passTicks_16 : decode cX2_passTicks 16 = .ok (.iload_n 1, 1) := by decide +kernel
theorem dX2_passTicks_17 : decode cX2_passTicks 17 = .ok (.imul, 1) := by decide +kernel
theorem dX2_passTicks_18 : decode cX2_passTicks 18 = .ok (.iadd, 1) := by decide +kernel
theorem dX2_passTicks_19 : decode cX2_passTicks 19 = .ok (.iload_n 2, 1) := by decide +kernel
theorem dX2_passTicks_20 : decode cX2_passTicks 20 = .ok (.invokestatic 28, 3) := by decide +kernel
theorem dX2_passTicks_23 : decode cX2_passTicks 23 = .ok (.putfield 15, 3) := by decide +kernel
theorem dX2_passTicks_26 : decode cX2_passTicks 26 = .ok (.return_, 1) := by decide +kernel
theorem dX2_copyFrom_0 : decode cX2_copyFrom 0 = .ok (.aload_n 0, 1) := by decide +kernel
theorem dX2_copyFrom_1 : decode cX2_copyFrom 1 = .ok (.aload_n 1, 1) := by decide +kernel
theorem dX2_copyFrom_2 : decode cX2_copyFrom 2 = .ok (.getfield 9, 3) := by decide +kernel
theorem dX2_copyFrom_5 : decode cX2_copyFrom 5 = .ok (.putfield 9, 3) := by decide +kernel
theorem dX2_copyFrom_8 : decode cX2_copyFrom 8 = .ok (.aload_n 0, 1) := by decide +kernel
theorem dX2_copyFrom_9 : decode cX2_copyFrom 9 = .ok (.aload_n 1, 1) := by decide +kernel
theorem dX2_copyFrom_10 : decode cX2_copyFrom 10 = .ok (.getfield 15, 3) := by decide +kernel
theorem dX2_copyFrom_13 : decode cX2_copyFrom 13 = .ok (.putfield 15, 3) := by decide +kernel
theorem dX2_copyFrom_16 : decode cX2_copyFrom 16 = .ok (.aload_n 0, 1) := by decide +kernel
theorem dX2_copyFrom_17 : decode cX2_copyFrom 17 = .ok (.aload_n 1, 1) := by decide +kernel
theorem dX2_copyFrom_18 : decode cX2_copyFrom 18 = .ok (.getfield 19, 3) := by decide +kernel
theorem dX2_copyFrom_21 : decode cX2_copyFrom 21 = .ok (.putfield 19, 3) := by decide +kernel
theorem dX2_copyFrom_24 : decode cX2_copyFrom 24 = .ok (.aload_n 0, 1) := by decide +kernel
theorem dX2_copyFrom_25 : decode cX2_copyFrom 25 = .ok (.aload_n 1, 1) := by decide +kernel
theorem dX2_copyFrom_26 : decode cX2_copyFrom 26 = .ok (.getfield 22, 3) := by decide +kernel
theorem dX2_copyFrom_29 : decode cX2_copyFrom 29 = .ok (.putfield 22, 3) := by decide +kernel
theorem dX2_copyFrom_32 : decode cX2_copyFrom 32 = .ok (.aload_n 0, 1) := by decide +kernel
theorem dX2_copyFrom_33 : decode cX2_copyFrom 33 = .ok (.aload_n 1, 1) := by decide +kernel
theorem dX2_copyFrom_34 : decode cX2_copyFrom 34 = .ok (.getfield 25, 3) := by decide +kernel
theorem dX2_copyFrom_37 : decode cX2_copyFrom 37 = .ok (.putfield 25, 3) := by decide +kernel
theorem dX2_copyFrom_40 : decode cX2_copyFrom 40 = .ok (.return_, 1) := by decide +kernel
theorem dX3_init_0 : decode cX3_init 0 = .ok (.aload_n 0, 1) := by decide +kernel
theorem dX3_init_1 : decode cX3_init 1 = .ok (.invokespecial 3, 3) := by decide +kernel
theorem dX3_init_4 : decode cX3_init 4 = .ok (.aload_n 0, 1) := by decide +kernel
theorem dX3_init_5 : decode cX3_init 5 = .ok (.iconst 0, 1) := by decide +kernel
theorem dX3_init_6 : decode cX3_init 6 = .ok (.putfield 9, 3) := by decide +kernel
theorem dX3_init_9 : decode cX3_init 9 = .ok (.aload_n 0, 1) := by decide +kernel
theorem dX3_init_10 : decode cX3_init 10 = .ok (.bipush 9, 2) := by decide +kernel
theorem dX3_init_12 : decode cX3_init 12 = .ok (.putfield 15, 3) := by decide +kernel
theorem dX3_init_15 : decode cX3_init 15 = .ok (.aload_n 0, 1) := by decide +kernel
theorem dX3_init_16 : decode cX3_init 16 = .ok (.iconst 0, 1) := by decide +kernel
theorem dX3_init_17 : decode cX3_init 17 = .ok (.putfield 19, 3) := by decide +kernel
theorem dX3_init_20 : decode cX3_init 20 = .ok (.aload_n 0, 1) := by decide +kernel
theorem dX3_init_21 : decode cX3_init 21 = .ok (.iconst 0, 1) := by decide +kernel
theorem dX3_init_22 : decode cX3_init 22 = .ok (.putfield 22, 3) := by decide +kernel
theorem dX3_init_25 : decode cX3_init 25 = .ok (.aload_n 0, 1) := by decide +kernel
theorem dX3_init_26 : decode cX3_init 26 = .ok (.iconst 0, 1) := by decide +kernel
theorem dX3_init_27 : decode cX3_init 27 = .ok (.putfield 25, 3) := by decide +kernel
theorem dX3_init_30 : decode cX3_init 30 = .ok (.aload_n 0, 1) := by decide +kernel
theorem dX3_init_31 : decode cX3_init 31 = .ok (.iconst 0, 1) := by decide +kernel
theorem dX3_init_32 : decode cX3_init 32 = .ok (.putfield 28, 3) := by decide +kernel
theorem dX3_init_35 : decode cX3_init 35 = .ok (.aload_n 0, 1) := by decide +kernel
theorem dX3_init_36 : decode cX3_init 36 = .ok (.iconst 0, 1) := by decide +kernel
theorem dX3_init_37 : decode cX3_init 37 = .ok (.putfield 31, 3) := by decide +kernel
theorem dX3_init_40 : decode cX3_init 40 = .ok (.aload_n 0, 1) := by decide +kernel
theorem dX3_init_41 : decode cX3_init 41 = .ok (.iconst 0, 1) := by decide +kernel
theorem dX3_init_42 : decode cX3_init 42 = .ok (.putfield 34, 3) := by decide +kernel
theorem dX3_init_45 : decode cX3_init 45 = .ok (.aload_n 0, 1) := by decide +kernel
theorem dX3_init_46 : decode cX3_init 46 = .ok (.iconst 0, 1) := by decide +kernel
theorem dX3_init_47 : decode cX3_init 47 = .ok (.putfield 37, 3) := by decide +kernel
theorem dX3_init_50 : decode cX3_init 50 = .ok (.aload_n 0, 1) := by decide +kernel
theorem dX3_init_51 : decode cX3_init 51 = .ok (.bipush 12, 2) := by decide +kernel
theorem dX3_init_53 : decode cX3_init 53 = .ok (.newarray .int, 2) := by decide +kernel
theorem dX3_init_55 : decode cX3_init 55 = .ok (.putfield 40, 3) := by decide +kernel
theorem dX3_init_58 : decode cX3_init 58 = .ok (.aload_n 0, 1) := by decide +kernel
theorem dX3_init_59 : decode cX3_init 59 = .ok (.bipush 12, 2) := by decide +kernel
theorem dX3_init_61 : decode cX3_init 61 = .ok (.newarray .int, 2) := by decide +kernel
theorem dX3_init_63 : decode cX3_init 63 = .ok (.putfield 44, 3) := by decide +kernel
theorem dX3_init_66 : decode cX3_init 66 = .ok (.return_, 1) := by decide +kernel
theorem dX3_begin_0 : decode cX3_begin 0 = .ok (.aload_n 0, 1) := by decide +kernel
theorem dX3_begin_1 : decode cX3_begin 1 = .ok (.iconst 1, 1) := by decide +kernel
theorem dX3_begin_2 : decode cX3_begin 2 = .ok (.putfield 9, 3) := by decide +kernel
theorem dX3_begin_5 : decode cX3_begin 5 = .ok (.aload_n 0, 1) := by decide +kernel
theorem dX3_begin_6 : decode cX3_begin 6 = .ok (.iload_n 1, 1) := by decide +kernel
theorem dX3_begin_7 : decode cX3_begin 7 = .ok (.putfield 15, 3) := by decide +kernel
theorem dX3_begin_10 : decode cX3_begin 10 = .ok (.aload_n 0, 1) := by decide +kernel
theorem dX3_begin_11 : decode cX3_begin 11 = .ok (.iload_n 2, 1) := by decide +kernel
theorem dX3_begin_12 : decode cX3_begin 12 = .ok (.putfield 19, 3) := by decide +kernel
theorem dX3_begin_15 : decode cX3_begin 15 = .ok (.aload_n 0, 1) := by decide +kernel
theorem dX3_begin_16 : decode cX3_begin 16 = .ok (.iload_n 3, 1) := by decide +kernel
theorem dX3_begin_17 : decode cX3_begin 17 = .ok (.putfield 22, 3) := by decide +kernel
theorem dX3_begin_20 : decode cX3_begin 20 = .ok (.aload_n 0, 1) := by decide +kernel
theorem dX3_begin_21 : decode cX3_begin 21 = .ok (.iconst 0, 1) := by decide +kernel
theorem dX3_begin_22 : decode cX3_begin 22 = .ok (.putfield 25, 3) := by decide +kernel
theorem dX3_begin_25 : decode cX3_begin 25 = .ok (.aload_n 0, 1) := by decide +kernel
theorem dX3_begin_26 : decode cX3_begin 26 = .ok (.iconst 0, 1) := by decide +kernel
theorem dX3_begin_27 : decode cX3_begin 27 = .ok (.putfield 28, 3) := by decide +kernel
theorem dX3_begin_30 : decode cX3_begin 30 = .ok (.aload_n 0, 1) := by decide +kernel
theorem dX3_begin_31 : decode cX3_begin 31 = .ok (.iconst 0, 1) := by decide +kernel
theorem dX3_begin_32 : decode cX3_begin 32 = .ok (.putfield 31, 3) := by decide +kernel
theorem dX3_begin_35 : decode cX3_begin 35 = .ok (.aload_n 0, 1) := by decide +kernel
theorem dX3_begin_36 : decode cX3_begin 36 = .ok (.iconst 0, 1) := by decide +kernel
theorem dX3_begin_37 : decode cX3_begin 37 = .ok (.putfield 34, 3) := by decide +kernel
theorem dX3_begin_40 : decode cX3_begin 40 = .ok (.aload_n 0, 1) := by decide +kernel
theorem dX3_begin_41 : decode cX3_begin 41 = .ok (.iconst 0, 1) := by decide +kernel
theorem dX3_begin_42 : decode cX3_begin 42 = .ok (.putfield 37, 3) := by decide +kernel
theorem dX3_begin_45 : decode cX3_begin 45 = .ok (.aload_n 0, 1) := by decide +kernel
theorem dX3_begin_46 : decode cX3_begin 46 = .ok (.getfield 40, 3) := by decide +kernel
theorem dX3_begin_49 : decode cX3_begin 49 = .ok (.iconst 0, 1) := by decide +kernel
theorem dX3_begin_50 : decode cX3_begin 50 = .ok (.invokestatic 47, 3) := by decide +kernel
theorem dX3_begin_53 : decode cX3_begin 53 = .ok (.aload_n 0, 1) := by decide +kernel
theorem dX3_begin_54 : decode cX3_begin 54 = .ok (.getfield 44, 3) := by decide +kernel
theorem dX3_begin_57 : decode cX3_begin 57 = .ok (.iconst 0, 1) := by decide +kernel
theorem dX3_begin_58 : decode cX3_begin 58 = .ok (.invokestatic 47, 3) := by decide +kernel
theorem dX3_begin_61 : decode cX3_begin 61 = .ok (.return_, 1) := by decide +kernel
theorem dX3_has_0 : decode cX3_has 0 = .ok (.aload_n 0, 1) := by decide +kernel
theorem dX3_has_1 : decode cX3_has 1 = .ok (.getfield 19, 3) := by decide +kernel
theorem dX3_has_4 : decode cX3_has 4 = .ok (.iload_n 1, 1) := by decide +kernel
theorem dX3_has_5 : decode cX3_has 5 = .ok (.iand, 1) := by decide +kernel
theorem dX3_has_6 : decode cX3_has 6 = .ok (.ifCond .eq 7, 3) := by decide +kernel
theorem dX3_has_9 : decode cX3_has 9 = .ok (.iconst 1, 1) := by decide +kernel
theorem dX3_has_10 : decode cX3_has 10 = .ok (.goto 4, 3) := by decide +kernel
theorem dX3_has_13 : decode cX3_has 13 = .ok (.iconst 0, 1) := by decide +kernel
theorem dX3_has_14 : decode cX3_has 14 = .ok (.ireturn, 1) := by decide +kernel
theorem dX3_need_0 : decode cX3_need 0 = .ok (.aload_n 0, 1) := by decide +kernel
theorem dX3_need_1 : decode cX3_need 1 = .ok (.iconst 1, 1) := by decide +kernel
theorem dX3_need_2 : decode cX3_need 2 = .ok (.invokevirtual 53, 3) := by decide +kernel
theorem dX3_need_5 : decode cX3_need 5 = .ok (.ifCond .eq 10, 3) := by decide +kernel
theorem dX3_need_8 : decode cX3_need 8 = .ok (.aload_n 0, 1) := by decide +kernel
theorem dX3_need_9 : decode cX3_need 9 = .ok (.getfield 25, 3) := by decide +kernel
theorem dX3_need_12 : decode cX3_need 12 = .ok (.goto 4, 3) := by decide +kernel
theorem dX3_need_15 : decode cX3_need 15 = .ok (.iconst 0, 1) := by decide +kernel
theorem dX3_need_16 : decode cX3_need 16 = .ok (.aload_n 0, 1) := by decide +kernel
theorem dX3_need_17 : decode cX3_need 17 = .ok (.iconst 2, 1) := by decide +kernel
theorem dX3_need_18 : decode cX3_need 18 = .ok (.invokevirtual 53, 3) := by decide +kernel
theorem dX3_need_21 : decode cX3_need 21 = .ok (.ifCond .eq 10, 3) := by decide +kernel
theorem dX3_need_24 : decode cX3_need 24 = .ok (.aload_n 0, 1) := by decide +kernel
theorem dX3_need_25 : decode cX3_need 25 = .ok (.getfield 28, 3) := by decide +kernel
theorem dX3_need_28 : decode cX3_need 28 = .ok (.goto 4, 3) := by decide +kernel
theorem dX3_need_31 : decode cX3_need 31 = .ok (.iconst 0, 1) := by decide +kernel
theorem dX3_need_32 : decode cX3_need 32 = .ok (.invokestatic 57, 3) := by decide +kernel
theorem dX3_need_35 : decode cX3_need 35 = .ok (.ireturn, 1) := by decide +kernel
theorem dX3_noteWrite_0 : decode cX3_noteWrite 0 = .ok (.aload_n 0, 1) := by decide +kernel
theorem dX3_noteWrite_1 : decode cX3_noteWrite 1 = .ok (.iload_n 2, 1) := by decide +kernel
theorem dX3_noteWrite_2 : decode cX3_noteWrite 2 = .ok (.putfield 25, 3) := by decide +kernel
theorem dX3_noteWrite_5 : decode cX3_noteWrite 5 = .ok (.iload_n 1, 1) := by decide +kernel
theorem dX3_noteWrite_6 : decode cX3_noteWrite 6 = .ok (.invokestatic 63, 3) := by decide +kernel
theorem dX3_noteWrite_9 : decode cX3_noteWrite 9 = .ok (.ifCond .eq 10, 3) := by decide +kernel
theorem dX3_noteWrite_12 : decode cX3_noteWrite 12 = .ok (.aload_n 0, 1) := by decide +kernel
theorem dX3_noteWrite_13 : decode cX3_noteWrite 13 = .ok (.getfield 40, 3) := by decide +kernel
theorem dX3_noteWrite_16 : decode cX3_noteWrite 16 = .ok (.iload_n 1, 1) := by decide +kernel
theorem dX3_noteWrite_17 : decode cX3_noteWrite 17 = .ok (.iload_n 2, 1) := by decide +kernel
theorem dX3_noteWrite_18 : decode cX3_noteWrite 18 = .ok (.iastore, 1) := by decide +kernel
theorem dX3_noteWrite_19 : decode cX3_noteWrite 19 = .ok (.return_, 1) := by decide +kernel
theorem dX3_noteRead_0 : decode cX3_noteRead 0 = .ok (.aload_n 0, 1) := by decide +kernel
theorem dX3_noteRead_1 : decode cX3_noteRead 1 = .ok (.dup, 1) := by decide +kernel
theorem dX3_noteRead_2 : decode cX3_noteRead 2 = .ok (.getfield 31, 3) := by decide +kernel
theorem dX3_noteRead_5 : decode cX3_noteRead 5 = .ok (.iconst 1, 1) := by decide +kernel
theorem dX3_noteRead_6 : decode cX3_noteRead 6 = .ok (.iadd, 1) := by decide +kernel
theorem dX3_noteRead_7 : decode cX3_noteRead 7 = .ok (.putfield 31, 3) := by decide +kernel
theorem dX3_noteRead_10 : decode cX3_noteRead 10 = .ok (.aload_n 0, 1) := by decide +kernel
theorem dX3_noteRead_11 : decode cX3_noteRead 11 = .ok (.aload_n 0, 1) := by decide +kernel
theorem dX3_noteRead_12 : decode cX3_noteRead 12 = .ok (.getfield 28, 3) := by decide +kernel
theorem dX3_noteRead_15 : decode cX3_noteRead 15 = .ok (.iload_n 3, 1) := by decide +kernel
theorem dX3_noteRead_16 : decode cX3_noteRead 16 = .ok (.invokestatic 57, 3) := by decide +kernel
theorem dX3_noteRead_19 : decode cX3_noteRead 19 = .ok (.putfield 28, 3) := by decide +kernel
theorem dX3_noteRead_22 : decode cX3_noteRead 22 = .ok (.iload_n 1, 1) := by decide +kernel
theorem dX3_noteRead_23 : decode cX3_noteRead 23 = .ok (.invokestatic 63, 3) := by decide +kernel
theorem dX3_noteRead_26 : decode cX3_noteRead 26 = .ok (.ifCond .ne 4, 3) := by decide +kernel
theorem dX3_noteRead_29 : decode cX3_noteRead 29 = .ok (.return_, 1) := by decide +kernel
theorem dX3_noteRead_30 : decode cX3_noteRead 30 = .ok (.aload_n 0, 1) := by decide +kernel
theorem dX3_noteRead_31 : decode cX3_noteRead 31 = .ok (.getfield 40, 3) := by decide +kernel
theorem dX3_noteRead_34 : decode cX3_noteRead 34 = .ok (.iload_n 1, 1) := by decide +kernel
theorem dX3_noteRead_35 : decode cX3_noteRead 35 = .ok (.iaload, 1) := by decide +kernel
theorem dX3_noteRead_36 : decode cX3_noteRead 36 = .ok (.iload_n 2, 1) := by decide +kernel
theorem dX3_noteRead_37 : decode cX3_noteRead 37 = .ok (.if_icmp .le 13, 3) := by decide +kernel
theorem dX3_noteRead_40 : decode cX3_noteRead 40 = .ok (.aload_n 0, 1) := by decide +kernel
theorem dX3_noteRead_41 : decode cX3_noteRead 41 = .ok (.dup, 1) := by decide +kernel
theorem dX3_noteRead_42 : decode cX3_noteRead 42 = .ok (.getfield 34, 3) := by decide +kernel
theorem dX3_noteRead_45 : decode cX3_noteRead 45 = .ok (.iconst 1, 1) := by decide +kernel
theorem dX3_noteRead_46 : decode cX3_noteRead 46 = .ok (.iadd, 1) := by decide +kernel
theorem dX3_noteRead_47 : decode cX3_noteRead 47 = .ok (.putfield 34, 3) := by decide +kernel
theorem dX3_noteRead_50 : decode cX3_noteRead 50 = .ok (.aload_n 0, 1) := by decide +kernel
theorem dX3_noteRead_51 : decode cX3_noteRead 51 = .ok (.getfield 44, 3) := by decide +kernel
theorem dX3_noteRead_54 : decode cX3_noteRead 54 = .ok (.iload_n 1, 1) := by decide +kernel
theorem dX3_noteRead_55 : decode cX3_noteRead 55 = .ok (.iaload, 1) := by decide +kernel
theorem dX3_noteRead_56 : decode cX3_noteRead 56 = .ok (.iload_n 2, 1) := by decide +kernel
theorem dX3_noteRead_57 : decode cX3_noteRead 57 = .ok (.if_icmp .le 13, 3) := by decide +kernel
theorem dX3_noteRead_60 : decode cX3_noteRead 60 = .ok (.aload_n 0, 1) := by decide +kernel
theorem dX3_noteRead_61 : decode cX3_noteRead 61 = .ok (.dup, 1) := by decide +kernel
theorem dX3_noteRead_62 : decode cX3_noteRead 62 = .ok (.getfield 37, 3) := by decide +kernel
theorem dX3_noteRead_65 : decode cX3_noteRead 65 = .ok (.iconst 1, 1) := by decide +kernel
theorem dX3_noteRead_66 : decode cX3_noteRead 66 = .ok (.iadd, 1) := by decide +kernel
theorem dX3_noteRead_67 : decode cX3_noteRead 67 = .ok (.putfield 37, 3) := by decide +kernel
theorem dX3_noteRead_70 : decode cX3_noteRead 70 = .ok (.aload_n 0, 1) := by decide +kernel
theorem dX3_noteRead_71 : decode cX3_noteRead 71 = .ok (.getfield 44, 3) := by decide +kernel
theorem dX3_noteRead_74 : decode cX3_noteRead 74 = .ok (.iload_n 1, 1) := by decide +kernel
theorem dX3_noteRead_75 : decode cX3_noteRead 75 = .ok (.aload_n 0, 1) := by decide +kernel
theorem dX3_noteRead_76 : decode cX3_noteRead 76 = .ok (.getfield 44, 3) := by decide +kernel
theorem dX3_noteRead_79 : decode cX3_noteRead 79 = .ok (.iload_n 1, 1) := by decide +kernel
theorem dX3_noteRead_80 : decode cX3_noteRead 80 = .ok (.iaload, 1) := by decide +kernel
theorem dX3_noteRead_81 : decode cX3_noteRead 81 = .ok (.iload_n 2, 1) := by decide +kernel
theorem dX3_noteRead_82 : decode cX3_noteRead 82 = .ok (.invokestatic 57, 3) := by decide +kernel
theorem dX3_noteRead_85 : decode cX3_noteRead 85 = .ok (.iastore, 1) := by decide +kernel
theorem dX3_noteRead_86 : decode cX3_noteRead 86 = .ok (.return_, 1) := by decide +kernel
theorem dX3_copyFrom_0 : decode cX3_copyFrom 0 = .ok (.aload_n 0, 1) := by decide +kernel
theorem dX3_copyFrom_1 : decode cX3_copyFrom 1 = .ok (.aload_n 1, 1) := by decide +kernel
theorem dX3_copyFrom_2 : decode cX3_copyFrom 2 = .ok (.getfield 9, 3) := by decide +kernel
theorem dX3_copyFrom_5 : decode cX3_copyFrom 5 = .ok (.putfield 9, 3) := by decide +kernel
theorem dX3_copyFrom_8 : decode cX3_copyFrom 8 = .ok (.aload_n 0, 1) := by decide +kernel
theorem dX3_copyFrom_9 : decode cX3_copyFrom 9 = .ok (.aload_n 1, 1) := by decide +kernel
theorem dX3_copyFrom_10 : decode cX3_copyFrom 10 = .ok (.getfield 15, 3) := by decide +kernel
theorem dX3_copyFrom_13 : decode cX3_copyFrom 13 = .ok (.putfield 15, 3) := by decide +kernel
theorem dX3_copyFrom_16 : decode cX3_copyFrom 16 = .ok (.aload_n 0, 1) := by decide +kernel
theorem dX3_copyFrom_17 : decode cX3_copyFrom 17 = .ok (.aload_n 1, 1) := by decide +kernel
theorem dX3_copyFrom_18 : decode cX3_copyFrom 18 = .ok (.getfield 19, 3) := by decide +kernel
theorem dX3_copyFrom_21 : decode cX3_copyFrom 21 = .ok (.putfield 19, 3) := by decide +kernel
theorem dX3_copyFrom_24 : decode cX3_copyFrom 24 = .ok (.aload_n 0, 1) := by decide +kernel
theorem dX3_copyFrom_25 : decode cX3_copyFrom 25 = .ok (.aload_n 1, 1) := by decide +kernel
theorem dX3_copyFrom_26 : decode cX3_copyFrom 26 = .ok (.getfield 22, 3) := by decide +kernel
theorem dX3_copyFrom_29 : decode cX3_copyFrom 29 = .ok (.putfield 22, 3) := by decide +kernel
theorem dX3_copyFrom_32 : decode cX3_copyFrom 32 = .ok (.aload_n 0, 1) := by decide +kernel
theorem dX3_copyFrom_33 : decode cX3_copyFrom 33 = .ok (.aload_n 1, 1) := by decide +kernel
theorem dX3_copyFrom_34 : decode cX3_copyFrom 34 = .ok (.getfield 25, 3) := by decide +kernel
theorem dX3_copyFrom_37 : decode cX3_copyFrom 37 = .ok (.putfield 25, 3) := by decide +kernel
theorem dX3_copyFrom_40 : decode cX3_copyFrom 40 = .ok (.aload_n 0, 1) := by decide +kernel
theorem dX3_copyFrom_41 : decode cX3_copyFrom 41 = .ok (.aload_n 1, 1) := by decide +kernel
theorem dX3_copyFrom_42 : decode cX3_copyFrom 42 = .ok (.getfield 28, 3) := by decide +kernel
theorem dX3_copyFrom_45 : decode cX3_copyFrom 45 = .ok (.putfield 28, 3) := by decide +kernel
theorem dX3_copyFrom_48 : decode cX3_copyFrom 48 = .ok (.aload_n 0, 1) := by decide +kernel
theorem dX3_copyFrom_49 : decode cX3_copyFrom 49 = .ok (.aload_n 1, 1) := by decide +kernel
theorem dX3_copyFrom_50 : decode cX3_copyFrom 50 = .ok (.getfield 31, 3) := by decide +kernel
theorem dX3_copyFrom_53 : decode cX3_copyFrom 53 = .ok (.putfield 31, 3) := by decide +kernel
theorem dX3_copyFrom_56 : decode cX3_copyFrom 56 = .ok (.aload_n 0, 1) := by decide +kernel
theorem dX3_copyFrom_57 : decode cX3_copyFrom 57 = .ok (.aload_n 1, 1) := by decide +kernel
theorem dX3_copyFrom_58 : decode cX3_copyFrom 58 = .ok (.getfield 34, 3) := by decide +kernel
theorem dX3_copyFrom_61 : decode cX3_copyFrom 61 = .ok (.putfield 34, 3) := by decide +kernel
theorem dX3_copyFrom_64 : decode cX3_copyFrom 64 = .ok (.aload_n 0, 1) := by decide +kernel
theorem dX3_copyFrom_65 : decode cX3_copyFrom 65 = .ok (.aload_n 1, 1) := by decide +kernel
theorem dX3_copyFrom_66 : decode cX3_copyFrom 66 = .ok (.getfield 37, 3) := by decide +kernel
theorem dX3_copyFrom_69 : decode cX3_copyFrom 69 = .ok (.putfield 37, 3) := by decide +kernel
theorem dX3_copyFrom_72 : decode cX3_copyFrom 72 = .ok (.aload_n 1, 1) := by decide +kernel
theorem dX3_copyFrom_73 : decode cX3_copyFrom 73 = .ok (.getfield 40, 3) := by decide +kernel
theorem dX3_copyFrom_76 : decode cX3_copyFrom 76 = .ok (.iconst 0, 1) := by decide +kernel
theorem dX3_copyFrom_77 : decode cX3_copyFrom 77 = .ok (.aload_n 0, 1) := by decide +kernel
theorem dX3_copyFrom_78 : decode cX3_copyFrom 78 = .ok (.getfield 40, 3) := by decide +kernel
theorem dX3_copyFrom_81 : decode cX3_copyFrom 81 = .ok (.iconst 0, 1) := by decide +kernel
theorem dX3_copyFrom_82 : decode cX3_copyFrom 82 = .ok (.bipush 12, 2) := by decide +kernel
theorem dX3_copyFrom_84 : decode cX3_copyFrom 84 = .ok (.invokestatic 66, 3) := by decide +kernel
theorem dX3_copyFrom_87 : decode cX3_copyFrom 87 = .ok (.aload_n 1, 1) := by decide +kernel
theorem dX3_copyFrom_88 : decode cX3_copyFrom 88 = .ok (.getfield 44, 3) := by decide +kernel
theorem dX3_copyFrom_91 : decode cX3_copyFrom 91 = .ok (.iconst 0, 1) := by decide +kernel
theorem dX3_copyFrom_92 : decode cX3_copyFrom 92 = .ok (.aload_n 0, 1) := by decide +kernel
theorem dX3_copyFrom_93 : decode cX3_copyFrom 93 = .ok (.getfield 44, 3) := by decide +kernel
theorem dX3_copyFrom_96 : decode cX3_copyFrom 96 = .ok (.iconst 0, 1) := by decide +kernel
theorem dX3_copyFrom_97 : decode cX3_copyFrom 97 = .ok (.bipush 12, 2) := by decide +kernel
theorem dX3_copyFrom_99 : decode cX3_copyFrom 99 = .ok (.invokestatic 66, 3) := by decide +kernel
theorem dX3_copyFrom_102 : decode cX3_copyFrom 102 = .ok (.return_, 1) := by decide +kernel
theorem dX4_init_0 : decode cX4_init 0 = .ok (.aload_n 0, 1) := by decide +kernel
theorem dX4_init_1 : decode cX4_init 1 = .ok (.invokespecial 3, 3) := by decide +kernel
theorem dX4_init_4 : decode cX4_init 4 = .ok (.aload_n 0, 1) := by decide +kernel
theorem dX4_init_5 : decode cX4_init 5 = .ok (.new 9, 3) := by decide +kernel
theorem dX4_init_8 : decode cX4_init 8 = .ok (.dup, 1) := by decide +kernel
theorem dX4_init_9 : decode cX4_init 9 = .ok (.invokespecial 11, 3) := by decide +kernel
theorem dX4_init_12 : decode cX4_init 12 = .ok (.putfield 12, 3) := by decide +kernel
theorem dX4_init_15 : decode cX4_init 15 = .ok (.aload_n 0, 1) := by decide +kernel
theorem dX4_init_16 : decode cX4_init 16 = .ok (.iconst 5, 1) := by decide +kernel
theorem dX4_init_17 : decode cX4_init 17 = .ok (.anewarray 18, 3) := by decide +kernel
theorem dX4_init_20 : decode cX4_init 20 = .ok (.putfield 20, 3) := by decide +kernel
theorem dX4_init_23 : decode cX4_init 23 = .ok (.aload_n 0, 1) := by decide +kernel
theorem dX4_init_24 : decode cX4_init 24 = .ok (.bipush 8, 2) := by decide +kernel
theorem dX4_init_26 : decode cX4_init 26 = .ok (.anewarray 24, 3) := by decide +kernel
theorem dX4_init_29 : decode cX4_init 29 = .ok (.putfield 26, 3) := by decide +kernel
theorem dX4_init_32 : decode cX4_init 32 = .ok (.aload_n 0, 1) := by decide +kernel
theorem dX4_init_33 : decode cX4_init 33 = .ok (.iconst 0, 1) := by decide +kernel
theorem dX4_init_34 : decode cX4_init 34 = .ok (.putfield 30, 3) := by decide +kernel
theorem dX4_init_37 : decode cX4_init 37 = .ok (.aload_n 0, 1) := by decide +kernel
theorem dX4_init_38 : decode cX4_init 38 = .ok (.bipush (-6), 2) := by decide +kernel
theorem dX4_init_40 : decode cX4_init 40 = .ok (.putfield 34, 3) := by decide +kernel
theorem dX4_init_43 : decode cX4_init 43 = .ok (.aload_n 0, 1) := by decide +kernel
theorem dX4_init_44 : decode cX4_init 44 = .ok (.iconst 0, 1) := by decide +kernel
theorem dX4_init_45 : decode cX4_init 45 = .ok (.putfield 37, 3) := by decide +kernel
theorem dX4_init_48 : decode cX4_init 48 = .ok (.aload_n 0, 1) := by decide +kernel
theorem dX4_init_49 : decode cX4_init 49 = .ok (.iconst 0, 1) := by decide +kernel
theorem dX4_init_50 : decode cX4_init 50 = .ok (.putfield 40, 3) := by decide +kernel
theorem dX4_init_53 : decode cX4_init 53 = .ok (.iconst 0, 1) := by decide +kernel
theorem dX4_init_54 : decode cX4_init 54 = .ok (.istore_n 1, 1) := by decide +kernel
theorem dX4_init_55 : decode cX4_init 55 = .ok (.iload_n 1, 1) := by decide +kernel
theorem dX4_init_56 : decode cX4_init 56 = .ok (.iconst 5, 1) := by decide +kernel
theorem dX4_init_57 : decode cX4_init 57 = .ok (.if_icmp .ge 22, 3) := by decide +kernel
theorem dX4_init_60 : decode cX4_init 60 = .ok (.aload_n 0, 1) := by decide +kernel
theorem dX4_init_61 : decode cX4_init 61 = .ok (.getfield 20, 3) := by decide +kernel
theorem dX4_init_64 : decode cX4_init 64 = .ok (.iload_n 1, 1) := by decide +kernel
theorem dX4_init_65 : decode cX4_init 65 = .ok (.new 18, 3) := by decide +kernel
theorem dX4_init_68 : decode cX4_init 68 = .ok (.dup, 1) := by decide +kernel
theorem dX4_init_69 : decode cX4_init 69 = .ok (.invokespecial 43, 3) := by decide +kernel
theorem dX4_init_72 : decode cX4_init 72 = .ok (.aastore, 1) := by decide +kernel
theorem dX4_init_73 : decode cX4_init 73 = .ok (.iinc 1 1, 3) := by decide +kernel
theorem dX4_init_76 : decode cX4_init 76 = .ok (.goto (-21), 3) := by decide +kernel
theorem dX4_init_79 : decode cX4_init 79 = .ok (.iconst 0, 1) := by decide +kernel
theorem dX4_init_80 : decode cX4_init 80 = .ok (.istore_n 1, 1) := by decide +kernel
theorem dX4_init_81 : decode cX4_init 81 = .ok (.iload_n 1, 1) := by decide +kernel
theorem dX4_init_82 : decode cX4_init 82 = .ok (.bipush 8, 2) := by decide +kernel
theorem dX4_init_84 : decode cX4_init 84 = .ok (.if_icmp .ge 22, 3) := by decide +kernel
theorem dX4_init_87 : decode cX4_init 87 = .ok (.aload_n 0, 1) := by decide +kernel
theorem dX4_init_88 : decode cX4_init 88 = .ok (.getfield 26, 3) := by decide +kernel
theorem dX4_init_91 : decode cX4_init 91 = .ok (.iload_n 1, 1) := by decide +kernel
theorem dX4_init_92 : decode cX4_init 92 = .ok (.new 24, 3) := by decide +kernel
theorem dX4_init_95 : decode cX4_init 95 = .ok (.dup, 1) := by decide +kernel
theorem dX4_init_96 : decode cX4_init 96 = .ok (.invokespecial 44, 3) := by decide +kernel
theorem dX4_init_99 : decode cX4_init 99 = .ok (.aastore, 1) := by decide +kernel
theorem dX4_init_100 : decode cX4_init 100 = .ok (.iinc 1 1, 3) := by decide +kernel
theorem dX4_init_103 : decode cX4_init 103 = .ok (.goto (-22), 3) := by decide +kernel
theorem dX4_init_106 : decode cX4_init 106 = .ok (.return_, 1) := by decide +kernel
theorem dX4_findReplica_0 : decode cX4_findReplica 0 = .ok (.iload_n 1, 1) := by decide +kernel
theorem dX4_findReplica_1 : decode cX4_findReplica 1 = .ok (.iconst 0, 1) := by decide +kernel
theorem dX4_findReplica_2 : decode cX4_findReplica 2 = .ok (.iconst 4, 1) := by decide +kernel
theorem dX4_findReplica_3 : decode cX4_findReplica 3 = .ok (.invokestatic 45, 3) := by decide +kernel
theorem dX4_findReplica_6 : decode cX4_findReplica 6 = .ok (.ifCond .ne 5, 3) := by decide +kernel
theorem dX4_findReplica_9 : decode cX4_findReplica 9 = .ok (.aconst_null, 1) := by decide +kernel
theorem dX4_findReplica_10 : decode cX4_findReplica 10 = .ok (.areturn, 1) := by decide +kernel
theorem dX4_findReplica_11 : decode cX4_findReplica 11 = .ok (.aload_n 0, 1) := by decide +kernel
theorem dX4_findReplica_12 : decode cX4_findReplica 12 = .ok (.getfield 20, 3) := by decide +kernel
theorem dX4_findReplica_15 : decode cX4_findReplica 15 = .ok (.iload_n 1, 1) := by decide +kernel
theorem dX4_findReplica_16 : decode cX4_findReplica 16 = .ok (.aaload, 1) := by decide +kernel
theorem dX4_findReplica_17 : decode cX4_findReplica 17 = .ok (.astore_n 2, 1) := by decide +kernel
theorem dX4_findReplica_18 : decode cX4_findReplica 18 = .ok (.aload_n 2, 1) := by decide +kernel
theorem dX4_findReplica_19 : decode cX4_findReplica 19 = .ok (.ifnull 14, 3) := by decide +kernel
theorem dX4_findReplica_22 : decode cX4_findReplica 22 = .ok (.aload_n 2, 1) := by decide +kernel
theorem dX4_findReplica_23 : decode cX4_findReplica 23 = .ok (.getfield 49, 3) := by decide +kernel
theorem dX4_findReplica_26 : decode cX4_findReplica 26 = .ok (.ifCond .eq 7, 3) := by decide +kernel
theorem dX4_findReplica_29 : decode cX4_findReplica 29 = .ok (.aload_n 2, 1) := by decide +kernel
theorem dX4_findReplica_30 : decode cX4_findReplica 30 = .ok (.goto 4, 3) := by decide +kernel
theorem dX4_findReplica_33 : decode cX4_findReplica 33 = .ok (.aconst_null, 1) := by decide +kernel
theorem dX4_findReplica_34 : decode cX4_findReplica 34 = .ok (.areturn, 1) := by decide +kernel
theorem dX4_findSession_0 : decode cX4_findSession 0 = .ok (.iload_n 1, 1) := by decide +kernel
theorem dX4_findSession_1 : decode cX4_findSession 1 = .ok (.iconst 0, 1) := by decide +kernel
theorem dX4_findSession_2 : decode cX4_findSession 2 = .ok (.bipush 7, 2) := by decide +kernel
theorem dX4_findSession_4 : decode cX4_findSession 4 = .ok (.invokestatic 45, 3) := by decide +kernel
theorem dX4_findSession_7 : decode cX4_findSession 7 = .ok (.ifCond .ne 5, 3) := by decide +kernel
theorem dX4_findSession_10 : decode cX4_findSession 10 = .ok (.aconst_null, 1) := by decide +kernel
theorem dX4_findSession_11 : decode cX4_findSession 11 = .ok (.areturn, 1) := by decide +kernel
theorem dX4_findSession_12 : decode cX4_findSession 12 = .ok (.aload_n 0, 1) := by decide +kernel
theorem dX4_findSession_13 : decode cX4_findSession 13 = .ok (.getfield 26, 3) := by decide +kernel
theorem dX4_findSession_16 : decode cX4_findSession 16 = .ok (.iload_n 1, 1) := by decide +kernel
theorem dX4_findSession_17 : decode cX4_findSession 17 = .ok (.aaload, 1) := by decide +kernel
theorem dX4_findSession_18 : decode cX4_findSession 18 = .ok (.astore_n 2, 1) := by decide +kernel
theorem dX4_findSession_19 : decode cX4_findSession 19 = .ok (.aload_n 2, 1) := by decide +kernel
theorem dX4_findSession_20 : decode cX4_findSession 20 = .ok (.ifnull 14, 3) := by decide +kernel
theorem dX4_findSession_23 : decode cX4_findSession 23 = .ok (.aload_n 2, 1) := by decide +kernel
theorem dX4_findSession_24 : decode cX4_findSession 24 = .ok (.getfield 53, 3) := by decide +kernel
theorem dX4_findSession_27 : decode cX4_findSession 27 = .ok (.ifCond .eq 7, 3) := by decide +kernel
theorem dX4_findSession_30 : decode cX4_findSession 30 = .ok (.aload_n 2, 1) := by decide +kernel
theorem dX4_findSession_31 : decode cX4_findSession 31 = .ok (.goto 4, 3) := by decide +kernel
theorem dX4_findSession_34 : decode cX4_findSession 34 = .ok (.aconst_null, 1) := by decide +kernel
theorem dX4_findSession_35 : decode cX4_findSession 35 = .ok (.areturn, 1) := by decide +kernel
theorem dX4_takeFreeReplica_0 : decode cX4_takeFreeReplica 0 = .ok (.iconst 0, 1) := by decide +kernel
theorem dX4_takeFreeReplica_1 : decode cX4_takeFreeReplica 1 = .ok (.istore_n 3, 1) := by decide +kernel
theorem dX4_takeFreeReplica_2 : decode cX4_takeFreeReplica 2 = .ok (.iload_n 3, 1) := by decide +kernel
theorem dX4_takeFreeReplica_3 : decode cX4_takeFreeReplica 3 = .ok (.iconst 5, 1) := by decide +kernel
theorem dX4_takeFreeReplica_4 : decode cX4_takeFreeReplica 4 = .ok (.if_icmp .ge 39, 3) := by decide +kernel
theorem dX4_takeFreeReplica_7 : decode cX4_takeFreeReplica 7 = .ok (.aload_n 0, 1) := by decide +kernel
theorem dX4_takeFreeReplica_8 : decode cX4_takeFreeReplica 8 = .ok (.getfield 20, 3) := by decide +kernel
theorem dX4_takeFreeReplica_11 : decode cX4_takeFreeReplica 11 = .ok (.iload_n 3, 1) := by decide +kernel
theorem dX4_takeFreeReplica_12 : decode cX4_takeFreeReplica 12 = .ok (.aaload, 1) := by decide +kernel
theorem dX4_takeFreeReplica_13 : decode cX4_takeFreeReplica 13 = .ok (.astore 4, 2) := by decide +kernel
theorem dX4_takeFreeReplica_15 : decode cX4_takeFreeReplica 15 = .ok (.aload 4, 2) := by decide +kernel
theorem dX4_takeFreeReplica_17 : decode cX4_takeFreeReplica 17 = .ok (.ifnull 20, 3) := by decide +kernel
theorem dX4_takeFreeReplica_20 : decode cX4_takeFreeReplica 20 = .ok (.aload 4, 2) := by decide +kernel
theorem dX4_takeFreeReplica_22 : decode cX4_takeFreeReplica 22 = .ok (.getfield 49, 3) := by decide +kernel
theorem dX4_takeFreeReplica_25 : decode cX4_takeFreeReplica 25 = .ok (.ifCond .ne 12, 3) := by decide +kernel
theorem dX4_takeFreeReplica_28 : decode cX4_takeFreeReplica 28 = .ok (.aload 4, 2) := by decide +kernel
theorem dX4_takeFreeReplica_30 : decode cX4_takeFreeReplica 30 = .ok (.iload_n 1, 1) := by decide +kernel
theorem dX4_takeFreeReplica_31 : decode cX4_takeFreeReplica 31 = .ok (.iload_n 2, 1) := by decide +kernel
theorem dX4_takeFreeReplica_32 : decode cX4_takeFreeReplica 32 = .ok (.invokevirtual 56, 3) := by decide +kernel
theorem dX4_takeFreeReplica_35 : decode cX4_takeFreeReplica 35 = .ok (.iload_n 3, 1) := by decide +kernel
theorem dX4_takeFreeReplica_36 : decode cX4_takeFreeReplica 36 = .ok (.ireturn, 1) := by decide +kernel
theorem dX4_takeFreeReplica_37 : decode cX4_takeFreeReplica 37 = .ok (.iinc 3 1, 3) := by decide +kernel
theorem dX4_takeFreeReplica_40 : decode cX4_takeFreeReplica 40 = .ok (.goto (-38), 3) := by decide +kernel
theorem dX4_takeFreeReplica_43 : decode cX4_takeFreeReplica 43 = .ok (.bipush (-4), 2) := by decide +kernel
theorem dX4_takeFreeReplica_45 : decode cX4_takeFreeReplica 45 = .ok (.ireturn, 1) := by decide +kernel
theorem dX4_takeFreeSession_0 : decode cX4_takeFreeSession 0 = .ok (.iconst 0, 1) := by decide +kernel
theorem dX4_takeFreeSession_1 : decode cX4_takeFreeSession 1 = .ok (.istore 4, 2) := by decide +kernel
theorem dX4_takeFreeSession_3 : decode cX4_takeFreeSession 3 = .ok (.iload 4, 2) := by decide +kernel
theorem dX4_takeFreeSession_5 : decode cX4_takeFreeSession 5 = .ok (.bipush 8, 2) := by decide +kernel
theorem dX4_takeFreeSession_7 : decode cX4_takeFreeSession 7 = .ok (.if_icmp .ge 42, 3) := by decide +kernel
theorem dX4_takeFreeSession_10 : decode cX4_takeFreeSession 10 = .ok (.aload_n 0, 1) := by decide +kernel
theorem dX4_takeFreeSession_11 : decode cX4_takeFreeSession 11 = .ok (.getfield 26, 3) := by decide +kernel
theorem dX4_takeFreeSession_14 : decode cX4_takeFreeSession 14 = .ok (.iload 4, 2) := by decide +kernel
theorem dX4_takeFreeSession_16 : decode cX4_takeFreeSession 16 = .ok (.aaload, 1) := by decide +kernel
theorem dX4_takeFreeSession_17 : decode cX4_takeFreeSession 17 = .ok (.astore 5, 2) := by decide +kernel
theorem dX4_takeFreeSession_19 : decode cX4_takeFreeSession 19 = .ok (.aload 5, 2) := by decide +kernel
theorem dX4_takeFreeSession_21 : decode cX4_takeFreeSession 21 = .ok (.ifnull 22, 3) := by decide +kernel
theorem dX4_takeFreeSession_24 : decode cX4_takeFreeSession 24 = .ok (.aload 5, 2) := by decide +kernel
theorem dX4_takeFreeSession_26 : decode cX4_takeFreeSession 26 = .ok (.getfield 53, 3) := by decide +kernel
theorem dX4_takeFreeSession_29 : decode cX4_takeFreeSession 29 = .ok (.ifCond .ne 14, 3) := by decide +kernel
theorem dX4_takeFreeSession_32 : decode cX4_takeFreeSession 32 = .ok (.aload 5, 2) := by decide +kernel
theorem dX4_takeFreeSession_34 : decode cX4_takeFreeSession 34 = .ok (.iload_n 1, 1) := by decide +kernel
theorem dX4_takeFreeSession_35 : decode cX4_takeFreeSession 35 = .ok (.iload_n 2, 1) := by decide +kernel
theorem dX4_takeFreeSession_36 : decode cX4_takeFreeSession 36 = .ok (.iload_n 3, 1) := by decide +kernel
theorem dX4_takeFreeSession_37 : decode cX4_takeFreeSession 37 = .ok (.invokevirtual 60, 3) := by decide +kernel
theorem dX4_takeFreeSession_40 : decode cX4_takeFreeSession 40 = .ok (.iload 4, 2) := by decide +kernel
theorem dX4_takeFreeSession_42 : decode cX4_takeFreeSession 42 = .ok (.ireturn, 1) := by decide +kernel
theorem dX4_takeFreeSession_43 : decode cX4_takeFreeSession 43 = .ok (.iinc 4 1, 3) := by decide +kernel
theorem dX4_takeFreeSession_46 : decode cX4_takeFreeSession 46 = .ok (.goto (-43), 3) := by decide +kernel
theorem dX4_takeFreeSession_49 : decode cX4_takeFreeSession 49 = .ok (.bipush (-4), 2) := by decide +kernel
theorem dX4_takeFreeSession_51 : decode cX4_takeFreeSession 51 = .ok (.ireturn, 1) := by decide +kernel
theorem dX4_replicaMask_0 : decode cX4_replicaMask 0 = .ok (.iconst 0, 1) := by decide +kernel
theorem dX4_replicaMask_1 : decode cX4_replicaMask 1 = .ok (.istore_n 1, 1) := by decide +kernel
theorem dX4_replicaMask_2 : decode cX4_replicaMask 2 = .ok (.iconst 0, 1) := by decide +kernel
theorem dX4_replicaMask_3 : decode cX4_replicaMask 3 = .ok (.istore_n 2, 1) := by decide +kernel
theorem dX4_replicaMask_4 : decode cX4_replicaMask 4 = .ok (.iload_n 2, 1) := by decide +kernel
theorem dX4_replicaMask_5 : decode cX4_replicaMask 5 = .ok (.iconst 5, 1) := by decide +kernel
theorem dX4_replicaMask_6 : decode cX4_replicaMask 6 = .ok (.if_icmp .ge 23, 3) := by decide +kernel
theorem dX4_replicaMask_9 : decode cX4_replicaMask 9 = .ok (.aload_n 0, 1) := by decide +kernel
theorem dX4_replicaMask_10 : decode cX4_replicaMask 10 = .ok (.iload_n 2, 1) := by decide +kernel
theorem dX4_replicaMask_11 : decode cX4_replicaMask 11 = .ok (.invokevirtual 63, 3) := by decide +kernel
theorem dX4_replicaMask_14 : decode cX4_replicaMask 14 = .ok (.ifnull 9, 3) := by decide +kernel
theorem dX4_replicaMask_17 : decode cX4_replicaMask 17 = .ok (.iload_n 1, 1) := by decide +kernel
theorem dX4_replicaMask_18 : decode cX4_replicaMask 18 = .ok (.iconst 1, 1) := by decide +kernel
theorem dX4_replicaMask_19 : decode cX4_replicaMask 19 = .ok (.iload_n 2, 1) := by decide +kernel
theorem dX4_replicaMask_20 : decode cX4_replicaMask 20 = .ok (.ishl, 1) := by decide +kernel
theorem dX4_replicaMask_21 : decode cX4_replicaMask 21 = .ok (.ior, 1) := by decide +kernel
theorem dX4_replicaMask_22 : decode cX4_replicaMask 22 = .ok (.istore_n 1, 1) := by decide +kernel
theorem dX4_replicaMask_23 : decode cX4_replicaMask 23 = .ok (.iinc 2 1, 3) := by decide +kernel
theorem dX4_replicaMask_26 : decode cX4_replicaMask 26 = .ok (.goto (-22), 3) := by decide +kernel
theorem dX4_replicaMask_29 : decode cX4_replicaMask 29 = .ok (.iload_n 1, 1) := by decide +kernel
theorem dX4_replicaMask_30 : decode cX4_replicaMask 30 = .ok (.ireturn, 1) := by decide +kernel
theorem dX4_sessionMask_0 : decode cX4_sessionMask 0 = .ok (.iconst 0, 1) := by decide +kernel
theorem dX4_sessionMask_1 : decode cX4_sessionMask 1 = .ok (.istore_n 1, 1) := by decide +kernel
theorem dX4_sessionMask_2 : decode cX4_sessionMask 2 = .ok (.iconst 0, 1) := by decide +kernel
theorem dX4_sessionMask_3 : decode cX4_sessionMask 3 = .ok (.istore_n 2, 1) := by decide +kernel
theorem dX4_sessionMask_4 : decode cX4_sessionMask 4 = .ok (.iload_n 2, 1) := by decide +kernel
theorem dX4_sessionMask_5 : decode cX4_sessionMask 5 = .ok (.bipush 8, 2) := by decide +kernel
theorem dX4_sessionMask_7 : decode cX4_sessionMask 7 = .ok (.if_icmp .ge 23, 3) := by decide +kernel
theorem dX4_sessionMask_10 : decode cX4_sessionMask 10 = .ok (.aload_n 0, 1) := by decide +kernel
theorem dX4_sessionMask_11 : decode cX4_sessionMask 11 = .ok (.iload_n 2, 1) := by decide +kernel
theorem dX4_sessionMask_12 : decode cX4_sessionMask 12 = .ok (.invokevirtual 67, 3) := by decide +kernel
theorem dX4_sessionMask_15 : decode cX4_sessionMask 15 = .ok (.ifnull 9, 3) := by decide +kernel
theorem dX4_sessionMask_18 : decode cX4_sessionMask 18 = .ok (.iload_n 1, 1) := by decide +kernel
theorem dX4_sessionMask_19 : decode cX4_sessionMask 19 = .ok (.iconst 1, 1) := by decide +kernel
theorem dX4_sessionMask_20 : decode cX4_sessionMask 20 = .ok (.iload_n 2, 1) := by decide +kernel
theorem dX4_sessionMask_21 : decode cX4_sessionMask 21 = .ok (.ishl, 1) := by decide +kernel
theorem dX4_sessionMask_22 : decode cX4_sessionMask 22 = .ok (.ior, 1) := by decide +kernel
theorem dX4_sessionMask_23 : decode cX4_sessionMask 23 = .ok (.istore_n 1, 1) := by decide +kernel
theorem dX4_sessionMask_24 : decode cX4_sessionMask 24 = .ok (.iinc 2 1, 3) := by decide +kernel
theorem dX4_sessionMask_27 : decode cX4_sessionMask 27 = .ok (.goto (-23), 3) := by decide +kernel
theorem dX4_sessionMask_30 : decode cX4_sessionMask 30 = .ok (.iload_n 1, 1) := by decide +kernel
theorem dX4_sessionMask_31 : decode cX4_sessionMask 31 = .ok (.ireturn, 1) := by decide +kernel
theorem dX4_countSessionsAt_0 : decode cX4_countSessionsAt 0 = .ok (.iconst 0, 1) := by decide +kernel
theorem dX4_countSessionsAt_1 : decode cX4_countSessionsAt 1 = .ok (.istore_n 2, 1) := by decide +kernel
theorem dX4_countSessionsAt_2 : decode cX4_countSessionsAt 2 = .ok (.iconst 0, 1) := by decide +kernel
theorem dX4_countSessionsAt_3 : decode cX4_countSessionsAt 3 = .ok (.istore_n 3, 1) := by decide +kernel
theorem dX4_countSessionsAt_4 : decode cX4_countSessionsAt 4 = .ok (.iload_n 3, 1) := by decide +kernel
theorem dX4_countSessionsAt_5 : decode cX4_countSessionsAt 5 = .ok (.bipush 8, 2) := by decide +kernel
theorem dX4_countSessionsAt_7 : decode cX4_countSessionsAt 7 = .ok (.if_icmp .ge 33, 3) := by decide +kernel
theorem dX4_countSessionsAt_10 : decode cX4_countSessionsAt 10 = .ok (.aload_n 0, 1) := by decide +kernel
theorem dX4_countSessionsAt_11 : decode cX4_countSessionsAt 11 = .ok (.iload_n 3, 1) := by decide +kernel
theorem dX4_countSessionsAt_12 : decode cX4_countSessionsAt 12 = .ok (.invokevirtual 67, 3) := by decide +kernel
theorem dX4_countSessionsAt_15 : decode cX4_countSessionsAt 15 = .ok (.astore 4, 2) := by decide +kernel
theorem dX4_countSessionsAt_17 : decode cX4_countSessionsAt 17 = .ok (.aload 4, 2) := by decide +kernel
theorem dX4_countSessionsAt_19 : decode cX4_countSessionsAt 19 = .ok (.ifnull 15, 3) := by decide +kernel
theorem dX4_countSessionsAt_22 : decode cX4_countSessionsAt 22 = .ok (.aload 4, 2) := by decide +kernel
theorem dX4_countSessionsAt_24 : decode cX4_countSessionsAt 24 = .ok (.getfield 71, 3) := by decide +kernel
theorem dX4_countSessionsAt_27 : decode cX4_countSessionsAt 27 = .ok (.iload_n 1, 1) := by decide +kernel
theorem dX4_countSessionsAt_28 : decode cX4_countSessionsAt 28 = .ok (.if_icmp .ne 6, 3) := by decide +kernel
theorem dX4_countSessionsAt_31 : decode cX4_countSessionsAt 31 = .ok (.iinc 2 1, 3) := by decide +kernel
theorem dX4_countSessionsAt_34 : decode cX4_countSessionsAt 34 = .ok (.iinc 3 1, 3) := by decide +kernel
theorem dX4_countSessionsAt_37 : decode cX4_countSessionsAt 37 = .ok (.goto (-33), 3) := by decide +kernel
theorem dX4_countSessionsAt_40 : decode cX4_countSessionsAt 40 = .ok (.iload_n 2, 1) := by decide +kernel
theorem dX4_countSessionsAt_41 : decode cX4_countSessionsAt 41 = .ok (.ireturn, 1) := by decide +kernel
theorem dX4_sendSessionsToPrimary_0 : decode cX4_sendSessionsToPrimary 0 = .ok (.iconst 0, 1) := by decide +kernel
theorem dX4_sendSessionsToPrimary_1 : decode cX4_sendSessionsToPrimary 1 = .ok (.istore_n 2, 1) := by decide +kernel
theorem dX4_sendSessionsToPrimary_2 : decode cX4_sendSessionsToPrimary 2 = .ok (.iconst 0, 1) := by decide +kernel
theorem dX4_sendSessionsToPrimary_3 : decode cX4_sendSessionsToPrimary 3 = .ok (.istore_n 3, 1) := by decide +kernel
theorem dX4_sendSessionsToPrimary_4 : decode cX4_sendSessionsToPrimary 4 = .ok (.iload_n 3, 1) := by decide +kernel
theorem dX4_sendSessionsToPrimary_5 : decode cX4_sendSessionsToPrimary 5 = .ok (.bipush 8, 2) := by decide +kernel
theorem dX4_sendSessionsToPrimary_7 : decode cX4_sendSessionsToPrimary 7 = .ok (.if_icmp .ge 40, 3) := by decide +kernel
theorem dX4_sendSessionsToPrimary_10 : decode cX4_sendSessionsToPrimary 10 = .ok (.aload_n 0, 1) := by decide +kernel
theorem dX4_sendSessionsToPrimary_11 : decode cX4_sendSessionsToPrimary 11 = .ok (.iload_n 3, 1) := by decide +kernel
theorem dX4_sendSessionsToPrimary_12 : decode cX4_sendSessionsToPrimary 12 = .ok (.invokevirtual 67, 3) := by decide +kernel
theorem dX4_sendSessionsToPrimary_15 : decode cX4_sendSessionsToPrimary 15 = .ok (.astore 4, 2) := by decide +kernel
theorem dX4_sendSessionsToPrimary_17 : decode cX4_sendSessionsToPrimary 17 = .ok (.aload 4, 2) := by decide +kernel
theorem dX4_sendSessionsToPrimary_19 : decode cX4_sendSessionsToPrimary 19 = .ok (.ifnull 22, 3) := by decide +kernel
theorem dX4_sendSessionsToPrimary_22 : decode cX4_sendSessionsToPrimary 22 = .ok (.aload 4, 2) := by decide +kernel
theorem dX4_sendSessionsToPrimary_24 : decode cX4_sendSessionsToPrimary 24 = .ok (.getfield 71, 3) := by decide +kernel
theorem dX4_sendSessionsToPrimary_27 : decode cX4_sendSessionsToPrimary 27 = .ok (.iload_n 1, 1) := by decide +kernel
theorem dX4_sendSessionsToPrimary_28 : decode cX4_sendSessionsToPrimary 28 = .ok (.if_icmp .ne 13, 3) := by decide +kernel
theorem dX4_sendSessionsToPrimary_31 : decode cX4_sendSessionsToPrimary 31 = .ok (.aload 4, 2) := by decide +kernel
theorem dX4_sendSessionsToPrimary_33 : decode cX4_sendSessionsToPrimary 33 = .ok (.bipush 9, 2) := by decide +kernel
theorem dX4_sendSessionsToPrimary_35 : decode cX4_sendSessionsToPrimary 35 = .ok (.putfield 71, 3) := by decide +kernel
theorem dX4_sendSessionsToPrimary_38 : decode cX4_sendSessionsToPrimary 38 = .ok (.iinc 2 1, 3) := by decide +kernel
theorem dX4_sendSessionsToPrimary_41 : decode cX4_sendSessionsToPrimary 41 = .ok (.iinc 3 1, 3) := by decide +kernel
theorem dX4_sendSessionsToPrimary_44 : decode cX4_sendSessionsToPrimary 44 = .ok (.goto (-40), 3) := by decide +kernel
theorem dX4_sendSessionsToPrimary_47 : decode cX4_sendSessionsToPrimary 47 = .ok (.iload_n 2, 1) := by decide +kernel
theorem dX4_sendSessionsToPrimary_48 : decode cX4_sendSessionsToPrimary 48 = .ok (.ireturn, 1) := by decide +kernel
theorem dX4_hasPlace_0 : decode cX4_hasPlace 0 = .ok (.iload_n 1, 1) := by decide +kernel
theorem dX4_hasPlace_1 : decode cX4_hasPlace 1 = .ok (.bipush 9, 2) := by decide +kernel
theorem dX4_hasPlace_3 : decode cX4_hasPlace 3 = .ok (.if_icmp .eq 11, 3) := by decide +kernel
theorem dX4_hasPlace_6 : decode cX4_hasPlace 6 = .ok (.aload_n 0, 1) := by decide +kernel
theorem dX4_hasPlace_7 : decode cX4_hasPlace 7 = .ok (.iload_n 1, 1) := by decide +kernel
theorem dX4_hasPlace_8 : decode cX4_hasPlace 8 = .ok (.invokevirtual 63, 3) := by decide +kernel
theorem dX4_hasPlace_11 : decode cX4_hasPlace 11 = .ok (.ifnull 7, 3) := by decide +kernel
theorem dX4_hasPlace_14 : decode cX4_hasPlace 14 = .ok (.iconst 1, 1) := by decide +kernel
theorem dX4_hasPlace_15 : decode cX4_hasPlace 15 = .ok (.goto 4, 3) := by decide +kernel
theorem dX4_hasPlace_18 : decode cX4_hasPlace 18 = .ok (.iconst 0, 1) := by decide +kernel
theorem dX4_hasPlace_19 : decode cX4_hasPlace 19 = .ok (.ireturn, 1) := by decide +kernel
theorem dX4_positionOf_0 : decode cX4_positionOf 0 = .ok (.iload_n 1, 1) := by decide +kernel
theorem dX4_positionOf_1 : decode cX4_positionOf 1 = .ok (.bipush 9, 2) := by decide +kernel
theorem dX4_positionOf_3 : decode cX4_positionOf 3 = .ok (.if_icmp .ne 11, 3) := by decide +kernel
theorem dX4_positionOf_6 : decode cX4_positionOf 6 = .ok (.aload_n 0, 1) := by decide +kernel
theorem dX4_positionOf_7 : decode cX4_positionOf 7 = .ok (.getfield 12, 3) := by decide +kernel
theorem dX4_positionOf_10 : decode cX4_positionOf 10 = .ok (.getfield 74, 3) := by decide +kernel
theorem dX4_positionOf_13 : decode cX4_positionOf 13 = .ok (.ireturn, 1) := by decide +kernel
theorem dX4_positionOf_14 : decode cX4_positionOf 14 = .ok (.aload_n 0, 1) := by decide +kernel
theorem dX4_positionOf_15 : decode cX4_positionOf 15 = .ok (.iload_n 1, 1) := by decide +kernel
theorem dX4_positionOf_16 : decode cX4_positionOf 16 = .ok (.invokevirtual 63, 3) := by decide +kernel
theorem dX4_positionOf_19 : decode cX4_positionOf 19 = .ok (.astore_n 2, 1) := by decide +kernel
theorem dX4_positionOf_20 : decode cX4_positionOf 20 = .ok (.aload_n 2, 1) := by decide +kernel
theorem dX4_positionOf_21 : decode cX4_positionOf 21 = .ok (.ifnonnull 7, 3) := by decide +kernel
theorem dX4_positionOf_24 : decode cX4_positionOf 24 = .ok (.iconst (-1), 1) := by decide +kernel
theorem dX4_positionOf_25 : decode cX4_positionOf 25 = .ok (.goto 7, 3) := by decide +kernel
theorem dX4_positionOf_28 : decode cX4_positionOf 28 = .ok (.aload_n 2, 1) := by decide +kernel
theorem dX4_positionOf_29 : decode cX4_positionOf 29 = .ok (.getfield 77, 3) := by decide +kernel
theorem dX4_positionOf_32 : decode cX4_positionOf 32 = .ok (.ireturn, 1) := by decide +kernel
theorem dX4_passTicks_0 : decode cX4_passTicks 0 = .ok (.iconst 0, 1) := by decide +kernel
theorem dX4_passTicks_1 : decode cX4_passTicks 1 = .ok (.istore_n 2, 1) := by decide +kernel
theorem dX4_passTicks_2 : decode cX4_passTicks 2 = .ok (.iload_n 2, 1) := by decide +kernel
theorem dX4_passTicks_3 : decode cX4_passTicks 3 = .ok (.iconst 5, 1) := by decide +kernel
theorem dX4_passTicks_4 : decode cX4_passTicks 4 = .ok (.if_icmp .ge 31, 3) := by decide +kernel
theorem dX4_passTicks_7 : decode cX4_passTicks 7 = .ok (.aload_n 0, 1) := by decide +kernel
theorem dX4_passTicks_8 : decode cX4_passTicks 8 = .ok (.iload_n 2, 1) := by decide +kernel
theorem dX4_passTicks_9 : decode cX4_passTicks 9 = .ok (.invokevirtual 63, 3) := by decide +kernel
theorem dX4_passTicks_12 : decode cX4_passTicks 12 = .ok (.astore_n 3, 1) := by decide +kernel
theorem dX4_passTicks_13 : decode cX4_passTicks 13 = .ok (.aload_n 3, 1) := by decide +kernel
theorem dX4_passTicks_14 : decode cX4_passTicks 14 = .ok (.ifnull 15, 3) := by decide +kernel
theorem dX4_passTicks_17 : decode cX4_passTicks 17 = .ok (.aload_n 3, 1) := by decide +kernel
theorem dX4_passTicks_18 : decode cX4_passTicks 18 = .ok (.iload_n 1, 1) := by decide +kernel
theorem dX4_passTicks_19 : decode cX4_passTicks 19 = .ok (.aload_n 0, 1) := by decide +kernel
theorem dX4_passTicks_20 : decode cX4_passTicks 20 = .ok (.getfield 12, 3) := by decide +kernel
theorem dX4_passTicks_23 : decode cX4_passTicks 23 = .ok (.getfield 74, 3) := by decide +kernel
theorem dX4_passTicks_26 : decode cX4_passTicks 26 = .ok (.invokevirtual 80, 3) := by decide +kernel
theorem dX4_passTicks_29 : decode cX4_passTicks 29 = .ok (.iinc 2 1, 3) := by decide +kernel
theorem dX4_passTicks_32 : decode cX4_passTicks 32 = .ok (.goto (-30), 3) := by decide +kernel
theorem dX4_passTicks_35 : decode cX4_passTicks 35 = .ok (.return_, 1) := by decide +kernel
theorem dX4_countCaughtUp_0 : decode cX4_countCaughtUp 0 = .ok (.iconst 0, 1) := by decide +kernel
theorem dX4_countCaughtUp_1 : decode cX4_countCaughtUp 1 = .ok (.istore_n 1, 1) := by decide +kernel
theorem dX4_countCaughtUp_2 : decode cX4_countCaughtUp 2 = .ok (.iconst 0, 1) := by decide +kernel
theorem dX4_countCaughtUp_3 : decode cX4_countCaughtUp 3 = .ok (.istore_n 2, 1) := by decide +kernel
theorem dX4_countCaughtUp_4 : decode cX4_countCaughtUp 4 = .ok (.iload_n 2, 1) := by decide +kernel
theorem dX4_countCaughtUp_5 : decode cX4_countCaughtUp 5 = .ok (.iconst 5, 1) := by decide +kernel
theorem dX4_countCaughtUp_6 : decode cX4_countCaughtUp 6 = .ok (.if_icmp .ge 36, 3) := by decide +kernel
theorem dX4_countCaughtUp_9 : decode cX4_countCaughtUp 9 = .ok (.aload_n 0, 1) := by decide +kernel
theorem dX4_countCaughtUp_10 : decode cX4_countCaughtUp 10 = .ok (.iload_n 2, 1) := by decide +kernel
theorem dX4_countCaughtUp_11 : decode cX4_countCaughtUp 11 = .ok (.invokevirtual 63, 3) := by decide +kernel
theorem dX4_countCaughtUp_14 : decode cX4_countCaughtUp 14 = .ok (.astore_n 3, 1) := by decide +kernel
theorem dX4_countCaughtUp_15 : decode cX4_countCaughtUp 15 = .ok (.aload_n 3, 1) := by decide +kernel
theorem dX4_countCaughtUp_16 : decode cX4_countCaughtUp 16 = .ok (.ifnull 20, 3) := by decide +kernel
theorem dX4_countCaughtUp_19 : decode cX4_countCaughtUp 19 = .ok (.aload_n 3, 1) := by decide +kernel
theorem dX4_countCaughtUp_20 : decode cX4_countCaughtUp 20 = .ok (.getfield 77, 3) := by decide +kernel
theorem dX4_countCaughtUp_23 : decode cX4_countCaughtUp 23 = .ok (.aload_n 0, 1) := by decide +kernel
theorem dX4_countCaughtUp_24 : decode cX4_countCaughtUp 24 = .ok (.getfield 12, 3) := by decide +kernel
theorem dX4_countCaughtUp_27 : decode cX4_countCaughtUp 27 = .ok (.getfield 74, 3) := by decide +kernel
theorem dX4_countCaughtUp_30 : decode cX4_countCaughtUp 30 = .ok (.if_icmp .ne 6, 3) := by decide +kernel
theorem dX4_countCaughtUp_33 : decode cX4_countCaughtUp 33 = .ok (.iinc 1 1, 3) := by decide +kernel
theorem dX4_countCaughtUp_36 : decode cX4_countCaughtUp 36 = .ok (.iinc 2 1, 3) := by decide +kernel
theorem dX4_countCaughtUp_39 : decode cX4_countCaughtUp 39 = .ok (.goto (-35), 3) := by decide +kernel
theorem dX4_countCaughtUp_42 : decode cX4_countCaughtUp 42 = .ok (.iload_n 1, 1) := by decide +kernel
theorem dX4_countCaughtUp_43 : decode cX4_countCaughtUp 43 = .ok (.ireturn, 1) := by decide +kernel
theorem dX4_neededPosition_0 : decode cX4_neededPosition 0 = .ok (.aload_n 1, 1) := by decide +kernel
theorem dX4_neededPosition_1 : decode cX4_neededPosition 1 = .ok (.invokevirtual 83, 3) := by decide +kernel
theorem dX4_neededPosition_4 : decode cX4_neededPosition 4 = .ok (.istore_n 3, 1) := by decide +kernel
theorem dX4_neededPosition_5 : decode cX4_neededPosition 5 = .ok (.aload_n 1, 1) := by decide +kernel
theorem dX4_neededPosition_6 : decode cX4_neededPosition 6 = .ok (.iconst 4, 1) := by decide +kernel
theorem dX4_neededPosition_7 : decode cX4_neededPosition 7 = .ok (.invokevirtual 87, 3) := by decide +kernel
theorem dX4_neededPosition_10 : decode cX4_neededPosition 10 = .ok (.ifCond .eq 15, 3) := by decide +kernel
theorem dX4_neededPosition_13 : decode cX4_neededPosition 13 = .ok (.aload_n 0, 1) := by decide +kernel
theorem dX4_neededPosition_14 : decode cX4_neededPosition 14 = .ok (.getfield 12, 3) := by decide +kernel
theorem dX4_neededPosition_17 : decode cX4_neededPosition 17 = .ok (.iload_n 3, 1) := by decide +kernel
theorem dX4_neededPosition_18 : decode cX4_neededPosition 18 = .ok (.iload_n 2, 1) := by decide +kernel
theorem dX4_neededPosition_19 : decode cX4_neededPosition 19 = .ok (.invokevirtual 91, 3) := by decide +kernel
theorem dX4_neededPosition_22 : decode cX4_neededPosition 22 = .ok (.goto 4, 3) := by decide +kernel
theorem dX4_neededPosition_25 : decode cX4_neededPosition 25 = .ok (.iload_n 3, 1) := by decide +kernel
theorem dX4_neededPosition_26 : decode cX4_neededPosition 26 = .ok (.ireturn, 1) := by decide +kernel
theorem dX4_waitOf_0 : decode cX4_waitOf 0 = .ok (.iload_n 3, 1) := by decide +kernel
theorem dX4_waitOf_1 : decode cX4_waitOf 1 = .ok (.bipush 9, 2) := by decide +kernel
theorem dX4_waitOf_3 : decode cX4_waitOf 3 = .ok (.if_icmp .ne 5, 3) := by decide +kernel
theorem dX4_waitOf_6 : decode cX4_waitOf 6 = .ok (.iconst 0, 1) := by decide +kernel
theorem dX4_waitOf_7 : decode cX4_waitOf 7 = .ok (.ireturn, 1) := by decide +kernel
theorem dX4_waitOf_8 : decode cX4_waitOf 8 = .ok (.aload_n 0, 1) := by decide +kernel
theorem dX4_waitOf_9 : decode cX4_waitOf 9 = .ok (.iload_n 3, 1) := by decide +kernel
theorem dX4_waitOf_10 : decode cX4_waitOf 10 = .ok (.invokevirtual 63, 3) := by decide +kernel
theorem dX4_waitOf_13 : decode cX4_waitOf 13 = .ok (.astore 4, 2) := by decide +kernel
theorem dX4_waitOf_15 : decode cX4_waitOf 15 = .ok (.aload 4, 2) := by decide +kernel
theorem dX4_waitOf_17 : decode cX4_waitOf 17 = .ok (.ifnonnull 8, 3) := by decide +kernel
theorem dX4_waitOf_20 : decode cX4_waitOf 20 = .ok (.bipush (-6), 2) := by decide +kernel
theorem dX4_waitOf_22 : decode cX4_waitOf 22 = .ok (.goto 14, 3) := by decide +kernel
theorem dX4_waitOf_25 : decode cX4_waitOf 25 = .ok (.aload 4, 2) := by decide +kernel
theorem dX4_waitOf_27 : decode cX4_waitOf 27 = .ok (.aload_n 0, 1) := by decide +kernel
theorem dX4_waitOf_28 : decode cX4_waitOf 28 = .ok (.aload_n 1, 1) := by decide +kernel
theorem dX4_waitOf_29 : decode cX4_waitOf 29 = .ok (.iload_n 2, 1) := by decide +kernel
theorem dX4_waitOf_30 : decode cX4_waitOf 30 = .ok (.invokevirtual 95, 3) := by decide +kernel
theorem dX4_waitOf_33 : decode cX4_waitOf 33 = .ok (.invokevirtual 99, 3) := by decide +kernel
theorem dX4_waitOf_36 : decode cX4_waitOf 36 = .ok (.ireturn, 1) := by decide +kernel
theorem dX4_answer_0 : decode cX4_answer 0 = .ok (.aload_n 0, 1) := by decide +kernel
theorem dX4_answer_1 : decode cX4_answer 1 = .ok (.iload_n 3, 1) := by decide +kernel
theorem dX4_answer_2 : decode cX4_answer 2 = .ok (.invokevirtual 103, 3) := by decide +kernel
theorem dX4_answer_5 : decode cX4_answer 5 = .ok (.istore 5, 2) := by decide +kernel
theorem dX4_answer_7 : decode cX4_answer 7 = .ok (.aload_n 0, 1) := by decide +kernel
theorem dX4_answer_8 : decode cX4_answer 8 = .ok (.getfield 12, 3) := by decide +kernel
theorem dX4_answer_11 : decode cX4_answer 11 = .ok (.iload 5, 2) := by decide +kernel
theorem dX4_answer_13 : decode cX4_answer 13 = .ok (.iload_n 2, 1) := by decide +kernel
theorem dX4_answer_14 : decode cX4_answer 14 = .ok (.invokevirtual 91, 3) := by decide +kernel
theorem dX4_answer_17 : decode cX4_answer 17 = .ok (.istore 6, 2) := by decide +kernel
theorem dX4_answer_19 : decode cX4_answer 19 = .ok (.aload_n 1, 1) := by decide +kernel
theorem dX4_answer_20 : decode cX4_answer 20 = .ok (.iload_n 2, 1) := by decide +kernel
theorem dX4_answer_21 : decode cX4_answer 21 = .ok (.iload 6, 2) := by decide +kernel
theorem dX4_answer_23 : decode cX4_answer 23 = .ok (.iload 5, 2) := by decide +kernel
theorem dX4_answer_25 : decode cX4_answer 25 = .ok (.invokevirtual 106, 3) := by decide +kernel
theorem dX4_answer_28 : decode cX4_answer 28 = .ok (.aload_n 0, 1) := by decide +kernel
theorem dX4_answer_29 : decode cX4_answer 29 = .ok (.iload_n 3, 1) := by decide +kernel
theorem dX4_answer_30 : decode cX4_answer 30 = .ok (.invokevirtual 109, 3) := by decide +kernel
theorem dX4_answer_33 : decode cX4_answer 33 = .ok (.aload_n 0, 1) := by decide +kernel
theorem dX4_answer_34 : decode cX4_answer 34 = .ok (.iload_n 3, 1) := by decide +kernel
theorem dX4_answer_35 : decode cX4_answer 35 = .ok (.putfield 34, 3) := by decide +kernel
theorem dX4_answer_38 : decode cX4_answer 38 = .ok (.aload_n 0, 1) := by decide +kernel
theorem dX4_answer_39 : decode cX4_answer 39 = .ok (.iload 6, 2) := by decide +kernel
theorem dX4_answer_41 : decode cX4_answer 41 = .ok (.putfield 37, 3) := by decide +kernel
theorem dX4_answer_44 : decode cX4_answer 44 = .ok (.aload_n 0, 1) := by decide +kernel
theorem dX4_answer_45 : decode cX4_answer 45 = .ok (.iload 4, 2) := by decide +kernel
theorem dX4_answer_47 : decode cX4_answer 47 = .ok (.putfield 40, 3) := by decide +kernel
theorem dX4_answer_50 : decode cX4_answer 50 = .ok (.aload_n 0, 1) := by decide +kernel
theorem dX4_answer_51 : decode cX4_answer 51 = .ok (.getfield 12, 3) := by decide +kernel
theorem dX4_answer_54 : decode cX4_answer 54 = .ok (.iload 6, 2) := by decide +kernel
theorem dX4_answer_56 : decode cX4_answer 56 = .ok (.invokevirtual 113, 3) := by decide +kernel
theorem dX4_answer_59 : decode cX4_answer 59 = .ok (.ireturn, 1) := by decide +kernel
theorem dX4_countAnswer_0 : decode cX4_countAnswer 0 = .ok (.aload_n 0, 1) := by decide +kernel
theorem dX4_countAnswer_1 : decode cX4_countAnswer 1 = .ok (.iload_n 1, 1) := by decide +kernel
theorem dX4_countAnswer_2 : decode cX4_countAnswer 2 = .ok (.invokevirtual 63, 3) := by decide +kernel
theorem dX4_countAnswer_5 : decode cX4_countAnswer 5 = .ok (.astore_n 2, 1) := by decide +kernel
theorem dX4_countAnswer_6 : decode cX4_countAnswer 6 = .ok (.aload_n 2, 1) := by decide +kernel
theorem dX4_countAnswer_7 : decode cX4_countAnswer 7 = .ok (.ifnonnull 16, 3) := by decide +kernel
theorem dX4_countAnswer_10 : decode cX4_countAnswer 10 = .ok (.aload_n 0, 1) := by decide +kernel
theorem dX4_countAnswer_11 : decode cX4_countAnswer 11 = .ok (.dup, 1) := by decide +kernel
theorem dX4_countAnswer_12 : decode cX4_countAnswer 12 = .ok (.getfield 30, 3) := by decide +kernel
theorem dX4_countAnswer_15 : decode cX4_countAnswer 15 = .ok (.iconst 1, 1) := by decide +kernel
theorem dX4_countAnswer_16 : decode cX4_countAnswer 16 = .ok (.iadd, 1) := by decide +kernel
theorem dX4_countAnswer_17 : decode cX4_countAnswer 17 = .ok (.putfield 30, 3) := by decide +kernel
theorem dX4_countAnswer_20 : decode cX4_countAnswer 20 = .ok (.goto 13, 3) := by decide +kernel
theorem dX4_countAnswer_23 : decode cX4_countAnswer 23 = .ok (.aload_n 2, 1) := by decide +kernel
theorem dX4_countAnswer_24 : decode cX4_countAnswer 24 = .ok (.dup, 1) := by decide +kernel
theorem dX4_countAnswer_25 : decode cX4_countAnswer 25 = .ok (.getfield 116, 3) := by decide +kernel
theorem dX4_countAnswer_28 : decode cX4_countAnswer 28 = .ok (.iconst 1, 1) := by decide +kernel
theorem dX4_countAnswer_29 : decode cX4_countAnswer 29 = .ok (.iadd, 1) := by decide +kernel
theorem dX4_countAnswer_30 : decode cX4_countAnswer 30 = .ok (.putfield 116, 3) := by decide +kernel
theorem dX4_countAnswer_33 : decode cX4_countAnswer 33 = .ok (.return_, 1) := by decide +kernel
theorem dX4_copyFrom_0 : decode cX4_copyFrom 0 = .ok (.aload_n 0, 1) := by decide +kernel
theorem dX4_copyFrom_1 : decode cX4_copyFrom 1 = .ok (.getfield 12, 3) := by decide +kernel
theorem dX4_copyFrom_4 : decode cX4_copyFrom 4 = .ok (.aload_n 1, 1) := by decide +kernel
theorem dX4_copyFrom_5 : decode cX4_copyFrom 5 = .ok (.getfield 12, 3) := by decide +kernel
theorem dX4_copyFrom_8 : decode cX4_copyFrom 8 = .ok (.invokevirtual 119, 3) := by decide +kernel
theorem dX4_copyFrom_11 : decode cX4_copyFrom 11 = .ok (.iconst 0, 1) := by decide +kernel
theorem dX4_copyFrom_12 : decode cX4_copyFrom 12 = .ok (.istore_n 2, 1) := by decide +kernel
theorem dX4_copyFrom_13 : decode cX4_copyFrom 13 = .ok (.iload_n 2, 1) := by decide +kernel
theorem dX4_copyFrom_14 : decode cX4_copyFrom 14 = .ok (.iconst 5, 1) := by decide +kernel
theorem dX4_copyFrom_15 : decode cX4_copyFrom 15 = .ok (.if_icmp .ge 39, 3) := by decide +kernel
theorem dX4_copyFrom_18 : decode cX4_copyFrom 18 = .ok (.aload_n 1, 1) := by decide +kernel
theorem dX4_copyFrom_19 : decode cX4_copyFrom 19 = .ok (.getfield 20, 3) := by decide +kernel
theorem dX4_copyFrom_22 : decode cX4_copyFrom 22 = .ok (.iload_n 2, 1) := by decide +kernel
theorem dX4_copyFrom_23 : decode cX4_copyFrom 23 = .ok (.aaload, 1) := by decide +kernel
theorem dX4_copyFrom_24 : decode cX4_copyFrom 24 = .ok (.astore_n 3, 1) := by decide +kernel
theorem dX4_copyFrom_25 : decode cX4_copyFrom 25 = .ok (.aload_n 0, 1) := by decide +kernel
theorem dX4_copyFrom_26 : decode cX4_copyFrom 26 = .ok (.getfield 20, 3) := by decide +kernel
theorem dX4_copyFrom_29 : decode cX4_copyFrom 29 = .ok (.iload_n 2, 1) := by decide +kernel
theorem dX4_copyFrom_30 : decode cX4_copyFrom 30 = .ok (.aaload, 1) := by decide +kernel
theorem dX4_copyFrom_31 : decode cX4_copyFrom 31 = .ok (.astore 4, 2) := by decide +kernel
theorem dX4_copyFrom_33 : decode cX4_copyFrom 33 = .ok (.aload_n 3, 1) := by decide +kernel
theorem dX4_copyFrom_34 : decode cX4_copyFrom 34 = .ok (.ifnull 14, 3) := by decide +kernel
theorem dX4_copyFrom_37 : decode cX4_copyFrom 37 = .ok (.aload 4, 2) := by decide +kernel
theorem dX4_copyFrom_39 : decode cX4_copyFrom 39 = .ok (.ifnull 9, 3) := by decide +kernel
theorem dX4_copyFrom_42 : decode cX4_copyFrom 42 = .ok (.aload 4, 2) := by decide +kernel
theorem dX4_copyFrom_44 : decode cX4_copyFrom 44 = .ok (.aload_n 3, 1) := by decide +kernel
theorem dX4_copyFrom_45 : decode cX4_copyFrom 45 = .ok (.invokevirtual 123, 3) := by decide +kernel
theorem dX4_copyFrom_48 : decode cX4_copyFrom 48 = .ok (.iinc 2 1, 3) := by decide +kernel
theorem dX4_copyFrom_51 : decode cX4_copyFrom 51 = .ok (.goto (-38), 3) := by decide +kernel
theorem dX4_copyFrom_54 : decode cX4_copyFrom 54 = .ok (.iconst 0, 1) := by decide +kernel
theorem dX4_copyFrom_55 : decode cX4_copyFrom 55 = .ok (.istore_n 2, 1) := by decide +kernel
theorem dX4_copyFrom_56 : decode cX4_copyFrom 56 = .ok (.iload_n 2, 1) := by decide +kernel
theorem dX4_copyFrom_57 : decode cX4_copyFrom 57 = .ok (.bipush 8, 2) := by decide +kernel
theorem dX4_copyFrom_59 : decode cX4_copyFrom 59 = .ok (.if_icmp .ge 39, 3) := by decide +kernel
theorem dX4_copyFrom_62 : decode cX4_copyFrom 62 = .ok (.aload_n 1, 1) := by decide +kernel
theorem dX4_copyFrom_63 : decode cX4_copyFrom 63 = .ok (.getfield 26, 3) := by decide +kernel
theorem dX4_copyFrom_66 : decode cX4_copyFrom 66 = .ok (.iload_n 2, 1) := by decide +kernel
theorem dX4_copyFrom_67 : decode cX4_copyFrom 67 = .ok (.aaload, 1) := by decide +kernel
theorem dX4_copyFrom_68 : decode cX4_copyFrom 68 = .ok (.astore_n 3, 1) := by decide +kernel
theorem dX4_copyFrom_69 : decode cX4_copyFrom 69 = .ok (.aload_n 0, 1) := by decide +kernel
theorem dX4_copyFrom_70 : decode cX4_copyFrom 70 = .ok (.getfield 26, 3) := by decide +kernel
theorem dX4_copyFrom_73 : decode cX4_copyFrom 73 = .ok (.iload_n 2, 1) := by decide +kernel
theorem dX4_copyFrom_74 : decode cX4_copyFrom 74 = .ok (.aaload, 1) := by decide +kernel
theorem dX4_copyFrom_75 : decode cX4_copyFrom 75 = .ok (.astore 4, 2) := by decide +kernel
theorem dX4_copyFrom_77 : decode cX4_copyFrom 77 = .ok (.aload_n 3, 1) := by decide +kernel
theorem dX4_copyFrom_78 : decode cX4_copyFrom 78 = .ok (.ifnull 14, 3) := by decide +kernel
theorem dX4_copyFrom_81 : decode cX4_copyFrom 81 = .ok (.aload 4, 2) := by decide +kernel
theorem dX4_copyFrom_83 : decode cX4_copyFrom 83 = .ok (.ifnull 9, 3) := by decide +kernel
theorem dX4_copyFrom_86 : decode cX4_copyFrom 86 = .ok (.aload 4, 2) := by decide +kernel
theorem dX4_copyFrom_88 : decode cX4_copyFrom 88 = .ok (.aload_n 3, 1) := by decide +kernel
theorem dX4_copyFrom_89 : decode cX4_copyFrom 89 = .ok (.invokevirtual 126, 3) := by decide +kernel
theorem dX4_copyFrom_92 : decode cX4_copyFrom 92 = .ok (.iinc 2 1, 3) := by decide +kernel
theorem dX4_copyFrom_95 : decode cX4_copyFrom 95 = .ok (.goto (-39), 3) := by decide +kernel
theorem dX4_copyFrom_98 : decode cX4_copyFrom 98 = .ok (.aload_n 0, 1) := by decide +kernel
theorem dX4_copyFrom_99 : decode cX4_copyFrom 99 = .ok (.aload_n 1, 1) := by decide +kernel
theorem dX4_copyFrom_100 : decode cX4_copyFrom 100 = .ok (.getfield 30, 3) := by decide +kernel
theorem dX4_copyFrom_103 : decode cX4_copyFrom 103 = .ok (.putfield 30, 3) := by decide +kernel
theorem dX4_copyFrom_106 : decode cX4_copyFrom 106 = .ok (.aload_n 0, 1) := by decide +kernel
theorem dX4_copyFrom_107 : decode cX4_copyFrom 107 = .ok (.aload_n 1, 1) := by decide +kernel
theorem dX4_copyFrom_108 : decode cX4_copyFrom 108 = .ok (.getfield 34, 3) := by decide +kernel
theorem dX4_copyFrom_111 : decode cX4_copyFrom 111 = .ok (.putfield 34, 3) := by decide +kernel
theorem dX4_copyFrom_114 : decode cX4_copyFrom 114 = .ok (.aload_n 0, 1) := by decide +kernel
theorem dX4_copyFrom_115 : decode cX4_copyFrom 115 = .ok (.aload_n 1, 1) := by decide +kernel
theorem dX4_copyFrom_116 : decode cX4_copyFrom 116 = .ok (.getfield 37, 3) := by decide +kernel
theorem dX4_copyFrom_119 : decode cX4_copyFrom 119 = .ok (.putfield 37, 3) := by decide +kernel
theorem dX4_copyFrom_122 : decode cX4_copyFrom 122 = .ok (.aload_n 0, 1) := by decide +kernel
theorem dX4_copyFrom_123 : decode cX4_copyFrom 123 = .ok (.aload_n 1, 1) := by decide +kernel
theorem dX4_copyFrom_124 : decode cX4_copyFrom 124 = .ok (.getfield 40, 3) := by decide +kernel
theorem dX4_copyFrom_127 : decode cX4_copyFrom 127 = .ok (.putfield 40, 3) := by decide +kernel
theorem dX4_copyFrom_130 : decode cX4_copyFrom 130 = .ok (.return_, 1) := by decide +kernel
theorem dX5_init_0 : decode cX5_init 0 = .ok (.aload_n 0, 1) := by decide +kernel
theorem dX5_init_1 : decode cX5_init 1 = .ok (.invokespecial 3, 3) := by decide +kernel
theorem dX5_init_4 : decode cX5_init 4 = .ok (.aload_n 0, 1) := by decide +kernel
theorem dX5_init_5 : decode cX5_init 5 = .ok (.bipush 80, 2) := by decide +kernel
theorem dX5_init_7 : decode cX5_init 7 = .ok (.newarray .int, 2) := by decide +kernel
theorem dX5_init_9 : decode cX5_init 9 = .ok (.putfield 9, 3) := by decide +kernel
theorem dX5_init_12 : decode cX5_init 12 = .ok (.aload_n 0, 1) := by decide +kernel
theorem dX5_init_13 : decode cX5_init 13 = .ok (.iconst 0, 1) := by decide +kernel
theorem dX5_init_14 : decode cX5_init 14 = .ok (.putfield 15, 3) := by decide +kernel
theorem dX5_init_17 : decode cX5_init 17 = .ok (.aload_n 0, 1) := by decide +kernel
theorem dX5_init_18 : decode cX5_init 18 = .ok (.iconst 0, 1) := by decide +kernel
theorem dX5_init_19 : decode cX5_init 19 = .ok (.putfield 19, 3) := by decide +kernel
theorem dX5_init_22 : decode cX5_init 22 = .ok (.aload_n 0, 1) := by decide +kernel
theorem dX5_init_23 : decode cX5_init 23 = .ok (.iconst 0, 1) := by decide +kernel
theorem dX5_init_24 : decode cX5_init 24 = .ok (.putfield 22, 3) := by decide +kernel
theorem dX5_init_27 : decode cX5_init 27 = .ok (.aload_n 0, 1) := by decide +kernel
theorem dX5_init_28 : decode cX5_init 28 = .ok (.iconst 3, 1) := by decide +kernel
theorem dX5_init_29 : decode cX5_init 29 = .ok (.newarray .int, 2) := by decide +kernel
theorem dX5_init_31 : decode cX5_init 31 = .ok (.putfield 25, 3) := by decide +kernel
theorem dX5_init_34 : decode cX5_init 34 = .ok (.aload_n 0, 1) := by decide +kernel
theorem dX5_init_35 : decode cX5_init 35 = .ok (.iconst 0, 1) := by decide +kernel
theorem dX5_init_36 : decode cX5_init 36 = .ok (.putfield 28, 3) := by decide +kernel
theorem dX5_init_39 : decode cX5_init 39 = .ok (.return_, 1) := by decide +kernel
theorem dX5_add_0 : decode cX5_add 0 = .ok (.aload_n 0, 1) := by decide +kernel
theorem dX5_add_1 : decode cX5_add 1 = .ok (.getfield 15, 3) := by decide +kernel
theorem dX5_add_4 : decode cX5_add 4 = .ok (.ifCond .lt 12, 3) := by decide +kernel
theorem dX5_add_7 : decode cX5_add 7 = .ok (.aload_n 0, 1) := by decide +kernel
theorem dX5_add_8 : decode cX5_add 8 = .ok (.getfield 15, 3) := by decide +kernel
theorem dX5_add_11 : decode cX5_add 11 = .ok (.bipush 80, 2) := by decide +kernel
theorem dX5_add_13 : decode cX5_add 13 = .ok (.if_icmp .lt 6, 3) := by decide +kernel
theorem dX5_add_16 : decode cX5_add 16 = .ok (.bipush (-4), 2) := by decide +kernel
theorem dX5_add_18 : decode cX5_add 18 = .ok (.ireturn, 1) := by decide +kernel
theorem dX5_add_19 : decode cX5_add 19 = .ok (.aload_n 0, 1) := by decide +kernel
theorem dX5_add_20 : decode cX5_add 20 = .ok (.getfield 9, 3) := by decide +kernel
theorem dX5_add_23 : decode cX5_add 23 = .ok (.aload_n 0, 1) := by decide +kernel
theorem dX5_add_24 : decode cX5_add 24 = .ok (.getfield 15, 3) := by decide +kernel
theorem dX5_add_27 : decode cX5_add 27 = .ok (.iload_n 1, 1) := by decide +kernel
theorem dX5_add_28 : decode cX5_add 28 = .ok (.iastore, 1) := by decide +kernel
theorem dX5_add_29 : decode cX5_add 29 = .ok (.aload_n 0, 1) := by decide +kernel
theorem dX5_add_30 : decode cX5_add 30 = .ok (.dup, 1) := by decide +kernel
theorem dX5_add_31 : decode cX5_add 31 = .ok (.getfield 15, 3) := by decide +kernel
theorem dX5_add_34 : decode cX5_add 34 = .ok (.iconst 1, 1) := by decide +kernel
theorem dX5_add_35 : decode cX5_add 35 = .ok (.iadd, 1) := by decide +kernel
theorem dX5_add_36 : decode cX5_add 36 = .ok (.putfield 15, 3) := by decide +kernel
theorem dX5_add_39 : decode cX5_add 39 = .ok (.aload_n 0, 1) := by decide +kernel
theorem dX5_add_40 : decode cX5_add 40 = .ok (.getfield 15, 3) := by decide +kernel
theorem dX5_add_43 : decode cX5_add 43 = .ok (.ireturn, 1) := by decide +kernel
theorem dX5_empty_0 : decode cX5_empty 0 = .ok (.aload_n 0, 1) := by decide +kernel
theorem dX5_empty_1 : decode cX5_empty 1 = .ok (.getfield 15, 3) := by decide +kernel
theorem dX5_empty_4 : decode cX5_empty 4 = .ok (.istore_n 1, 1) := by decide +kernel
theorem dX5_empty_5 : decode cX5_empty 5 = .ok (.aload_n 0, 1) := by decide +kernel
theorem dX5_empty_6 : decode cX5_empty 6 = .ok (.iconst 0, 1) := by decide +kernel
theorem dX5_empty_7 : decode cX5_empty 7 = .ok (.putfield 15, 3) := by decide +kernel
theorem dX5_empty_10 : decode cX5_empty 10 = .ok (.iload_n 1, 1) := by decide +kernel
theorem dX5_empty_11 : decode cX5_empty 11 = .ok (.ireturn, 1) := by decide +kernel
theorem dX5_findError_0 : decode cX5_findError 0 = .ok (.aload_n 0, 1) := by decide +kernel
theorem dX5_findError_1 : decode cX5_findError 1 = .ok (.invokevirtual 31, 3) := by decide +kernel
theorem dX5_findError_4 : decode cX5_findError 4 = .ok (.iconst 0, 1) := by decide +kernel
theorem dX5_findError_5 : decode cX5_findError 5 = .ok (.istore_n 1, 1) := by decide +kernel
theorem dX5_findError_6 : decode cX5_findError 6 = .ok (.iload_n 1, 1) := by decide +kernel
theorem dX5_findError_7 : decode cX5_findError 7 = .ok (.bipush 80, 2) := by decide +kernel
theorem dX5_findError_9 : decode cX5_findError 9 = .ok (.if_icmp .ge 49, 3) := by decide +kernel
theorem dX5_findError_12 : decode cX5_findError 12 = .ok (.aload_n 0, 1) := by decide +kernel
theorem dX5_findError_13 : decode cX5_findError 13 = .ok (.invokevirtual 34, 3) := by decide +kernel
theorem dX5_findError_16 : decode cX5_findError 16 = .ok (.ifCond .ne 8, 3) := by decide +kernel
theorem dX5_findError_19 : decode cX5_findError 19 = .ok (.aload_n 0, 1) := by decide +kernel
theorem dX5_findError_20 : decode cX5_findError 20 = .ok (.getfield 19, 3) := by decide +kernel
theorem dX5_findError_23 : decode cX5_findError 23 = .ok (.ireturn, 1) := by decide +kernel
theorem dX5_findError_24 : decode cX5_findError 24 = .ok (.aload_n 0, 1) := by decide +kernel
theorem dX5_findError_25 : decode cX5_findError 25 = .ok (.getfield 19, 3) := by decide +kernel
theorem dX5_findError_28 : decode cX5_findError 28 = .ok (.aload_n 0, 1) := by decide +kernel
theorem dX5_findError_29 : decode cX5_findError 29 = .ok (.getfield 15, 3) := by decide +kernel
theorem dX5_findError_32 : decode cX5_findError 32 = .ok (.if_icmp .ne 6, 3) := by decide +kernel
theorem dX5_findError_35 : decode cX5_findError 35 = .ok (.bipush (-6), 2) := by decide +kernel
theorem dX5_findError_37 : decode cX5_findError 37 = .ok (.ireturn, 1) := by decide +kernel
theorem dX5_findError_38 : decode cX5_findError 38 = .ok (.aload_n 0, 1) := by decide +kernel
theorem dX5_findError_39 : decode cX5_findError 39 = .ok (.bipush 59, 2) := by decide +kernel
theorem dX5_findError_41 : decode cX5_findError 41 = .ok (.invokevirtual 38, 3) := by decide +kernel
theorem dX5_findError_44 : decode cX5_findError 44 = .ok (.ifCond .ne 8, 3) := by decide +kernel
theorem dX5_findError_47 : decode cX5_findError 47 = .ok (.aload_n 0, 1) := by decide +kernel
theorem dX5_findError_48 : decode cX5_findError 48 = .ok (.getfield 19, 3) := by decide +kernel
theorem dX5_findError_51 : decode cX5_findError 51 = .ok (.ireturn, 1) := by decide +kernel
theorem dX5_findError_52 : decode cX5_findError 52 = .ok (.iinc 1 1, 3) := by decide +kernel
theorem dX5_findError_55 : decode cX5_findError 55 = .ok (.goto (-49), 3) := by decide +kernel
theorem dX5_findError_58 : decode cX5_findError 58 = .ok (.aload_n 0, 1) := by decide +kernel
theorem dX5_findError_59 : decode cX5_findError 59 = .ok (.getfield 19, 3) := by decide +kernel
theorem dX5_findError_62 : decode cX5_findError 62 = .ok (.ireturn, 1) := by decide +kernel
theorem dX5_rewind_0 : decode cX5_rewind 0 = .ok (.aload_n 0, 1) := by decide +kernel
theorem dX5_rewind_1 : decode cX5_rewind 1 = .ok (.iconst 0, 1) := by decide +kernel
theorem dX5_rewind_2 : decode cX5_rewind 2 = .ok (.putfield 19, 3) := by decide +kernel
theorem dX5_rewind_5 : decode cX5_rewind 5 = .ok (.return_, 1) := by decide +kernel
theorem dX5_readCommand_0 : decode cX5_readCommand 0 = .ok (.aload_n 0, 1) := by decide +kernel
theorem dX5_readCommand_1 : decode cX5_readCommand 1 = .ok (.aload_n 0, 1) := by decide +kernel
theorem dX5_readCommand_2 : decode cX5_readCommand 2 = .ok (.invokevirtual 42, 3) := by decide +kernel
theorem dX5_readCommand_5 : decode cX5_readCommand 5 = .ok (.putfield 22, 3) := by decide +kernel
theorem dX5_readCommand_8 : decode cX5_readCommand 8 = .ok (.aload_n 0, 1) := by decide +kernel
theorem dX5_readCommand_9 : decode cX5_readCommand 9 = .ok (.iconst 0, 1) := by decide +kernel
theorem dX5_readCommand_10 : decode cX5_readCommand 10 = .ok (.putfield 28, 3) := by decide +kernel
theorem dX5_readCommand_13 : decode cX5_readCommand 13 = .ok (.aload_n 0, 1) := by decide +kernel
theorem dX5_readCommand_14 : decode cX5_readCommand 14 = .ok (.getfield 22, 3) := by decide +kernel
theorem dX5_readCommand_17 : decode cX5_readCommand 17 = .ok (.tableswitch 307 104 119 #[231, 307, 269, 307, 307, 193, 307, 307, 307, 307, 133, 307, 171, 307, 307, 79], 79) := by decide +kernel
theorem dX5_readCommand_96 : decode cX5_readCommand 96 = .ok (.aload_n 0, 1) := by decide +kernel
theorem dX5_readCommand_97 : decode cX5_readCommand 97 = .ok (.bipush 119, 2) := by decide +kernel
theorem dX5_readCommand_99 : decode cX5_readCommand 99 = .ok (.invokevirtual 38, 3) := by decide +kernel
theorem dX5_readCommand_102 : decode cX5_readCommand 102 = .ok (.ifCond .eq 46, 3) := by decide +kernel
theorem dX5_readCommand_105 : decode cX5_readCommand 105 = .ok (.aload_n 0, 1) := by decide +kernel
theorem dX5_readCommand_106 : decode cX5_readCommand 106 = .ok (.invokevirtual 46, 3) := by decide +kernel
theorem dX5_readCommand_109 : decode cX5_readCommand 109 = .ok (.ifCond .eq 39, 3) := by decide +kernel
theorem dX5_readCommand_112 : decode cX5_readCommand 112 = .ok (.aload_n 0, 1) := by decide +kernel
theorem dX5_readCommand_113 : decode cX5_readCommand 113 = .ok (.bipush 58, 2) := by decide +kernel
theorem dX5_readCommand_115 : decode cX5_readCommand 115 = .ok (.invokevirtual 38, 3) := by decide +kernel
theorem dX5_readCommand_118 : decode cX5_readCommand 118 = .ok (.ifCond .eq 30, 3) := by decide +kernel
theorem dX5_readCommand_121 : decode cX5_readCommand 121 = .ok (.aload_n 0, 1) := by decide +kernel
theorem dX5_readCommand_122 : decode cX5_readCommand 122 = .ok (.invokevirtual 49, 3) := by decide +kernel
theorem dX5_readCommand_125 : decode cX5_readCommand 125 = .ok (.ifCond .eq 23, 3) := by decide +kernel
theorem dX5_readCommand_128 : decode cX5_readCommand 128 = .ok (.aload_n 0, 1) := by decide +kernel
theorem dX5_readCommand_129 : decode cX5_readCommand 129 = .ok (.bipush 61, 2) := by decide +kernel
theorem dX5_readCommand_131 : decode cX5_readCommand 131 = .ok (.invokevirtual 38, 3) := by decide +kernel
theorem dX5_readCommand_134 : decode cX5_readCommand 134 = .ok (.ifCond .eq 14, 3) := by decide +kernel
theorem dX5_readCommand_137 : decode cX5_readCommand 137 = .ok (.aload_n 0, 1) := by decide +kernel
theorem dX5_readCommand_138 : decode cX5_readCommand 138 = .ok (.invokevirtual 49, 3) := by decide +kernel
theorem dX5_readCommand_141 : decode cX5_readCommand 141 = .ok (.ifCond .eq 7, 3) := by decide +kernel
theorem dX5_readCommand_144 : decode cX5_readCommand 144 = .ok (.iconst 1, 1) := by decide +kernel
theorem dX5_readCommand_145 : decode cX5_readCommand 145 = .ok (.goto 4, 3) := by decide +kernel
theorem dX5_readCommand_148 : decode cX5_readCommand 148 = .ok (.iconst 0, 1) := by decide +kernel
theorem dX5_readCommand_149 : decode cX5_readCommand 149 = .ok (.ireturn, 1) := by decide +kernel
theorem dX5_readCommand_150 : decode cX5_readCommand 150 = .ok (.aload_n 0, 1) := by decide +kernel
theorem dX5_readCommand_151 : decode cX5_readCommand 151 = .ok (.bipush 114, 2) := by decide +kernel
theorem dX5_readCommand_153 : decode cX5_readCommand 153 = .ok (.invokevirtual 38, 3) := by decide +kernel
theorem dX5_readCommand_156 : decode cX5_readCommand 156 = .ok (.ifCond .eq 30, 3) := by decide +kernel
theorem dX5_readCommand_159 : decode cX5_readCommand 159 = .ok (.aload_n 0, 1) := by decide +kernel
theorem dX5_readCommand_160 : decode cX5_readCommand 160 = .ok (.invokevirtual 46, 3) := by decide +kernel
theorem dX5_readCommand_163 : decode cX5_readCommand 163 = .ok (.ifCond .eq 23, 3) := by decide +kernel
theorem dX5_readCommand_166 : decode cX5_readCommand 166 = .ok (.aload_n 0, 1) := by decide +kernel
theorem dX5_readCommand_167 : decode cX5_readCommand 167 = .ok (.bipush 58, 2) := by decide +kernel
theorem dX5_readCommand_169 : decode cX5_readCommand 169 = .ok (.invokevirtual 38, 3) := by decide +kernel
theorem dX5_readCommand_172 : decode cX5_readCommand 172 = .ok (.ifCond .eq 14, 3) := by decide +kernel
theorem dX5_readCommand_175 : decode cX5_readCommand 175 = .ok (.aload_n 0, 1) := by decide +kernel
theorem dX5_readCommand_176 : decode cX5_readCommand 176 = .ok (.invokevirtual 49, 3) := by decide +kernel
theorem dX5_readCommand_179 : decode cX5_readCommand 179 = .ok (.ifCond .eq 7, 3) := by decide +kernel
theorem dX5_readCommand_182 : decode cX5_readCommand 182 = .ok (.iconst 1, 1) := by decide +kernel
theorem dX5_readCommand_183 : decode cX5_readCommand 183 = .ok (.goto 4, 3) := by decide +kernel
theorem dX5_readCommand_186 : decode cX5_readCommand 186 = .ok (.iconst 0, 1) := by decide +kernel
theorem dX5_readCommand_187 : decode cX5_readCommand 187 = .ok (.ireturn, 1) := by decide +kernel
theorem dX5_readCommand_188 : decode cX5_readCommand 188 = .ok (.aload_n 0, 1) := by decide +kernel
theorem dX5_readCommand_189 : decode cX5_readCommand 189 = .ok (.bipush 116, 2) := by decide +kernel
theorem dX5_readCommand_191 : decode cX5_readCommand 191 = .ok (.invokevirtual 38, 3) := by decide +kernel
theorem dX5_readCommand_194 : decode cX5_readCommand 194 = .ok (.ifCond .eq 14, 3) := by decide +kernel
theorem dX5_readCommand_197 : decode cX5_readCommand 197 = .ok (.aload_n 0, 1) := by decide +kernel
theorem dX5_readCommand_198 : decode cX5_readCommand 198 = .ok (.invokevirtual 49, 3) := by decide +kernel
theorem dX5_readCommand_201 : decode cX5_readCommand 201 = .ok (.ifCond .eq 7, 3) := by decide +kernel
theorem dX5_readCommand_204 : decode cX5_readCommand 204 = .ok (.iconst 1, 1) := by decide +kernel
theorem dX5_readCommand_205 : decode cX5_readCommand 205 = .ok (.goto 4, 3) := by decide +kernel
theorem dX5_readCommand_208 : decode cX5_readCommand 208 = .ok (.iconst 0, 1) := by decide +kernel
theorem dX5_readCommand_209 : decode cX5_readCommand 209 = .ok (.ireturn, 1) := by decide +kernel
theorem dX5_readCommand_210 : decode cX5_readCommand 210 = .ok (.aload_n 0, 1) := by decide +kernel
theorem dX5_readCommand_211 : decode cX5_readCommand 211 = .ok (.bipush 109, 2) := by decide +kernel
theorem dX5_readCommand_213 : decode cX5_readCommand 213 = .ok (.invokevirtual 38, 3) := by decide +kernel
theorem dX5_readCommand_216 : decode cX5_readCommand 216 = .ok (.ifCond .eq 30, 3) := by decide +kernel
theorem dX5_readCommand_219 : decode cX5_readCommand 219 = .ok (.aload_n 0, 1) := by decide +kernel
theorem dX5_readCommand_220 : decode cX5_readCommand 220 = .ok (.invokevirtual 46, 3) := by decide +kernel
theorem dX5_readCommand_223 : decode cX5_readCommand 223 = .ok (.ifCond .eq 23, 3) := by decide +kernel
theorem dX5_readCommand_226 : decode cX5_readCommand 226 = .ok (.aload_n 0, 1) := by decide +kernel
theorem dX5_readCommand_227 : decode cX5_readCommand 227 = .ok (.bipush 62, 2) := by decide +kernel
theorem dX5_readCommand_229 : decode cX5_readCommand 229 = .ok (.invokevirtual 38, 3) := by decide +kernel
theorem dX5_readCommand_232 : decode cX5_readCommand 232 = .ok (.ifCond .eq 14, 3) := by decide +kernel
theorem dX5_readCommand_235 : decode cX5_readCommand 235 = .ok (.aload_n 0, 1) := by decide +kernel
theorem dX5_readCommand_236 : decode cX5_readCommand 236 = .ok (.invokevirtual 52, 3) := by decide +kernel
theorem dX5_readCommand_239 : decode cX5_readCommand 239 = .ok (.ifCond .eq 7, 3) := by decide +kernel
theorem dX5_readCommand_242 : decode cX5_readCommand 242 = .ok (.iconst 1, 1) := by decide +kernel
theorem dX5_readCommand_243 : decode cX5_readCommand 243 = .ok (.goto 4, 3) := by decide +kernel
theorem dX5_readCommand_246 : decode cX5_readCommand 246 = .ok (.iconst 0, 1) := by decide +kernel
theorem dX5_readCommand_247 : decode cX5_readCommand 247 = .ok (.ireturn, 1) := by decide +kernel
theorem dX5_readCommand_248 : decode cX5_readCommand 248 = .ok (.aload_n 0, 1) := by decide +kernel
theorem dX5_readCommand_249 : decode cX5_readCommand 249 = .ok (.bipush 104, 2) := by decide +kernel
theorem dX5_readCommand_251 : decode cX5_readCommand 251 = .ok (.invokevirtual 38, 3) := by decide +kernel
theorem dX5_readCommand_254 : decode cX5_readCommand 254 = .ok (.ifCond .eq 30, 3) := by decide +kernel
theorem dX5_readCommand_257 : decode cX5_readCommand 257 = .ok (.aload_n 0, 1) := by decide +kernel
theorem dX5_readCommand_258 : decode cX5_readCommand 258 = .ok (.invokevirtual 46, 3) := by decide +kernel
theorem dX5_readCommand_261 : decode cX5_readCommand 261 = .ok (.ifCond .eq 23, 3) := by decide +kernel
theorem dX5_readCommand_264 : decode cX5_readCommand 264 = .ok (.aload_n 0, 1) := by decide +kernel
theorem dX5_readCommand_265 : decode cX5_readCommand 265 = .ok (.bipush 62, 2) := by decide +kernel
theorem dX5_readCommand_267 : decode cX5_readCommand 267 = .ok (.invokevirtual 38, 3) := by decide +kernel
theorem dX5_readCommand_270 : decode cX5_readCommand 270 = .ok (.ifCond .eq 14, 3) := by decide +kernel
theorem dX5_readCommand_273 : decode cX5_readCommand 273 = .ok (.aload_n 0, 1) := by decide +kernel
theorem dX5_readCommand_274 : decode cX5_readCommand 274 = .ok (.invokevirtual 46, 3) := by decide +kernel
theorem dX5_readCommand_277 : decode cX5_readCommand 277 = .ok (.ifCond .eq 7, 3) := by decide +kernel
theorem dX5_readCommand_280 : decode cX5_readCommand 280 = .ok (.iconst 1, 1) := by decide +kernel
theorem dX5_readCommand_281 : decode cX5_readCommand 281 = .ok (.goto 4, 3) := by decide +kernel
theorem dX5_readCommand_284 : decode cX5_readCommand 284 = .ok (.iconst 0, 1) := by decide +kernel
theorem dX5_readCommand_285 : decode cX5_readCommand 285 = .ok (.ireturn, 1) := by decide +kernel
theorem dX5_readCommand_286 : decode cX5_readCommand 286 = .ok (.aload_n 0, 1) := by decide +kernel
theorem dX5_readCommand_287 : decode cX5_readCommand 287 = .ok (.bipush 106, 2) := by decide +kernel
theorem dX5_readCommand_289 : decode cX5_readCommand 289 = .ok (.invokevirtual 38, 3) := by decide +kernel
theorem dX5_readCommand_292 : decode cX5_readCommand 292 = .ok (.ifCond .eq 30, 3) := by decide +kernel
theorem dX5_readCommand_295 : decode cX5_readCommand 295 = .ok (.aload_n 0, 1) := by decide +kernel
theorem dX5_readCommand_296 : decode cX5_readCommand 296 = .ok (.invokevirtual 46, 3) := by decide +kernel
theorem dX5_readCommand_299 : decode cX5_readCommand 299 = .ok (.ifCond .eq 23, 3) := by decide +kernel
theorem dX5_readCommand_302 : decode cX5_readCommand 302 = .ok (.aload_n 0, 1) := by decide +kernel
theorem dX5_readCommand_303 : decode cX5_readCommand 303 = .ok (.bipush 64, 2) := by decide +kernel
theorem dX5_readCommand_305 : decode cX5_readCommand 305 = .ok (.invokevirtual 38, 3) := by decide +kernel
theorem dX5_readCommand_308 : decode cX5_readCommand 308 = .ok (.ifCond .eq 14, 3) := by decide +kernel
theorem dX5_readCommand_311 : decode cX5_readCommand 311 = .ok (.aload_n 0, 1) := by decide +kernel
theorem dX5_readCommand_312 : decode cX5_readCommand 312 = .ok (.invokevirtual 49, 3) := by decide +kernel
theorem dX5_readCommand_315 : decode cX5_readCommand 315 = .ok (.ifCond .eq 7, 3) := by decide +kernel
theorem dX5_readCommand_318 : decode cX5_readCommand 318 = .ok (.iconst 1, 1) := by decide +kernel
theorem dX5_readCommand_319 : decode cX5_readCommand 319 = .ok (.goto 4, 3) := by decide +kernel
theorem dX5_readCommand_322 : decode cX5_readCommand 322 = .ok (.iconst 0, 1) := by decide +kernel
theorem dX5_readCommand_323 : decode cX5_readCommand 323 = .ok (.ireturn, 1) := by decide +kernel
theorem dX5_readCommand_324 : decode cX5_readCommand 324 = .ok (.iconst 0, 1) := by decide +kernel
theorem dX5_readCommand_325 : decode cX5_readCommand 325 = .ok (.ireturn, 1) := by decide +kernel
theorem dX5_argument_0 : decode cX5_argument 0 = .ok (.iload_n 1, 1) := by decide +kernel
theorem dX5_argument_1 : decode cX5_argument 1 = .ok (.iconst 0, 1) := by decide +kernel
theorem dX5_argument_2 : decode cX5_argument 2 = .ok (.aload_n 0, 1) := by decide +kernel
theorem dX5_argument_3 : decode cX5_argument 3 = .ok (.getfield 25, 3) := by decide +kernel
theorem dX5_argument_6 : decode cX5_argument 6 = .ok (.arraylength, 1) := by decide +kernel
theorem dX5_argument_7 : decode cX5_argument 7 = .ok (.iconst 1, 1) := by decide +kernel
theorem dX5_argument_8 : decode cX5_argument 8 = .ok (.isub, 1) := by decide +kernel
theorem dX5_argument_9 : decode cX5_argument 9 = .ok (.invokestatic 55, 3) := by decide +kernel
theorem dX5_argument_12 : decode cX5_argument 12 = .ok (.ifCond .eq 12, 3) := by decide +kernel
theorem dX5_argument_15 : decode cX5_argument 15 = .ok (.aload_n 0, 1) := by decide +kernel
theorem dX5_argument_16 : decode cX5_argument 16 = .ok (.getfield 25, 3) := by decide +kernel
theorem dX5_argument_19 : decode cX5_argument 19 = .ok (.iload_n 1, 1) := by decide +kernel
theorem dX5_argument_20 : decode cX5_argument 20 = .ok (.iaload, 1) := by decide +kernel
theorem dX5_argument_21 : decode cX5_argument 21 = .ok (.goto 5, 3) := by decide +kernel
theorem dX5_argument_24 : decode cX5_argument 24 = .ok (.bipush (-6), 2) := by decide +kernel
theorem dX5_argument_26 : decode cX5_argument 26 = .ok (.ireturn, 1) := by decide +kernel
theorem dX5_readSign_0 : decode cX5_readSign 0 = .ok (.aload_n 0, 1) := by decide +kernel
theorem dX5_readSign_1 : decode cX5_readSign 1 = .ok (.invokevirtual 42, 3) := by decide +kernel
theorem dX5_readSign_4 : decode cX5_readSign 4 = .ok (.iload_n 1, 1) := by decide +kernel
theorem dX5_readSign_5 : decode cX5_readSign 5 = .ok (.if_icmp .eq 5, 3) := by decide +kernel
theorem dX5_readSign_8 : decode cX5_readSign 8 = .ok (.iconst 0, 1) := by decide +kernel
theorem dX5_readSign_9 : decode cX5_readSign 9 = .ok (.ireturn, 1) := by decide +kernel
theorem dX5_readSign_10 : decode cX5_readSign 10 = .ok (.aload_n 0, 1) := by decide +kernel
theorem dX5_readSign_11 : decode cX5_readSign 11 = .ok (.dup, 1) := by decide +kernel
theorem dX5_readSign_12 : decode cX5_readSign 12 = .ok (.getfield 19, 3) := by decide +kernel
theorem dX5_readSign_15 : decode cX5_readSign 15 = .ok (.iconst 1, 1) := by decide +kernel
theorem dX5_readSign_16 : decode cX5_readSign 16 = .ok (.iadd, 1) := by decide +kernel
theorem dX5_readSign_17 : decode cX5_readSign 17 = .ok (.putfield 19, 3) := by decide +kernel
theorem dX5_readSign_20 : decode cX5_readSign 20 = .ok (.iconst 1, 1) := by decide +kernel
theorem dX5_readSign_21 : decode cX5_readSign 21 = .ok (.ireturn, 1) := by decide +kernel
theorem dX5_readDigit_0 : decode cX5_readDigit 0 = .ok (.aload_n 0, 1) := by decide +kernel
theorem dX5_readDigit_1 : decode cX5_readDigit 1 = .ok (.invokevirtual 42, 3) := by decide +kernel
theorem dX5_readDigit_4 : decode cX5_readDigit 4 = .ok (.bipush 48, 2) := by decide +kernel
theorem dX5_readDigit_6 : decode cX5_readDigit 6 = .ok (.bipush 57, 2) := by decide +kernel
theorem dX5_readDigit_8 : decode cX5_readDigit 8 = .ok (.invokestatic 55, 3) := by decide +kernel
theorem dX5_readDigit_11 : decode cX5_readDigit 11 = .ok (.ifCond .eq 18, 3) := by decide +kernel
theorem dX5_readDigit_14 : decode cX5_readDigit 14 = .ok (.aload_n 0, 1) := by decide +kernel
theorem dX5_readDigit_15 : decode cX5_readDigit 15 = .ok (.aload_n 0, 1) := by decide +kernel
theorem dX5_readDigit_16 : decode cX5_readDigit 16 = .ok (.invokevirtual 59, 3) := by decide +kernel
theorem dX5_readDigit_19 : decode cX5_readDigit 19 = .ok (.invokevirtual 62, 3) := by decide +kernel
theorem dX5_readDigit_22 : decode cX5_readDigit 22 = .ok (.ifCond .eq 7, 3) := by decide +kernel
theorem dX5_readDigit_25 : decode cX5_readDigit 25 = .ok (.iconst 1, 1) := by decide +kernel
theorem dX5_readDigit_26 : decode cX5_readDigit 26 = .ok (.goto 4, 3) := by decide +kernel
theorem dX5_readDigit_29 : decode cX5_readDigit 29 = .ok (.iconst 0, 1) := by decide +kernel
theorem dX5_readDigit_30 : decode cX5_readDigit 30 = .ok (.ireturn, 1) := by decide +kernel
theorem dX5_readNumber_0 : decode cX5_readNumber 0 = .ok (.aload_n 0, 1) := by decide +kernel
theorem dX5_readNumber_1 : decode cX5_readNumber 1 = .ok (.invokevirtual 42, 3) := by decide +kernel
theorem dX5_readNumber_4 : decode cX5_readNumber 4 = .ok (.bipush 48, 2) := by decide +kernel
theorem dX5_readNumber_6 : decode cX5_readNumber 6 = .ok (.bipush 57, 2) := by decide +kernel
theorem dX5_readNumber_8 : decode cX5_readNumber 8 = .ok (.invokestatic 55, 3) := by decide +kernel
theorem dX5_readNumber_11 : decode cX5_readNumber 11 = .ok (.ifCond .ne 5, 3) := by decide +kernel
theorem dX5_readNumber_14 : decode cX5_readNumber 14 = .ok (.iconst 0, 1) := by decide +kernel
theorem dX5_readNumber_15 : decode cX5_readNumber 15 = .ok (.ireturn, 1) := by decide +kernel
theorem dX5_readNumber_16 : decode cX5_readNumber 16 = .ok (.aload_n 0, 1) := by decide +kernel
theorem dX5_readNumber_17 : decode cX5_readNumber 17 = .ok (.invokevirtual 59, 3) := by decide +kernel
theorem dX5_readNumber_20 : decode cX5_readNumber 20 = .ok (.istore_n 1, 1) := by decide +kernel
theorem dX5_readNumber_21 : decode cX5_readNumber 21 = .ok (.iconst 1, 1) := by decide +kernel
theorem dX5_readNumber_22 : decode cX5_readNumber 22 = .ok (.istore_n 2, 1) := by decide +kernel
theorem dX5_readNumber_23 : decode cX5_readNumber 23 = .ok (.iload_n 2, 1) := by decide +kernel
theorem dX5_readNumber_24 : decode cX5_readNumber 24 = .ok (.iconst 3, 1) := by decide +kernel
theorem dX5_readNumber_25 : decode cX5_readNumber 25 = .ok (.if_icmp .ge 37, 3) := by decide +kernel
theorem dX5_readNumber_28 : decode cX5_readNumber 28 = .ok (.iload_n 1, 1) := by decide +kernel
theorem dX5_readNumber_29 : decode cX5_readNumber 29 = .ok (.ifCond .le 33, 3) := by decide +kernel
theorem dX5_readNumber_32 : decode cX5_readNumber 32 = .ok (.aload_n 0, 1) := by decide +kernel
theorem dX5_readNumber_33 : decode cX5_readNumber 33 = .ok (.invokevirtual 42, 3) := by decide +kernel
theorem dX5_readNumber_36 : decode cX5_readNumber 36 = .ok (.bipush 48, 2) := by decide +kernel
theorem dX5_readNumber_38 : decode cX5_readNumber 38 = .ok (.bipush 57, 2) := by decide +kernel
theorem dX5_readNumber_40 : decode cX5_readNumber 40 = .ok (.invokestatic 55, 3) := by decide +kernel
theorem dX5_readNumber_43 : decode cX5_readNumber 43 = .ok (.ifCond .eq 19, 3) := by decide +kernel
theorem dX5_readNumber_46 : decode cX5_readNumber 46 = .ok (.bipush 10, 2) := by decide +kernel
theorem dX5_readNumber_48 : decode cX5_readNumber 48 = .ok (.iload_n 1, 1) := by decide +kernel
theorem dX5_readNumber_49 : decode cX5_readNumber 49 = .ok (.imul, 1) := by decide +kernel
theorem dX5_readNumber_50 : decode cX5_readNumber 50 = .ok (.aload_n 0, 1) := by decide +kernel
theorem dX5_readNumber_51 : decode cX5_readNumber 51 = .ok (.invokevirtual 59, 3) := by decide +kernel
theorem dX5_readNumber_54 : decode cX5_readNumber 54 = .ok (.iadd, 1) := by decide +kernel
theorem dX5_readNumber_55 : decode cX5_readNumber 55 = .ok (.istore_n 1, 1) := by decide +kernel
theorem dX5_readNumber_56 : decode cX5_readNumber 56 = .ok (.iinc 2 1, 3) := by decide +kernel
theorem dX5_readNumber_59 : decode cX5_readNumber 59 = .ok (.goto (-36), 3) := by decide +kernel
theorem dX5_readNumber_62 : decode cX5_readNumber 62 = .ok (.aload_n 0, 1) := by decide +kernel
theorem dX5_readNumber_63 : decode cX5_readNumber 63 = .ok (.iload_n 1, 1) := by decide +kernel
theorem dX5_readNumber_64 : decode cX5_readNumber 64 = .ok (.invokevirtual 62, 3) := by decide +kernel
theorem dX5_readNumber_67 : decode cX5_readNumber 67 = .ok (.ireturn, 1) := by decide +kernel
theorem dX5_readPlace_0 : decode cX5_readPlace 0 = .ok (.aload_n 0, 1) := by decide +kernel
theorem dX5_readPlace_1 : decode cX5_readPlace 1 = .ok (.invokevirtual 42, 3) := by decide +kernel
theorem dX5_readPlace_4 : decode cX5_readPlace 4 = .ok (.bipush 48, 2) := by decide +kernel
theorem dX5_readPlace_6 : decode cX5_readPlace 6 = .ok (.bipush 52, 2) := by decide +kernel
theorem dX5_readPlace_8 : decode cX5_readPlace 8 = .ok (.invokestatic 55, 3) := by decide +kernel
theorem dX5_readPlace_11 : decode cX5_readPlace 11 = .ok (.ifCond .eq 12, 3) := by decide +kernel
theorem dX5_readPlace_14 : decode cX5_readPlace 14 = .ok (.aload_n 0, 1) := by decide +kernel
theorem dX5_readPlace_15 : decode cX5_readPlace 15 = .ok (.aload_n 0, 1) := by decide +kernel
theorem dX5_readPlace_16 : decode cX5_readPlace 16 = .ok (.invokevirtual 59, 3) := by decide +kernel
theorem dX5_readPlace_19 : decode cX5_readPlace 19 = .ok (.invokevirtual 62, 3) := by decide +kernel
theorem dX5_readPlace_22 : decode cX5_readPlace 22 = .ok (.ireturn, 1) := by decide +kernel
theorem dX5_readPlace_23 : decode cX5_readPlace 23 = .ok (.aload_n 0, 1) := by decide +kernel
theorem dX5_readPlace_24 : decode cX5_readPlace 24 = .ok (.bipush 112, 2) := by decide +kernel
theorem dX5_readPlace_26 : decode cX5_readPlace 26 = .ok (.invokevirtual 38, 3) := by decide +kernel
theorem dX5_readPlace_29 : decode cX5_readPlace 29 = .ok (.ifCond .eq 16, 3) := by decide +kernel
theorem dX5_readPlace_32 : decode cX5_readPlace 32 = .ok (.aload_n 0, 1) := by decide +kernel
theorem dX5_readPlace_33 : decode cX5_readPlace 33 = .ok (.bipush 9, 2) := by decide +kernel
theorem dX5_readPlace_35 : decode cX5_readPlace 35 = .ok (.invokevirtual 62, 3) := by decide +kernel
theorem dX5_readPlace_38 : decode cX5_readPlace 38 = .ok (.ifCond .eq 7, 3) := by decide +kernel
theorem dX5_readPlace_41 : decode cX5_readPlace 41 = .ok (.iconst 1, 1) := by decide +kernel
theorem dX5_readPlace_42 : decode cX5_readPlace 42 = .ok (.goto 4, 3) := by decide +kernel
theorem dX5_readPlace_45 : decode cX5_readPlace 45 = .ok (.iconst 0, 1) := by decide +kernel
theorem dX5_readPlace_46 : decode cX5_readPlace 46 = .ok (.ireturn, 1) := by decide +kernel
theorem dX5_addArgument_0 : decode cX5_addArgument 0 = .ok (.aload_n 0, 1) := by decide +kernel
theorem dX5_addArgument_1 : decode cX5_addArgument 1 = .ok (.getfield 28, 3) := by decide +kernel
theorem dX5_addArgument_4 : decode cX5_addArgument 4 = .ok (.iconst 0, 1) := by decide +kernel
theorem dX5_addArgument_5 : decode cX5_addArgument 5 = .ok (.aload_n 0, 1) := by decide +kernel
theorem dX5_addArgument_6 : decode cX5_addArgument 6 = .ok (.getfield 25, 3) := by decide +kernel
theorem dX5_addArgument_9 : decode cX5_addArgument 9 = .ok (.arraylength, 1) := by decide +kernel
theorem dX5_addArgument_10 : decode cX5_addArgument 10 = .ok (.iconst 1, 1) := by decide +kernel
theorem dX5_addArgument_11 : decode cX5_addArgument 11 = .ok (.isub, 1) := by decide +kernel
theorem dX5_addArgument_12 : decode cX5_addArgument 12 = .ok (.invokestatic 55, 3) := by decide +kernel
theorem dX5_addArgument_15 : decode cX5_addArgument 15 = .ok (.ifCond .ne 5, 3) := by decide +kernel
theorem dX5_addArgument_18 : decode cX5_addArgument 18 = .ok (.iconst 0, 1) := by decide +kernel
theorem dX5_addArgument_19 : decode cX5_addArgument 19 = .ok (.ireturn, 1) := by decide +kernel
theorem dX5_addArgument_20 : decode cX5_addArgument 20 = .ok (.aload_n 0, 1) := by decide +kernel
theorem dX5_addArgument_21 : decode cX5_addArgument 21 = .ok (.getfield 25, 3) := by decide +kernel
theorem dX5_addArgument_24 : decode cX5_addArgument 24 = .ok (.aload_n 0, 1) := by decide +kernel
theorem dX5_addArgument_25 : decode cX5_addArgument 25 = .ok (.getfield 28, 3) := by decide +kernel
theorem dX5_addArgument_28 : decode cX5_addArgument 28 = .ok (.iload_n 1, 1) := by decide +kernel
theorem dX5_addArgument_29 : decode cX5_addArgument 29 = .ok (.iastore, 1) := by decide +kernel
theorem dX5_addArgument_30 : decode cX5_addArgument 30 = .ok (.aload_n 0, 1) := by decide +kernel
theorem dX5_addArgument_31 : decode cX5_addArgument 31 = .ok (.dup, 1) := by decide +kernel
theorem dX5_addArgument_32 : decode cX5_addArgument 32 = .ok (.getfield 28, 3) := by decide +kernel
theorem dX5_addArgument_35 : decode cX5_addArgument 35 = .ok (.iconst 1, 1) := by decide +kernel
theorem dX5_addArgument_36 : decode cX5_addArgument 36 = .ok (.iadd, 1) := by decide +kernel
theorem dX5_addArgument_37 : decode cX5_addArgument 37 = .ok (.putfield 28, 3) := by decide +kernel
theorem dX5_addArgument_40 : decode cX5_addArgument 40 = .ok (.iconst 1, 1) := by decide +kernel
theorem dX5_addArgument_41 : decode cX5_addArgument 41 = .ok (.ireturn, 1) := by decide +kernel
theorem dX5_takeDigit_0 : decode cX5_takeDigit 0 = .ok (.aload_n 0, 1) := by decide +kernel
theorem dX5_takeDigit_1 : decode cX5_takeDigit 1 = .ok (.invokevirtual 42, 3) := by decide +kernel
theorem dX5_takeDigit_4 : decode cX5_takeDigit 4 = .ok (.bipush 48, 2) := by decide +kernel
theorem dX5_takeDigit_6 : decode cX5_takeDigit 6 = .ok (.isub, 1) := by decide +kernel
theorem dX5_takeDigit_7 : decode cX5_takeDigit 7 = .ok (.istore_n 1, 1) := by decide +kernel
theorem dX5_takeDigit_8 : decode cX5_takeDigit 8 = .ok (.aload_n 0, 1) := by decide +kernel
theorem dX5_takeDigit_9 : decode cX5_takeDigit 9 = .ok (.dup, 1) := by decide +kernel
theorem dX5_takeDigit_10 : decode cX5_takeDigit 10 = .ok (.getfield 19, 3) := by decide +kernel
theorem dX5_takeDigit_13 : decode cX5_takeDigit 13 = .ok (.iconst 1, 1) := by decide +kernel
theorem dX5_takeDigit_14 : decode cX5_takeDigit 14 = .ok (.iadd, 1) := by decide +kernel
theorem dX5_takeDigit_15 : decode cX5_takeDigit 15 = .ok (.putfield 19, 3) := by decide +kernel
theorem dX5_takeDigit_18 : decode cX5_takeDigit 18 = .ok (.iload_n 1, 1) := by decide +kernel
theorem dX5_takeDigit_19 : decode cX5_takeDigit 19 = .ok (.ireturn, 1) := by decide +kernel
theorem dX5_codeHere_0 : decode cX5_codeHere 0 = .ok (.aload_n 0, 1) := by decide +kernel
theorem dX5_codeHere_1 : decode cX5_codeHere 1 = .ok (.getfield 19, 3) := by decide +kernel
theorem dX5_codeHere_4 : decode cX5_codeHere 4 = .ok (.ifCond .lt 35, 3) := by decide +kernel
theorem dX5_codeHere_7 : decode cX5_codeHere 7 = .ok (.aload_n 0, 1) := by decide +kernel
theorem dX5_codeHere_8 : decode cX5_codeHere 8 = .ok (.getfield 19, 3) := by decide +kernel
theorem dX5_codeHere_11 : decode cX5_codeHere 11 = .ok (.aload_n 0, 1) := by decide +kernel
theorem dX5_codeHere_12 : decode cX5_codeHere 12 = .ok (.getfield 15, 3) := by decide +kernel
theorem dX5_codeHere_15 : decode cX5_codeHere 15 = .ok (.if_icmp .ge 24, 3) := by decide +kernel
theorem dX5_codeHere_18 : decode cX5_codeHere 18 = .ok (.aload_n 0, 1) := by decide +kernel
theorem dX5_codeHere_19 : decode cX5_codeHere 19 = .ok (.getfield 19, 3) := by decide +kernel
theorem dX5_codeHere_22 : decode cX5_codeHere 22 = .ok (.bipush 80, 2) := by decide +kernel
theorem dX5_codeHere_24 : decode cX5_codeHere 24 = .ok (.if_icmp .ge 15, 3) := by decide +kernel
theorem dX5_codeHere_27 : decode cX5_codeHere 27 = .ok (.aload_n 0, 1) := by decide +kernel
theorem dX5_codeHere_28 : decode cX5_codeHere 28 = .ok (.getfield 9, 3) := by decide +kernel
theorem dX5_codeHere_31 : decode cX5_codeHere 31 = .ok (.aload_n 0, 1) := by decide +kernel
theorem dX5_codeHere_32 : decode cX5_codeHere 32 = .ok (.getfield 19, 3) := by decide +kernel
theorem dX5_codeHere_35 : decode cX5_codeHere 35 = .ok (.iaload, 1) := by decide +kernel
theorem dX5_codeHere_36 : decode cX5_codeHere 36 = .ok (.goto 4, 3) := by decide +kernel
theorem dX5_codeHere_39 : decode cX5_codeHere 39 = .ok (.iconst 0, 1) := by decide +kernel
theorem dX5_codeHere_40 : decode cX5_codeHere 40 = .ok (.ireturn, 1) := by decide +kernel
end
section
theorem dX6_init_0 : decode cX6_init 0 = .ok (.aload_n 0, 1) := by decide +kernel
theorem dX6_init_1 : decode cX6_init 1 = .ok (.invokespecial 3, 3) := by decide +kernel
theorem dX6_init_4 : decode cX6_init 4 = .ok (.aload_n 0, 1) := by decide +kernel
theorem dX6_init_5 : decode cX6_init 5 = .ok (.new 9, 3) := by decide +kernel
theorem dX6_init_8 : decode cX6_init 8 = .ok (.dup, 1) := by decide +kernel
theorem dX6_init_9 : decode cX6_init 9 = .ok (.invokespecial 11, 3) := by decide +kernel
theorem dX6_init_12 : decode cX6_init 12 = .ok (.putfield 12, 3) := by decide +kernel
theorem dX6_init_15 : decode cX6_init 15 = .ok (.aload_n 0, 1) := by decide +kernel
theorem dX6_init_16 : decode cX6_init 16 = .ok (.new 9, 3) := by decide +kernel
theorem dX6_init_19 : decode cX6_init 19 = .ok (.dup, 1) := by decide +kernel
theorem dX6_init_20 : decode cX6_init 20 = .ok (.invokespecial 11, 3) := by decide +kernel
theorem dX6_init_23 : decode cX6_init 23 = .ok (.putfield 16, 3) := by decide +kernel
theorem dX6_init_26 : decode cX6_init 26 = .ok (.aload_n 0, 1) := by decide +kernel
theorem dX6_init_27 : decode cX6_init 27 = .ok (.iconst 0, 1) := by decide +kernel
theorem dX6_init_28 : decode cX6_init 28 = .ok (.putfield 19, 3) := by decide +kernel
theorem dX6_init_31 : decode cX6_init 31 = .ok (.aload_n 0, 1) := by decide +kernel
theorem dX6_init_32 : decode cX6_init 32 = .ok (.new 23, 3) := by decide +kernel
theorem dX6_init_35 : decode cX6_init 35 = .ok (.dup, 1) := by decide +kernel
theorem dX6_init_36 : decode cX6_init 36 = .ok (.invokespecial 25, 3) := by decide +kernel
theorem dX6_init_39 : decode cX6_init 39 = .ok (.putfield 26, 3) := by decide +kernel
theorem dX6_init_42 : decode cX6_init 42 = .ok (.aload_n 0, 1) := by decide +kernel
theorem dX6_init_43 : decode cX6_init 43 = .ok (.new 30, 3) := by decide +kernel
theorem dX6_init_46 : decode cX6_init 46 = .ok (.dup, 1) := by decide +kernel
theorem dX6_init_47 : decode cX6_init 47 = .ok (.invokespecial 32, 3) := by decide +kernel
theorem dX6_init_50 : decode cX6_init 50 = .ok (.putfield 33, 3) := by decide +kernel
theorem dX6_init_53 : decode cX6_init 53 = .ok (.return_, 1) := by decide +kernel
theorem dX6_addReplica_0 : decode cX6_addReplica 0 = .ok (.aload_n 0, 1) := by decide +kernel
theorem dX6_addReplica_1 : decode cX6_addReplica 1 = .ok (.getfield 26, 3) := by decide +kernel
theorem dX6_addReplica_4 : decode cX6_addReplica 4 = .ok (.aload_n 0, 1) := by decide +kernel
theorem dX6_addReplica_5 : decode cX6_addReplica 5 = .ok (.getfield 12, 3) := by decide +kernel
theorem dX6_addReplica_8 : decode cX6_addReplica 8 = .ok (.invokevirtual 37, 3) := by decide +kernel
theorem dX6_addReplica_11 : decode cX6_addReplica 11 = .ok (.aload_n 0, 1) := by decide +kernel
theorem dX6_addReplica_12 : decode cX6_addReplica 12 = .ok (.getfield 26, 3) := by decide +kernel
theorem dX6_addReplica_15 : decode cX6_addReplica 15 = .ok (.aload_n 0, 1) := by decide +kernel
theorem dX6_addReplica_16 : decode cX6_addReplica 16 = .ok (.iload_n 1, 1) := by decide +kernel
theorem dX6_addReplica_17 : decode cX6_addReplica 17 = .ok (.iload_n 2, 1) := by decide +kernel
theorem dX6_addReplica_18 : decode cX6_addReplica 18 = .ok (.invokevirtual 41, 3) := by decide +kernel
theorem dX6_addReplica_21 : decode cX6_addReplica 21 = .ok (.invokevirtual 45, 3) := by decide +kernel
theorem dX6_addReplica_24 : decode cX6_addReplica 24 = .ok (.ireturn, 1) := by decide +kernel
theorem dX6_drop_0 : decode cX6_drop 0 = .ok (.aload_n 0, 1) := by decide +kernel
theorem dX6_drop_1 : decode cX6_drop 1 = .ok (.getfield 26, 3) := by decide +kernel
theorem dX6_drop_4 : decode cX6_drop 4 = .ok (.aload_n 0, 1) := by decide +kernel
theorem dX6_drop_5 : decode cX6_drop 5 = .ok (.getfield 12, 3) := by decide +kernel
theorem dX6_drop_8 : decode cX6_drop 8 = .ok (.invokevirtual 37, 3) := by decide +kernel
theorem dX6_drop_11 : decode cX6_drop 11 = .ok (.aload_n 0, 1) := by decide +kernel
theorem dX6_drop_12 : decode cX6_drop 12 = .ok (.getfield 26, 3) := by decide +kernel
theorem dX6_drop_15 : decode cX6_drop 15 = .ok (.aload_n 0, 1) := by decide +kernel
theorem dX6_drop_16 : decode cX6_drop 16 = .ok (.iload_n 1, 1) := by decide +kernel
theorem dX6_drop_17 : decode cX6_drop 17 = .ok (.invokevirtual 49, 3) := by decide +kernel
theorem dX6_drop_20 : decode cX6_drop 20 = .ok (.invokevirtual 45, 3) := by decide +kernel
theorem dX6_drop_23 : decode cX6_drop 23 = .ok (.ireturn, 1) := by decide +kernel
theorem dX6_setRate_0 : decode cX6_setRate 0 = .ok (.aload_n 0, 1) := by decide +kernel
theorem dX6_setRate_1 : decode cX6_setRate 1 = .ok (.getfield 26, 3) := by decide +kernel
theorem dX6_setRate_4 : decode cX6_setRate 4 = .ok (.aload_n 0, 1) := by decide +kernel
theorem dX6_setRate_5 : decode cX6_setRate 5 = .ok (.getfield 12, 3) := by decide +kernel
theorem dX6_setRate_8 : decode cX6_setRate 8 = .ok (.invokevirtual 37, 3) := by decide +kernel
theorem dX6_setRate_11 : decode cX6_setRate 11 = .ok (.aload_n 0, 1) := by decide +kernel
theorem dX6_setRate_12 : decode cX6_setRate 12 = .ok (.getfield 26, 3) := by decide +kernel
theorem dX6_setRate_15 : decode cX6_setRate 15 = .ok (.aload_n 0, 1) := by decide +kernel
theorem dX6_setRate_16 : decode cX6_setRate 16 = .ok (.iload_n 1, 1) := by decide +kernel
theorem dX6_setRate_17 : decode cX6_setRate 17 = .ok (.iload_n 2, 1) := by decide +kernel
theorem dX6_setRate_18 : decode cX6_setRate 18 = .ok (.invokevirtual 52, 3) := by decide +kernel
theorem dX6_setRate_21 : decode cX6_setRate 21 = .ok (.invokevirtual 45, 3) := by decide +kernel
theorem dX6_setRate_24 : decode cX6_setRate 24 = .ok (.ireturn, 1) := by decide +kernel
theorem dX6_stop_0 : decode cX6_stop 0 = .ok (.aload_n 0, 1) := by decide +kernel
theorem dX6_stop_1 : decode cX6_stop 1 = .ok (.getfield 26, 3) := by decide +kernel
theorem dX6_stop_4 : decode cX6_stop 4 = .ok (.aload_n 0, 1) := by decide +kernel
theorem dX6_stop_5 : decode cX6_stop 5 = .ok (.getfield 12, 3) := by decide +kernel
theorem dX6_stop_8 : decode cX6_stop 8 = .ok (.invokevirtual 37, 3) := by decide +kernel
theorem dX6_stop_11 : decode cX6_stop 11 = .ok (.aload_n 0, 1) := by decide +kernel
theorem dX6_stop_12 : decode cX6_stop 12 = .ok (.getfield 26, 3) := by decide +kernel
theorem dX6_stop_15 : decode cX6_stop 15 = .ok (.aload_n 0, 1) := by decide +kernel
theorem dX6_stop_16 : decode cX6_stop 16 = .ok (.iload_n 1, 1) := by decide +kernel
theorem dX6_stop_17 : decode cX6_stop 17 = .ok (.iload_n 2, 1) := by decide +kernel
theorem dX6_stop_18 : decode cX6_stop 18 = .ok (.invokevirtual 55, 3) := by decide +kernel
theorem dX6_stop_21 : decode cX6_stop 21 = .ok (.invokevirtual 45, 3) := by decide +kernel
theorem dX6_stop_24 : decode cX6_stop 24 = .ok (.ireturn, 1) := by decide +kernel
theorem dX6_jumpBack_0 : decode cX6_jumpBack 0 = .ok (.aload_n 0, 1) := by decide +kernel
theorem dX6_jumpBack_1 : decode cX6_jumpBack 1 = .ok (.getfield 26, 3) := by decide +kernel
theorem dX6_jumpBack_4 : decode cX6_jumpBack 4 = .ok (.aload_n 0, 1) := by decide +kernel
theorem dX6_jumpBack_5 : decode cX6_jumpBack 5 = .ok (.getfield 12, 3) := by decide +kernel
theorem dX6_jumpBack_8 : decode cX6_jumpBack 8 = .ok (.invokevirtual 37, 3) := by decide +kernel
theorem dX6_jumpBack_11 : decode cX6_jumpBack 11 = .ok (.aload_n 0, 1) := by decide +kernel
theorem dX6_jumpBack_12 : decode cX6_jumpBack 12 = .ok (.getfield 26, 3) := by decide +kernel
theorem dX6_jumpBack_15 : decode cX6_jumpBack 15 = .ok (.aload_n 0, 1) := by decide +kernel
theorem dX6_jumpBack_16 : decode cX6_jumpBack 16 = .ok (.iload_n 1, 1) := by decide +kernel
theorem dX6_jumpBack_17 : decode cX6_jumpBack 17 = .ok (.iload_n 2, 1) := by decide +kernel
theorem dX6_jumpBack_18 : decode cX6_jumpBack 18 = .ok (.invokevirtual 59, 3) := by decide +kernel
theorem dX6_jumpBack_21 : decode cX6_jumpBack 21 = .ok (.invokevirtual 45, 3) := by decide +kernel
theorem dX6_jumpBack_24 : decode cX6_jumpBack 24 = .ok (.ireturn, 1) := by decide +kernel
theorem dX6_tick_0 : decode cX6_tick 0 = .ok (.aload_n 0, 1) := by decide +kernel
theorem dX6_tick_1 : decode cX6_tick 1 = .ok (.getfield 26, 3) := by decide +kernel
theorem dX6_tick_4 : decode cX6_tick 4 = .ok (.aload_n 0, 1) := by decide +kernel
theorem dX6_tick_5 : decode cX6_tick 5 = .ok (.getfield 12, 3) := by decide +kernel
theorem dX6_tick_8 : decode cX6_tick 8 = .ok (.invokevirtual 37, 3) := by decide +kernel
theorem dX6_tick_11 : decode cX6_tick 11 = .ok (.aload_n 0, 1) := by decide +kernel
theorem dX6_tick_12 : decode cX6_tick 12 = .ok (.getfield 26, 3) := by decide +kernel
theorem dX6_tick_15 : decode cX6_tick 15 = .ok (.aload_n 0, 1) := by decide +kernel
theorem dX6_tick_16 : decode cX6_tick 16 = .ok (.iload_n 1, 1) := by decide +kernel
theorem dX6_tick_17 : decode cX6_tick 17 = .ok (.invokevirtual 62, 3) := by decide +kernel
theorem dX6_tick_20 : decode cX6_tick 20 = .ok (.invokevirtual 45, 3) := by decide +kernel
theorem dX6_tick_23 : decode cX6_tick 23 = .ok (.ireturn, 1) := by decide +kernel
theorem dX6_replicas_0 : decode cX6_replicas 0 = .ok (.aload_n 0, 1) := by decide +kernel
theorem dX6_replicas_1 : decode cX6_replicas 1 = .ok (.getfield 12, 3) := by decide +kernel
theorem dX6_replicas_4 : decode cX6_replicas 4 = .ok (.invokevirtual 65, 3) := by decide +kernel
theorem dX6_replicas_7 : decode cX6_replicas 7 = .ok (.ireturn, 1) := by decide +kernel
theorem dX6_replica_0 : decode cX6_replica 0 = .ok (.aload_n 0, 1) := by decide +kernel
theorem dX6_replica_1 : decode cX6_replica 1 = .ok (.getfield 12, 3) := by decide +kernel
theorem dX6_replica_4 : decode cX6_replica 4 = .ok (.iload_n 1, 1) := by decide +kernel
theorem dX6_replica_5 : decode cX6_replica 5 = .ok (.invokevirtual 69, 3) := by decide +kernel
theorem dX6_replica_8 : decode cX6_replica 8 = .ok (.astore_n 3, 1) := by decide +kernel
theorem dX6_replica_9 : decode cX6_replica 9 = .ok (.aload_n 3, 1) := by decide +kernel
theorem dX6_replica_10 : decode cX6_replica 10 = .ok (.ifnonnull 5, 3) := by decide +kernel
theorem dX6_replica_13 : decode cX6_replica 13 = .ok (.iconst (-1), 1) := by decide +kernel
theorem dX6_replica_14 : decode cX6_replica 14 = .ok (.ireturn, 1) := by decide +kernel
theorem dX6_replica_15 : decode cX6_replica 15 = .ok (.iload_n 2, 1) := by decide +kernel
theorem dX6_replica_16 : decode cX6_replica 16 = .ok (.tableswitch 55 0 2 #[28, 33, 46], 28) := by decide +kernel
theorem dX6_replica_44 : decode cX6_replica 44 = .ok (.aload_n 3, 1) := by decide +kernel
theorem dX6_replica_45 : decode cX6_replica 45 = .ok (.getfield 73, 3) := by decide +kernel
theorem dX6_replica_48 : decode cX6_replica 48 = .ok (.ireturn, 1) := by decide +kernel
theorem dX6_replica_49 : decode cX6_replica 49 = .ok (.aload_n 3, 1) := by decide +kernel
theorem dX6_replica_50 : decode cX6_replica 50 = .ok (.getfield 79, 3) := by decide +kernel
theorem dX6_replica_53 : decode cX6_replica 53 = .ok (.ifCond .eq 7, 3) := by decide +kernel
theorem dX6_replica_56 : decode cX6_replica 56 = .ok (.iconst 1, 1) := by decide +kernel
theorem dX6_replica_57 : decode cX6_replica 57 = .ok (.goto 4, 3) := by decide +kernel
theorem dX6_replica_60 : decode cX6_replica 60 = .ok (.iconst 0, 1) := by decide +kernel
theorem dX6_replica_61 : decode cX6_replica 61 = .ok (.ireturn, 1) := by decide +kernel
theorem dX6_replica_62 : decode cX6_replica 62 = .ok (.aload_n 0, 1) := by decide +kernel
theorem dX6_replica_63 : decode cX6_replica 63 = .ok (.getfield 12, 3) := by decide +kernel
theorem dX6_replica_66 : decode cX6_replica 66 = .ok (.iload_n 1, 1) := by decide +kernel
theorem dX6_replica_67 : decode cX6_replica 67 = .ok (.invokevirtual 82, 3) := by decide +kernel
theorem dX6_replica_70 : decode cX6_replica 70 = .ok (.ireturn, 1) := by decide +kernel
theorem dX6_replica_71 : decode cX6_replica 71 = .ok (.bipush (-2), 2) := by decide +kernel
theorem dX6_replica_73 : decode cX6_replica 73 = .ok (.ireturn, 1) := by decide +kernel
theorem dX6_length_0 : decode cX6_length 0 = .ok (.aload_n 0, 1) := by decide +kernel
theorem dX6_length_1 : decode cX6_length 1 = .ok (.getfield 12, 3) := by decide +kernel
theorem dX6_length_4 : decode cX6_length 4 = .ok (.getfield 85, 3) := by decide +kernel
theorem dX6_length_7 : decode cX6_length 7 = .ok (.getfield 89, 3) := by decide +kernel
theorem dX6_length_10 : decode cX6_length 10 = .ok (.ireturn, 1) := by decide +kernel
theorem dX6_logged_0 : decode cX6_logged 0 = .ok (.aload_n 0, 1) := by decide +kernel
theorem dX6_logged_1 : decode cX6_logged 1 = .ok (.getfield 12, 3) := by decide +kernel
theorem dX6_logged_4 : decode cX6_logged 4 = .ok (.getfield 85, 3) := by decide +kernel
theorem dX6_logged_7 : decode cX6_logged 7 = .ok (.iload_n 1, 1) := by decide +kernel
theorem dX6_logged_8 : decode cX6_logged 8 = .ok (.invokevirtual 94, 3) := by decide +kernel
theorem dX6_logged_11 : decode cX6_logged 11 = .ok (.ifCond .ne 5, 3) := by decide +kernel
theorem dX6_logged_14 : decode cX6_logged 14 = .ok (.iconst (-1), 1) := by decide +kernel
theorem dX6_logged_15 : decode cX6_logged 15 = .ok (.ireturn, 1) := by decide +kernel
theorem dX6_logged_16 : decode cX6_logged 16 = .ok (.iload_n 2, 1) := by decide +kernel
theorem dX6_logged_17 : decode cX6_logged 17 = .ok (.tableswitch 63 0 2 #[27, 39, 51], 27) := by decide +kernel
theorem dX6_logged_44 : decode cX6_logged 44 = .ok (.aload_n 0, 1) := by decide +kernel
theorem dX6_logged_45 : decode cX6_logged 45 = .ok (.getfield 12, 3) := by decide +kernel
theorem dX6_logged_48 : decode cX6_logged 48 = .ok (.getfield 85, 3) := by decide +kernel
theorem dX6_logged_51 : decode cX6_logged 51 = .ok (.iload_n 1, 1) := by decide +kernel
theorem dX6_logged_52 : decode cX6_logged 52 = .ok (.invokevirtual 98, 3) := by decide +kernel
theorem dX6_logged_55 : decode cX6_logged 55 = .ok (.ireturn, 1) := by decide +kernel
theorem dX6_logged_56 : decode cX6_logged 56 = .ok (.aload_n 0, 1) := by decide +kernel
theorem dX6_logged_57 : decode cX6_logged 57 = .ok (.getfield 12, 3) := by decide +kernel
theorem dX6_logged_60 : decode cX6_logged 60 = .ok (.getfield 85, 3) := by decide +kernel
theorem dX6_logged_63 : decode cX6_logged 63 = .ok (.iload_n 1, 1) := by decide +kernel
theorem dX6_logged_64 : decode cX6_logged 64 = .ok (.invokevirtual 101, 3) := by decide +kernel
theorem dX6_logged_67 : decode cX6_logged 67 = .ok (.ireturn, 1) := by decide +kernel
theorem dX6_logged_68 : decode cX6_logged 68 = .ok (.aload_n 0, 1) := by decide +kernel
theorem dX6_logged_69 : decode cX6_logged 69 = .ok (.getfield 12, 3) := by decide +kernel
theorem dX6_logged_72 : decode cX6_logged 72 = .ok (.getfield 85, 3) := by decide +kernel
theorem dX6_logged_75 : decode cX6_logged 75 = .ok (.iload_n 1, 1) := by decide +kernel
theorem dX6_logged_76 : decode cX6_logged 76 = .ok (.invokevirtual 104, 3) := by decide +kernel
theorem dX6_logged_79 : decode cX6_logged 79 = .ok (.ireturn, 1) := by decide +kernel
theorem dX6_logged_80 : decode cX6_logged 80 = .ok (.bipush (-2), 2) := by decide +kernel
theorem dX6_logged_82 : decode cX6_logged 82 = .ok (.ireturn, 1) := by decide +kernel
theorem dX6_position_0 : decode cX6_position 0 = .ok (.aload_n 0, 1) := by decide +kernel
theorem dX6_position_1 : decode cX6_position 1 = .ok (.getfield 12, 3) := by decide +kernel
theorem dX6_position_4 : decode cX6_position 4 = .ok (.iload_n 1, 1) := by decide +kernel
theorem dX6_position_5 : decode cX6_position 5 = .ok (.invokevirtual 107, 3) := by decide +kernel
theorem dX6_position_8 : decode cX6_position 8 = .ok (.ireturn, 1) := by decide +kernel
theorem dX6_version_0 : decode cX6_version 0 = .ok (.aload_n 0, 1) := by decide +kernel
theorem dX6_version_1 : decode cX6_version 1 = .ok (.getfield 12, 3) := by decide +kernel
theorem dX6_version_4 : decode cX6_version 4 = .ok (.iload_n 1, 1) := by decide +kernel
theorem dX6_version_5 : decode cX6_version 5 = .ok (.invokevirtual 110, 3) := by decide +kernel
theorem dX6_version_8 : decode cX6_version 8 = .ok (.ifCond .eq 10, 3) := by decide +kernel
theorem dX6_version_11 : decode cX6_version 11 = .ok (.iload_n 2, 1) := by decide +kernel
theorem dX6_version_12 : decode cX6_version 12 = .ok (.invokestatic 113, 3) := by decide +kernel
theorem dX6_version_15 : decode cX6_version 15 = .ok (.ifCond .ne 5, 3) := by decide +kernel
theorem dX6_version_18 : decode cX6_version 18 = .ok (.iconst (-1), 1) := by decide +kernel
theorem dX6_version_19 : decode cX6_version 19 = .ok (.ireturn, 1) := by decide +kernel
theorem dX6_version_20 : decode cX6_version 20 = .ok (.aload_n 0, 1) := by decide +kernel
theorem dX6_version_21 : decode cX6_version 21 = .ok (.getfield 12, 3) := by decide +kernel
theorem dX6_version_24 : decode cX6_version 24 = .ok (.getfield 85, 3) := by decide +kernel
theorem dX6_version_27 : decode cX6_version 27 = .ok (.aload_n 0, 1) := by decide +kernel
theorem dX6_version_28 : decode cX6_version 28 = .ok (.getfield 12, 3) := by decide +kernel
theorem dX6_version_31 : decode cX6_version 31 = .ok (.iload_n 1, 1) := by decide +kernel
theorem dX6_version_32 : decode cX6_version 32 = .ok (.invokevirtual 107, 3) := by decide +kernel
theorem dX6_version_35 : decode cX6_version 35 = .ok (.iload_n 2, 1) := by decide +kernel
theorem dX6_version_36 : decode cX6_version 36 = .ok (.invokevirtual 116, 3) := by decide +kernel
theorem dX6_version_39 : decode cX6_version 39 = .ok (.ireturn, 1) := by decide +kernel
theorem dX6_value_0 : decode cX6_value 0 = .ok (.aload_n 0, 1) := by decide +kernel
theorem dX6_value_1 : decode cX6_value 1 = .ok (.getfield 12, 3) := by decide +kernel
theorem dX6_value_4 : decode cX6_value 4 = .ok (.iload_n 1, 1) := by decide +kernel
theorem dX6_value_5 : decode cX6_value 5 = .ok (.invokevirtual 110, 3) := by decide +kernel
theorem dX6_value_8 : decode cX6_value 8 = .ok (.ifCond .eq 10, 3) := by decide +kernel
theorem dX6_value_11 : decode cX6_value 11 = .ok (.iload_n 2, 1) := by decide +kernel
theorem dX6_value_12 : decode cX6_value 12 = .ok (.invokestatic 113, 3) := by decide +kernel
theorem dX6_value_15 : decode cX6_value 15 = .ok (.ifCond .ne 5, 3) := by decide +kernel
theorem dX6_value_18 : decode cX6_value 18 = .ok (.iconst (-1), 1) := by decide +kernel
theorem dX6_value_19 : decode cX6_value 19 = .ok (.ireturn, 1) := by decide +kernel
theorem dX6_value_20 : decode cX6_value 20 = .ok (.aload_n 0, 1) := by decide +kernel
theorem dX6_value_21 : decode cX6_value 21 = .ok (.getfield 12, 3) := by decide +kernel
theorem dX6_value_24 : decode cX6_value 24 = .ok (.getfield 85, 3) := by decide +kernel
theorem dX6_value_27 : decode cX6_value 27 = .ok (.aload_n 0, 1) := by decide +kernel
theorem dX6_value_28 : decode cX6_value 28 = .ok (.getfield 12, 3) := by decide +kernel
theorem dX6_value_31 : decode cX6_value 31 = .ok (.getfield 85, 3) := by decide +kernel
theorem dX6_value_34 : decode cX6_value 34 = .ok (.aload_n 0, 1) := by decide +kernel
theorem dX6_value_35 : decode cX6_value 35 = .ok (.getfield 12, 3) := by decide +kernel
theorem dX6_value_38 : decode cX6_value 38 = .ok (.iload_n 1, 1) := by decide +kernel
theorem dX6_value_39 : decode cX6_value 39 = .ok (.invokevirtual 107, 3) := by decide +kernel
theorem dX6_value_42 : decode cX6_value 42 = .ok (.iload_n 2, 1) := by decide +kernel
theorem dX6_value_43 : decode cX6_value 43 = .ok (.invokevirtual 116, 3) := by decide +kernel
theorem dX6_value_46 : decode cX6_value 46 = .ok (.invokevirtual 101, 3) := by decide +kernel
theorem dX6_value_49 : decode cX6_value 49 = .ok (.ireturn, 1) := by decide +kernel
theorem dX6_missing_0 : decode cX6_missing 0 = .ok (.aload_n 0, 1) := by decide +kernel
theorem dX6_missing_1 : decode cX6_missing 1 = .ok (.getfield 12, 3) := by decide +kernel
theorem dX6_missing_4 : decode cX6_missing 4 = .ok (.iload_n 1, 1) := by decide +kernel
theorem dX6_missing_5 : decode cX6_missing 5 = .ok (.invokevirtual 110, 3) := by decide +kernel
theorem dX6_missing_8 : decode cX6_missing 8 = .ok (.ifCond .eq 10, 3) := by decide +kernel
theorem dX6_missing_11 : decode cX6_missing 11 = .ok (.iload_n 2, 1) := by decide +kernel
theorem dX6_missing_12 : decode cX6_missing 12 = .ok (.invokestatic 113, 3) := by decide +kernel
theorem dX6_missing_15 : decode cX6_missing 15 = .ok (.ifCond .ne 5, 3) := by decide +kernel
theorem dX6_missing_18 : decode cX6_missing 18 = .ok (.iconst (-1), 1) := by decide +kernel
theorem dX6_missing_19 : decode cX6_missing 19 = .ok (.ireturn, 1) := by decide +kernel
theorem dX6_missing_20 : decode cX6_missing 20 = .ok (.aload_n 0, 1) := by decide +kernel
theorem dX6_missing_21 : decode cX6_missing 21 = .ok (.getfield 12, 3) := by decide +kernel
theorem dX6_missing_24 : decode cX6_missing 24 = .ok (.getfield 85, 3) := by decide +kernel
theorem dX6_missing_27 : decode cX6_missing 27 = .ok (.aload_n 0, 1) := by decide +kernel
theorem dX6_missing_28 : decode cX6_missing 28 = .ok (.getfield 12, 3) := by decide +kernel
theorem dX6_missing_31 : decode cX6_missing 31 = .ok (.iload_n 1, 1) := by decide +kernel
theorem dX6_missing_32 : decode cX6_missing 32 = .ok (.invokevirtual 107, 3) := by decide +kernel
theorem dX6_missing_35 : decode cX6_missing 35 = .ok (.iload_n 2, 1) := by decide +kernel
theorem dX6_missing_36 : decode cX6_missing 36 = .ok (.invokevirtual 119, 3) := by decide +kernel
theorem dX6_missing_39 : decode cX6_missing 39 = .ok (.ireturn, 1) := by decide +kernel
theorem dX6_answers_0 : decode cX6_answers 0 = .ok (.iload_n 1, 1) := by decide +kernel
theorem dX6_answers_1 : decode cX6_answers 1 = .ok (.bipush 9, 2) := by decide +kernel
theorem dX6_answers_3 : decode cX6_answers 3 = .ok (.if_icmp .ne 11, 3) := by decide +kernel
theorem dX6_answers_6 : decode cX6_answers 6 = .ok (.aload_n 0, 1) := by decide +kernel
theorem dX6_answers_7 : decode cX6_answers 7 = .ok (.getfield 12, 3) := by decide +kernel
theorem dX6_answers_10 : decode cX6_answers 10 = .ok (.getfield 122, 3) := by decide +kernel
theorem dX6_answers_13 : decode cX6_answers 13 = .ok (.ireturn, 1) := by decide +kernel
theorem dX6_answers_14 : decode cX6_answers 14 = .ok (.aload_n 0, 1) := by decide +kernel
theorem dX6_answers_15 : decode cX6_answers 15 = .ok (.getfield 12, 3) := by decide +kernel
theorem dX6_answers_18 : decode cX6_answers 18 = .ok (.iload_n 1, 1) := by decide +kernel
theorem dX6_answers_19 : decode cX6_answers 19 = .ok (.invokevirtual 69, 3) := by decide +kernel
theorem dX6_answers_22 : decode cX6_answers 22 = .ok (.astore_n 2, 1) := by decide +kernel
theorem dX6_answers_23 : decode cX6_answers 23 = .ok (.aload_n 2, 1) := by decide +kernel
theorem dX6_answers_24 : decode cX6_answers 24 = .ok (.ifnonnull 7, 3) := by decide +kernel
theorem dX6_answers_27 : decode cX6_answers 27 = .ok (.iconst (-1), 1) := by decide +kernel
theorem dX6_answers_28 : decode cX6_answers 28 = .ok (.goto 7, 3) := by decide +kernel
theorem dX6_answers_31 : decode cX6_answers 31 = .ok (.aload_n 2, 1) := by decide +kernel
theorem dX6_answers_32 : decode cX6_answers 32 = .ok (.getfield 125, 3) := by decide +kernel
theorem dX6_answers_35 : decode cX6_answers 35 = .ok (.ireturn, 1) := by decide +kernel
theorem dX6_open_0 : decode cX6_open 0 = .ok (.aload_n 0, 1) := by decide +kernel
theorem dX6_open_1 : decode cX6_open 1 = .ok (.getfield 26, 3) := by decide +kernel
theorem dX6_open_4 : decode cX6_open 4 = .ok (.aload_n 0, 1) := by decide +kernel
theorem dX6_open_5 : decode cX6_open 5 = .ok (.getfield 12, 3) := by decide +kernel
theorem dX6_open_8 : decode cX6_open 8 = .ok (.invokevirtual 37, 3) := by decide +kernel
theorem dX6_open_11 : decode cX6_open 11 = .ok (.aload_n 0, 1) := by decide +kernel
theorem dX6_open_12 : decode cX6_open 12 = .ok (.getfield 26, 3) := by decide +kernel
theorem dX6_open_15 : decode cX6_open 15 = .ok (.aload_n 0, 1) := by decide +kernel
theorem dX6_open_16 : decode cX6_open 16 = .ok (.iload_n 1, 1) := by decide +kernel
theorem dX6_open_17 : decode cX6_open 17 = .ok (.iload_n 2, 1) := by decide +kernel
theorem dX6_open_18 : decode cX6_open 18 = .ok (.iload_n 3, 1) := by decide +kernel
theorem dX6_open_19 : decode cX6_open 19 = .ok (.invokevirtual 128, 3) := by decide +kernel
theorem dX6_open_22 : decode cX6_open 22 = .ok (.invokevirtual 45, 3) := by decide +kernel
theorem dX6_open_25 : decode cX6_open 25 = .ok (.ireturn, 1) := by decide +kernel
theorem dX6_close_0 : decode cX6_close 0 = .ok (.aload_n 0, 1) := by decide +kernel
theorem dX6_close_1 : decode cX6_close 1 = .ok (.getfield 26, 3) := by decide +kernel
theorem dX6_close_4 : decode cX6_close 4 = .ok (.aload_n 0, 1) := by decide +kernel
theorem dX6_close_5 : decode cX6_close 5 = .ok (.getfield 12, 3) := by decide +kernel
theorem dX6_close_8 : decode cX6_close 8 = .ok (.invokevirtual 37, 3) := by decide +kernel
theorem dX6_close_11 : decode cX6_close 11 = .ok (.aload_n 0, 1) := by decide +kernel
theorem dX6_close_12 : decode cX6_close 12 = .ok (.getfield 26, 3) := by decide +kernel
theorem dX6_close_15 : decode cX6_close 15 = .ok (.aload_n 0, 1) := by decide +kernel
theorem dX6_close_16 : decode cX6_close 16 = .ok (.iload_n 1, 1) := by decide +kernel
theorem dX6_close_17 : decode cX6_close 17 = .ok (.invokevirtual 132, 3) := by decide +kernel
theorem dX6_close_20 : decode cX6_close 20 = .ok (.invokevirtual 45, 3) := by decide +kernel
theorem dX6_close_23 : decode cX6_close 23 = .ok (.ireturn, 1) := by decide +kernel
theorem dX6_move_0 : decode cX6_move 0 = .ok (.aload_n 0, 1) := by decide +kernel
theorem dX6_move_1 : decode cX6_move 1 = .ok (.getfield 26, 3) := by decide +kernel
theorem dX6_move_4 : decode cX6_move 4 = .ok (.aload_n 0, 1) := by decide +kernel
theorem dX6_move_5 : decode cX6_move 5 = .ok (.getfield 12, 3) := by decide +kernel
theorem dX6_move_8 : decode cX6_move 8 = .ok (.invokevirtual 37, 3) := by decide +kernel
theorem dX6_move_11 : decode cX6_move 11 = .ok (.aload_n 0, 1) := by decide +kernel
theorem dX6_move_12 : decode cX6_move 12 = .ok (.getfield 26, 3) := by decide +kernel
theorem dX6_move_15 : decode cX6_move 15 = .ok (.aload_n 0, 1) := by decide +kernel
theorem dX6_move_16 : decode cX6_move 16 = .ok (.iload_n 1, 1) := by decide +kernel
theorem dX6_move_17 : decode cX6_move 17 = .ok (.iload_n 2, 1) := by decide +kernel
theorem dX6_move_18 : decode cX6_move 18 = .ok (.invokevirtual 135, 3) := by decide +kernel
theorem dX6_move_21 : decode cX6_move 21 = .ok (.invokevirtual 45, 3) := by decide +kernel
theorem dX6_move_24 : decode cX6_move 24 = .ok (.ireturn, 1) := by decide +kernel
theorem dX6_change_0 : decode cX6_change 0 = .ok (.aload_n 0, 1) := by decide +kernel
theorem dX6_change_1 : decode cX6_change 1 = .ok (.getfield 26, 3) := by decide +kernel
theorem dX6_change_4 : decode cX6_change 4 = .ok (.aload_n 0, 1) := by decide +kernel
theorem dX6_change_5 : decode cX6_change 5 = .ok (.getfield 12, 3) := by decide +kernel
theorem dX6_change_8 : decode cX6_change 8 = .ok (.invokevirtual 37, 3) := by decide +kernel
theorem dX6_change_11 : decode cX6_change 11 = .ok (.aload_n 0, 1) := by decide +kernel
theorem dX6_change_12 : decode cX6_change 12 = .ok (.getfield 26, 3) := by decide +kernel
theorem dX6_change_15 : decode cX6_change 15 = .ok (.aload_n 0, 1) := by decide +kernel
theorem dX6_change_16 : decode cX6_change 16 = .ok (.iload_n 1, 1) := by decide +kernel
theorem dX6_change_17 : decode cX6_change 17 = .ok (.iload_n 2, 1) := by decide +kernel
theorem dX6_change_18 : decode cX6_change 18 = .ok (.iload_n 3, 1) := by decide +kernel
theorem dX6_change_19 : decode cX6_change 19 = .ok (.invokevirtual 138, 3) := by decide +kernel
theorem dX6_change_22 : decode cX6_change 22 = .ok (.invokevirtual 45, 3) := by decide +kernel
theorem dX6_change_25 : decode cX6_change 25 = .ok (.ireturn, 1) := by decide +kernel
theorem dX6_hand_0 : decode cX6_hand 0 = .ok (.aload_n 0, 1) := by decide +kernel
theorem dX6_hand_1 : decode cX6_hand 1 = .ok (.getfield 26, 3) := by decide +kernel
theorem dX6_hand_4 : decode cX6_hand 4 = .ok (.aload_n 0, 1) := by decide +kernel
theorem dX6_hand_5 : decode cX6_hand 5 = .ok (.getfield 12, 3) := by decide +kernel
theorem dX6_hand_8 : decode cX6_hand 8 = .ok (.invokevirtual 37, 3) := by decide +kernel
theorem dX6_hand_11 : decode cX6_hand 11 = .ok (.aload_n 0, 1) := by decide +kernel
theorem dX6_hand_12 : decode cX6_hand 12 = .ok (.getfield 26, 3) := by decide +kernel
theorem dX6_hand_15 : decode cX6_hand 15 = .ok (.aload_n 0, 1) := by decide +kernel
theorem dX6_hand_16 : decode cX6_hand 16 = .ok (.iload_n 1, 1) := by decide +kernel
theorem dX6_hand_17 : decode cX6_hand 17 = .ok (.iload_n 2, 1) := by decide +kernel
theorem dX6_hand_18 : decode cX6_hand 18 = .ok (.invokevirtual 141, 3) := by decide +kernel
theorem dX6_hand_21 : decode cX6_hand 21 = .ok (.invokevirtual 45, 3) := by decide +kernel
theorem dX6_hand_24 : decode cX6_hand 24 = .ok (.ireturn, 1) := by decide +kernel
theorem dX6_sessions_0 : decode cX6_sessions 0 = .ok (.aload_n 0, 1) := by decide +kernel
theorem dX6_sessions_1 : decode cX6_sessions 1 = .ok (.getfield 12, 3) := by decide +kernel
theorem dX6_sessions_4 : decode cX6_sessions 4 = .ok (.invokevirtual 144, 3) := by decide +kernel
theorem dX6_sessions_7 : decode cX6_sessions 7 = .ok (.ireturn, 1) := by decide +kernel
theorem dX6_session_0 : decode cX6_session 0 = .ok (.aload_n 0, 1) := by decide +kernel
theorem dX6_session_1 : decode cX6_session 1 = .ok (.getfield 12, 3) := by decide +kernel
theorem dX6_session_4 : decode cX6_session 4 = .ok (.iload_n 1, 1) := by decide +kernel
theorem dX6_session_5 : decode cX6_session 5 = .ok (.invokevirtual 147, 3) := by decide +kernel
theorem dX6_session_8 : decode cX6_session 8 = .ok (.astore_n 3, 1) := by decide +kernel
theorem dX6_session_9 : decode cX6_session 9 = .ok (.aload_n 3, 1) := by decide +kernel
theorem dX6_session_10 : decode cX6_session 10 = .ok (.ifnonnull 5, 3) := by decide +kernel
theorem dX6_session_13 : decode cX6_session 13 = .ok (.iconst (-1), 1) := by decide +kernel
theorem dX6_session_14 : decode cX6_session 14 = .ok (.ireturn, 1) := by decide +kernel
theorem dX6_session_15 : decode cX6_session 15 = .ok (.iload_n 2, 1) := by decide +kernel
theorem dX6_session_16 : decode cX6_session 16 = .ok (.tableswitch 97 0 8 #[52, 57, 62, 67, 72, 77, 82, 87, 92], 52) := by decide +kernel
theorem dX6_session_68 : decode cX6_session 68 = .ok (.aload_n 3, 1) := by decide +kernel
theorem dX6_session_69 : decode cX6_session 69 = .ok (.getfield 151, 3) := by decide +kernel
theorem dX6_session_72 : decode cX6_session 72 = .ok (.ireturn, 1) := by decide +kernel
theorem dX6_session_73 : decode cX6_session 73 = .ok (.aload_n 3, 1) := by decide +kernel
theorem dX6_session_74 : decode cX6_session 74 = .ok (.getfield 156, 3) := by decide +kernel
theorem dX6_session_77 : decode cX6_session 77 = .ok (.ireturn, 1) := by decide +kernel
theorem dX6_session_78 : decode cX6_session 78 = .ok (.aload_n 3, 1) := by decide +kernel
theorem dX6_session_79 : decode cX6_session 79 = .ok (.getfield 159, 3) := by decide +kernel
theorem dX6_session_82 : decode cX6_session 82 = .ok (.ireturn, 1) := by decide +kernel
theorem dX6_session_83 : decode cX6_session 83 = .ok (.aload_n 3, 1) := by decide +kernel
theorem dX6_session_84 : decode cX6_session 84 = .ok (.getfield 162, 3) := by decide +kernel
theorem dX6_session_87 : decode cX6_session 87 = .ok (.ireturn, 1) := by decide +kernel
theorem dX6_session_88 : decode cX6_session 88 = .ok (.aload_n 3, 1) := by decide +kernel
theorem dX6_session_89 : decode cX6_session 89 = .ok (.getfield 165, 3) := by decide +kernel
theorem dX6_session_92 : decode cX6_session 92 = .ok (.ireturn, 1) := by decide +kernel
theorem dX6_session_93 : decode cX6_session 93 = .ok (.aload_n 3, 1) := by decide +kernel
theorem dX6_session_94 : decode cX6_session 94 = .ok (.invokevirtual 168, 3) := by decide +kernel
theorem dX6_session_97 : decode cX6_session 97 = .ok (.ireturn, 1) := by decide +kernel
theorem dX6_session_98 : decode cX6_session 98 = .ok (.aload_n 3, 1) := by decide +kernel
theorem dX6_session_99 : decode cX6_session 99 = .ok (.getfield 171, 3) := by decide +kernel
theorem dX6_session_102 : decode cX6_session 102 = .ok (.ireturn, 1) := by decide +kernel
theorem dX6_session_103 : decode cX6_session 103 = .ok (.aload_n 3, 1) := by decide +kernel
theorem dX6_session_104 : decode cX6_session 104 = .ok (.getfield 174, 3) := by decide +kernel
theorem dX6_session_107 : decode cX6_session 107 = .ok (.ireturn, 1) := by decide +kernel
theorem dX6_session_108 : decode cX6_session 108 = .ok (.aload_n 3, 1) := by decide +kernel
theorem dX6_session_109 : decode cX6_session 109 = .ok (.getfield 177, 3) := by decide +kernel
theorem dX6_session_112 : decode cX6_session 112 = .ok (.ireturn, 1) := by decide +kernel
theorem dX6_session_113 : decode cX6_session 113 = .ok (.bipush (-2), 2) := by decide +kernel
theorem dX6_session_115 : decode cX6_session 115 = .ok (.ireturn, 1) := by decide +kernel
theorem dX6_write_0 : decode cX6_write 0 = .ok (.aload_n 0, 1) := by decide +kernel
theorem dX6_write_1 : decode cX6_write 1 = .ok (.getfield 26, 3) := by decide +kernel
theorem dX6_write_4 : decode cX6_write 4 = .ok (.aload_n 0, 1) := by decide +kernel
theorem dX6_write_5 : decode cX6_write 5 = .ok (.getfield 12, 3) := by decide +kernel
theorem dX6_write_8 : decode cX6_write 8 = .ok (.invokevirtual 37, 3) := by decide +kernel
theorem dX6_write_11 : decode cX6_write 11 = .ok (.aload_n 0, 1) := by decide +kernel
theorem dX6_write_12 : decode cX6_write 12 = .ok (.getfield 26, 3) := by decide +kernel
theorem dX6_write_15 : decode cX6_write 15 = .ok (.aload_n 0, 1) := by decide +kernel
theorem dX6_write_16 : decode cX6_write 16 = .ok (.iload_n 1, 1) := by decide +kernel
theorem dX6_write_17 : decode cX6_write 17 = .ok (.iload_n 2, 1) := by decide +kernel
theorem dX6_write_18 : decode cX6_write 18 = .ok (.iload_n 3, 1) := by decide +kernel
theorem dX6_write_19 : decode cX6_write 19 = .ok (.invokevirtual 180, 3) := by decide +kernel
theorem dX6_write_22 : decode cX6_write 22 = .ok (.invokevirtual 45, 3) := by decide +kernel
theorem dX6_write_25 : decode cX6_write 25 = .ok (.ireturn, 1) := by decide +kernel
theorem dX6_read_0 : decode cX6_read 0 = .ok (.aload_n 0, 1) := by decide +kernel
theorem dX6_read_1 : decode cX6_read 1 = .ok (.getfield 26, 3) := by decide +kernel
theorem dX6_read_4 : decode cX6_read 4 = .ok (.aload_n 0, 1) := by decide +kernel
theorem dX6_read_5 : decode cX6_read 5 = .ok (.getfield 12, 3) := by decide +kernel
theorem dX6_read_8 : decode cX6_read 8 = .ok (.invokevirtual 37, 3) := by decide +kernel
theorem dX6_read_11 : decode cX6_read 11 = .ok (.aload_n 0, 1) := by decide +kernel
theorem dX6_read_12 : decode cX6_read 12 = .ok (.getfield 26, 3) := by decide +kernel
theorem dX6_read_15 : decode cX6_read 15 = .ok (.aload_n 0, 1) := by decide +kernel
theorem dX6_read_16 : decode cX6_read 16 = .ok (.iload_n 1, 1) := by decide +kernel
theorem dX6_read_17 : decode cX6_read 17 = .ok (.iload_n 2, 1) := by decide +kernel
theorem dX6_read_18 : decode cX6_read 18 = .ok (.invokevirtual 183, 3) := by decide +kernel
theorem dX6_read_21 : decode cX6_read 21 = .ok (.invokevirtual 45, 3) := by decide +kernel
theorem dX6_read_24 : decode cX6_read 24 = .ok (.ireturn, 1) := by decide +kernel
theorem dX6_readAt_0 : decode cX6_readAt 0 = .ok (.aload_n 0, 1) := by decide +kernel
theorem dX6_readAt_1 : decode cX6_readAt 1 = .ok (.getfield 26, 3) := by decide +kernel
theorem dX6_readAt_4 : decode cX6_readAt 4 = .ok (.aload_n 0, 1) := by decide +kernel
theorem dX6_readAt_5 : decode cX6_readAt 5 = .ok (.getfield 12, 3) := by decide +kernel
theorem dX6_readAt_8 : decode cX6_readAt 8 = .ok (.invokevirtual 37, 3) := by decide +kernel
theorem dX6_readAt_11 : decode cX6_readAt 11 = .ok (.aload_n 0, 1) := by decide +kernel
theorem dX6_readAt_12 : decode cX6_readAt 12 = .ok (.getfield 26, 3) := by decide +kernel
theorem dX6_readAt_15 : decode cX6_readAt 15 = .ok (.aload_n 0, 1) := by decide +kernel
theorem dX6_readAt_16 : decode cX6_readAt 16 = .ok (.iload_n 1, 1) := by decide +kernel
theorem dX6_readAt_17 : decode cX6_readAt 17 = .ok (.iload_n 2, 1) := by decide +kernel
theorem dX6_readAt_18 : decode cX6_readAt 18 = .ok (.iload_n 3, 1) := by decide +kernel
theorem dX6_readAt_19 : decode cX6_readAt 19 = .ok (.invokevirtual 186, 3) := by decide +kernel
theorem dX6_readAt_22 : decode cX6_readAt 22 = .ok (.invokevirtual 45, 3) := by decide +kernel
theorem dX6_readAt_25 : decode cX6_readAt 25 = .ok (.ireturn, 1) := by decide +kernel
theorem dX6_latest_0 : decode cX6_latest 0 = .ok (.iload_n 1, 1) := by decide +kernel
theorem dX6_latest_1 : decode cX6_latest 1 = .ok (.iconst 0, 1) := by decide +kernel
theorem dX6_latest_2 : decode cX6_latest 2 = .ok (.iconst 2, 1) := by decide +kernel
theorem dX6_latest_3 : decode cX6_latest 3 = .ok (.invokestatic 189, 3) := by decide +kernel
theorem dX6_latest_6 : decode cX6_latest 6 = .ok (.ifCond .ne 6, 3) := by decide +kernel
theorem dX6_latest_9 : decode cX6_latest 9 = .ok (.bipush (-2), 2) := by decide +kernel
theorem dX6_latest_11 : decode cX6_latest 11 = .ok (.ireturn, 1) := by decide +kernel
theorem dX6_latest_12 : decode cX6_latest 12 = .ok (.aload_n 0, 1) := by decide +kernel
theorem dX6_latest_13 : decode cX6_latest 13 = .ok (.getfield 12, 3) := by decide +kernel
theorem dX6_latest_16 : decode cX6_latest 16 = .ok (.getfield 193, 3) := by decide +kernel
theorem dX6_latest_19 : decode cX6_latest 19 = .ok (.bipush (-6), 2) := by decide +kernel
theorem dX6_latest_21 : decode cX6_latest 21 = .ok (.if_icmp .ne 6, 3) := by decide +kernel
theorem dX6_latest_24 : decode cX6_latest 24 = .ok (.bipush (-6), 2) := by decide +kernel
theorem dX6_latest_26 : decode cX6_latest 26 = .ok (.ireturn, 1) := by decide +kernel
theorem dX6_latest_27 : decode cX6_latest 27 = .ok (.iload_n 1, 1) := by decide +kernel
theorem dX6_latest_28 : decode cX6_latest 28 = .ok (.lookupswitch 44 #[(0, 28), (1, 36)], 28) := by decide +kernel
theorem dX6_latest_56 : decode cX6_latest 56 = .ok (.aload_n 0, 1) := by decide +kernel
theorem dX6_latest_57 : decode cX6_latest 57 = .ok (.getfield 12, 3) := by decide +kernel
theorem dX6_latest_60 : decode cX6_latest 60 = .ok (.getfield 193, 3) := by decide +kernel
theorem dX6_latest_63 : decode cX6_latest 63 = .ok (.ireturn, 1) := by decide +kernel
theorem dX6_latest_64 : decode cX6_latest 64 = .ok (.aload_n 0, 1) := by decide +kernel
theorem dX6_latest_65 : decode cX6_latest 65 = .ok (.getfield 12, 3) := by decide +kernel
theorem dX6_latest_68 : decode cX6_latest 68 = .ok (.getfield 196, 3) := by decide +kernel
theorem dX6_latest_71 : decode cX6_latest 71 = .ok (.ireturn, 1) := by decide +kernel
theorem dX6_latest_72 : decode cX6_latest 72 = .ok (.aload_n 0, 1) := by decide +kernel
theorem dX6_latest_73 : decode cX6_latest 73 = .ok (.getfield 12, 3) := by decide +kernel
theorem dX6_latest_76 : decode cX6_latest 76 = .ok (.getfield 199, 3) := by decide +kernel
theorem dX6_latest_79 : decode cX6_latest 79 = .ok (.ireturn, 1) := by decide +kernel
theorem dX6_waitFor_0 : decode cX6_waitFor 0 = .ok (.aload_n 0, 1) := by decide +kernel
theorem dX6_waitFor_1 : decode cX6_waitFor 1 = .ok (.getfield 12, 3) := by decide +kernel
theorem dX6_waitFor_4 : decode cX6_waitFor 4 = .ok (.iload_n 1, 1) := by decide +kernel
theorem dX6_waitFor_5 : decode cX6_waitFor 5 = .ok (.invokevirtual 147, 3) := by decide +kernel
theorem dX6_waitFor_8 : decode cX6_waitFor 8 = .ok (.astore 4, 2) := by decide +kernel
theorem dX6_waitFor_10 : decode cX6_waitFor 10 = .ok (.aload 4, 2) := by decide +kernel
theorem dX6_waitFor_12 : decode cX6_waitFor 12 = .ok (.ifnull 21, 3) := by decide +kernel
theorem dX6_waitFor_15 : decode cX6_waitFor 15 = .ok (.iload_n 2, 1) := by decide +kernel
theorem dX6_waitFor_16 : decode cX6_waitFor 16 = .ok (.invokestatic 113, 3) := by decide +kernel
theorem dX6_waitFor_19 : decode cX6_waitFor 19 = .ok (.ifCond .eq 14, 3) := by decide +kernel
theorem dX6_waitFor_22 : decode cX6_waitFor 22 = .ok (.aload_n 0, 1) := by decide +kernel
theorem dX6_waitFor_23 : decode cX6_waitFor 23 = .ok (.getfield 12, 3) := by decide +kernel
theorem dX6_waitFor_26 : decode cX6_waitFor 26 = .ok (.iload_n 3, 1) := by decide +kernel
theorem dX6_waitFor_27 : decode cX6_waitFor 27 = .ok (.invokevirtual 110, 3) := by decide +kernel
theorem dX6_waitFor_30 : decode cX6_waitFor 30 = .ok (.ifCond .ne 5, 3) := by decide +kernel
theorem dX6_waitFor_33 : decode cX6_waitFor 33 = .ok (.iconst (-1), 1) := by decide +kernel
theorem dX6_waitFor_34 : decode cX6_waitFor 34 = .ok (.ireturn, 1) := by decide +kernel
theorem dX6_waitFor_35 : decode cX6_waitFor 35 = .ok (.aload_n 0, 1) := by decide +kernel
theorem dX6_waitFor_36 : decode cX6_waitFor 36 = .ok (.getfield 12, 3) := by decide +kernel
theorem dX6_waitFor_39 : decode cX6_waitFor 39 = .ok (.aload 4, 2) := by decide +kernel
theorem dX6_waitFor_41 : decode cX6_waitFor 41 = .ok (.iload_n 2, 1) := by decide +kernel
theorem dX6_waitFor_42 : decode cX6_waitFor 42 = .ok (.iload_n 3, 1) := by decide +kernel
theorem dX6_waitFor_43 : decode cX6_waitFor 43 = .ok (.invokevirtual 202, 3) := by decide +kernel
theorem dX6_waitFor_46 : decode cX6_waitFor 46 = .ok (.ireturn, 1) := by decide +kernel
theorem dX6_bestReplica_0 : decode cX6_bestReplica 0 = .ok (.aload_n 0, 1) := by decide +kernel
theorem dX6_bestReplica_1 : decode cX6_bestReplica 1 = .ok (.getfield 12, 3) := by decide +kernel
theorem dX6_bestReplica_4 : decode cX6_bestReplica 4 = .ok (.iload_n 1, 1) := by decide +kernel
theorem dX6_bestReplica_5 : decode cX6_bestReplica 5 = .ok (.invokevirtual 147, 3) := by decide +kernel
theorem dX6_bestReplica_8 : decode cX6_bestReplica 8 = .ok (.astore_n 3, 1) := by decide +kernel
theorem dX6_bestReplica_9 : decode cX6_bestReplica 9 = .ok (.aload_n 3, 1) := by decide +kernel
theorem dX6_bestReplica_10 : decode cX6_bestReplica 10 = .ok (.ifnull 10, 3) := by decide +kernel
theorem dX6_bestReplica_13 : decode cX6_bestReplica 13 = .ok (.iload_n 2, 1) := by decide +kernel
theorem dX6_bestReplica_14 : decode cX6_bestReplica 14 = .ok (.invokestatic 113, 3) := by decide +kernel
theorem dX6_bestReplica_17 : decode cX6_bestReplica 17 = .ok (.ifCond .ne 5, 3) := by decide +kernel
theorem dX6_bestReplica_20 : decode cX6_bestReplica 20 = .ok (.iconst (-1), 1) := by decide +kernel
theorem dX6_bestReplica_21 : decode cX6_bestReplica 21 = .ok (.ireturn, 1) := by decide +kernel
theorem dX6_bestReplica_22 : decode cX6_bestReplica 22 = .ok (.bipush (-6), 2) := by decide +kernel
theorem dX6_bestReplica_24 : decode cX6_bestReplica 24 = .ok (.istore 4, 2) := by decide +kernel
theorem dX6_bestReplica_26 : decode cX6_bestReplica 26 = .ok (.iconst 0, 1) := by decide +kernel
theorem dX6_bestReplica_27 : decode cX6_bestReplica 27 = .ok (.istore 5, 2) := by decide +kernel
theorem dX6_bestReplica_29 : decode cX6_bestReplica 29 = .ok (.iconst 0, 1) := by decide +kernel
theorem dX6_bestReplica_30 : decode cX6_bestReplica 30 = .ok (.istore 6, 2) := by decide +kernel
theorem dX6_bestReplica_32 : decode cX6_bestReplica 32 = .ok (.iload 6, 2) := by decide +kernel
theorem dX6_bestReplica_34 : decode cX6_bestReplica 34 = .ok (.iconst 5, 1) := by decide +kernel
theorem dX6_bestReplica_35 : decode cX6_bestReplica 35 = .ok (.if_icmp .ge 51, 3) := by decide +kernel
theorem dX6_bestReplica_38 : decode cX6_bestReplica 38 = .ok (.aload_n 0, 1) := by decide +kernel
theorem dX6_bestReplica_39 : decode cX6_bestReplica 39 = .ok (.getfield 12, 3) := by decide +kernel
theorem dX6_bestReplica_42 : decode cX6_bestReplica 42 = .ok (.aload_n 3, 1) := by decide +kernel
theorem dX6_bestReplica_43 : decode cX6_bestReplica 43 = .ok (.iload_n 2, 1) := by decide +kernel
theorem dX6_bestReplica_44 : decode cX6_bestReplica 44 = .ok (.iload 6, 2) := by decide +kernel
theorem dX6_bestReplica_46 : decode cX6_bestReplica 46 = .ok (.invokevirtual 202, 3) := by decide +kernel
theorem dX6_bestReplica_49 : decode cX6_bestReplica 49 = .ok (.istore 7, 2) := by decide +kernel
theorem dX6_bestReplica_51 : decode cX6_bestReplica 51 = .ok (.iload 7, 2) := by decide +kernel
theorem dX6_bestReplica_53 : decode cX6_bestReplica 53 = .ok (.bipush (-6), 2) := by decide +kernel
theorem dX6_bestReplica_55 : decode cX6_bestReplica 55 = .ok (.if_icmp .eq 25, 3) := by decide +kernel
theorem dX6_bestReplica_58 : decode cX6_bestReplica 58 = .ok (.iload 4, 2) := by decide +kernel
theorem dX6_bestReplica_60 : decode cX6_bestReplica 60 = .ok (.bipush (-6), 2) := by decide +kernel
theorem dX6_bestReplica_62 : decode cX6_bestReplica 62 = .ok (.if_icmp .eq 10, 3) := by decide +kernel
theorem dX6_bestReplica_65 : decode cX6_bestReplica 65 = .ok (.iload 7, 2) := by decide +kernel
theorem dX6_bestReplica_67 : decode cX6_bestReplica 67 = .ok (.iload 5, 2) := by decide +kernel
theorem dX6_bestReplica_69 : decode cX6_bestReplica 69 = .ok (.if_icmp .ge 11, 3) := by decide +kernel
theorem dX6_bestReplica_72 : decode cX6_bestReplica 72 = .ok (.iload 6, 2) := by decide +kernel
theorem dX6_bestReplica_74 : decode cX6_bestReplica 74 = .ok (.istore 4, 2) := by decide +kernel
theorem dX6_bestReplica_76 : decode cX6_bestReplica 76 = .ok (.iload 7, 2) := by decide +kernel
theorem dX6_bestReplica_78 : decode cX6_bestReplica 78 = .ok (.istore 5, 2) := by decide +kernel
theorem dX6_bestReplica_80 : decode cX6_bestReplica 80 = .ok (.iinc 6 1, 3) := by decide +kernel
theorem dX6_bestReplica_83 : decode cX6_bestReplica 83 = .ok (.goto (-51), 3) := by decide +kernel
theorem dX6_bestReplica_86 : decode cX6_bestReplica 86 = .ok (.iload 4, 2) := by decide +kernel
theorem dX6_bestReplica_88 : decode cX6_bestReplica 88 = .ok (.ireturn, 1) := by decide +kernel
theorem dX6_keysAfter_0 : decode cX6_keysAfter 0 = .ok (.aload_n 0, 1) := by decide +kernel
theorem dX6_keysAfter_1 : decode cX6_keysAfter 1 = .ok (.getfield 12, 3) := by decide +kernel
theorem dX6_keysAfter_4 : decode cX6_keysAfter 4 = .ok (.iload_n 1, 1) := by decide +kernel
theorem dX6_keysAfter_5 : decode cX6_keysAfter 5 = .ok (.invokevirtual 147, 3) := by decide +kernel
theorem dX6_keysAfter_8 : decode cX6_keysAfter 8 = .ok (.astore 4, 2) := by decide +kernel
theorem dX6_keysAfter_10 : decode cX6_keysAfter 10 = .ok (.aload 4, 2) := by decide +kernel
theorem dX6_keysAfter_12 : decode cX6_keysAfter 12 = .ok (.ifnull 14, 3) := by decide +kernel
theorem dX6_keysAfter_15 : decode cX6_keysAfter 15 = .ok (.aload_n 0, 1) := by decide +kernel
theorem dX6_keysAfter_16 : decode cX6_keysAfter 16 = .ok (.getfield 12, 3) := by decide +kernel
theorem dX6_keysAfter_19 : decode cX6_keysAfter 19 = .ok (.iload_n 2, 1) := by decide +kernel
theorem dX6_keysAfter_20 : decode cX6_keysAfter 20 = .ok (.invokevirtual 110, 3) := by decide +kernel
theorem dX6_keysAfter_23 : decode cX6_keysAfter 23 = .ok (.ifCond .ne 5, 3) := by decide +kernel
theorem dX6_keysAfter_26 : decode cX6_keysAfter 26 = .ok (.iconst (-1), 1) := by decide +kernel
theorem dX6_keysAfter_27 : decode cX6_keysAfter 27 = .ok (.ireturn, 1) := by decide +kernel
theorem dX6_keysAfter_28 : decode cX6_keysAfter 28 = .ok (.iload_n 3, 1) := by decide +kernel
theorem dX6_keysAfter_29 : decode cX6_keysAfter 29 = .ok (.iconst 0, 1) := by decide +kernel
theorem dX6_keysAfter_30 : decode cX6_keysAfter 30 = .ok (.bipush 99, 2) := by decide +kernel
theorem dX6_keysAfter_32 : decode cX6_keysAfter 32 = .ok (.invokestatic 189, 3) := by decide +kernel
theorem dX6_keysAfter_35 : decode cX6_keysAfter 35 = .ok (.ifCond .ne 6, 3) := by decide +kernel
theorem dX6_keysAfter_38 : decode cX6_keysAfter 38 = .ok (.bipush (-2), 2) := by decide +kernel
theorem dX6_keysAfter_40 : decode cX6_keysAfter 40 = .ok (.ireturn, 1) := by decide +kernel
theorem dX6_keysAfter_41 : decode cX6_keysAfter 41 = .ok (.iconst 0, 1) := by decide +kernel
theorem dX6_keysAfter_42 : decode cX6_keysAfter 42 = .ok (.istore 5, 2) := by decide +kernel
theorem dX6_keysAfter_44 : decode cX6_keysAfter 44 = .ok (.iconst 0, 1) := by decide +kernel
theorem dX6_keysAfter_45 : decode cX6_keysAfter 45 = .ok (.istore 6, 2) := by decide +kernel
theorem dX6_keysAfter_47 : decode cX6_keysAfter 47 = .ok (.iload 6, 2) := by decide +kernel
theorem dX6_keysAfter_49 : decode cX6_keysAfter 49 = .ok (.bipush 12, 2) := by decide +kernel
theorem dX6_keysAfter_51 : decode cX6_keysAfter 51 = .ok (.if_icmp .ge 39, 3) := by decide +kernel
theorem dX6_keysAfter_54 : decode cX6_keysAfter 54 = .ok (.aload_n 0, 1) := by decide +kernel
theorem dX6_keysAfter_55 : decode cX6_keysAfter 55 = .ok (.getfield 12, 3) := by decide +kernel
theorem dX6_keysAfter_58 : decode cX6_keysAfter 58 = .ok (.aload 4, 2) := by decide +kernel
theorem dX6_keysAfter_60 : decode cX6_keysAfter 60 = .ok (.iload 6, 2) := by decide +kernel
theorem dX6_keysAfter_62 : decode cX6_keysAfter 62 = .ok (.iload_n 2, 1) := by decide +kernel
theorem dX6_keysAfter_63 : decode cX6_keysAfter 63 = .ok (.invokevirtual 202, 3) := by decide +kernel
theorem dX6_keysAfter_66 : decode cX6_keysAfter 66 = .ok (.istore 7, 2) := by decide +kernel
theorem dX6_keysAfter_68 : decode cX6_keysAfter 68 = .ok (.iload 7, 2) := by decide +kernel
theorem dX6_keysAfter_70 : decode cX6_keysAfter 70 = .ok (.bipush (-6), 2) := by decide +kernel
theorem dX6_keysAfter_72 : decode cX6_keysAfter 72 = .ok (.if_icmp .eq 12, 3) := by decide +kernel
theorem dX6_keysAfter_75 : decode cX6_keysAfter 75 = .ok (.iload 7, 2) := by decide +kernel
theorem dX6_keysAfter_77 : decode cX6_keysAfter 77 = .ok (.iload_n 3, 1) := by decide +kernel
theorem dX6_keysAfter_78 : decode cX6_keysAfter 78 = .ok (.if_icmp .gt 6, 3) := by decide +kernel
theorem dX6_keysAfter_81 : decode cX6_keysAfter 81 = .ok (.iinc 5 1, 3) := by decide +kernel
theorem dX6_keysAfter_84 : decode cX6_keysAfter 84 = .ok (.iinc 6 1, 3) := by decide +kernel
theorem dX6_keysAfter_87 : decode cX6_keysAfter 87 = .ok (.goto (-40), 3) := by decide +kernel
theorem dX6_keysAfter_90 : decode cX6_keysAfter 90 = .ok (.iload 5, 2) := by decide +kernel
theorem dX6_keysAfter_92 : decode cX6_keysAfter 92 = .ok (.ireturn, 1) := by decide +kernel
theorem dX6_catchUp_0 : decode cX6_catchUp 0 = .ok (.iconst 0, 1) := by decide +kernel
theorem dX6_catchUp_1 : decode cX6_catchUp 1 = .ok (.istore_n 1, 1) := by decide +kernel
theorem dX6_catchUp_2 : decode cX6_catchUp 2 = .ok (.iconst 0, 1) := by decide +kernel
theorem dX6_catchUp_3 : decode cX6_catchUp 3 = .ok (.istore_n 2, 1) := by decide +kernel
theorem dX6_catchUp_4 : decode cX6_catchUp 4 = .ok (.iload_n 2, 1) := by decide +kernel
theorem dX6_catchUp_5 : decode cX6_catchUp 5 = .ok (.iconst 5, 1) := by decide +kernel
theorem dX6_catchUp_6 : decode cX6_catchUp 6 = .ok (.if_icmp .ge 55, 3) := by decide +kernel
theorem dX6_catchUp_9 : decode cX6_catchUp 9 = .ok (.aload_n 0, 1) := by decide +kernel
theorem dX6_catchUp_10 : decode cX6_catchUp 10 = .ok (.getfield 12, 3) := by decide +kernel
theorem dX6_catchUp_13 : decode cX6_catchUp 13 = .ok (.iload_n 2, 1) := by decide +kernel
theorem dX6_catchUp_14 : decode cX6_catchUp 14 = .ok (.invokevirtual 69, 3) := by decide +kernel
theorem dX6_catchUp_17 : decode cX6_catchUp 17 = .ok (.astore_n 3, 1) := by decide +kernel
theorem dX6_catchUp_18 : decode cX6_catchUp 18 = .ok (.aload_n 3, 1) := by decide +kernel
theorem dX6_catchUp_19 : decode cX6_catchUp 19 = .ok (.ifnull 36, 3) := by decide +kernel
theorem dX6_catchUp_22 : decode cX6_catchUp 22 = .ok (.aload_n 3, 1) := by decide +kernel
theorem dX6_catchUp_23 : decode cX6_catchUp 23 = .ok (.aload_n 0, 1) := by decide +kernel
theorem dX6_catchUp_24 : decode cX6_catchUp 24 = .ok (.getfield 12, 3) := by decide +kernel
theorem dX6_catchUp_27 : decode cX6_catchUp 27 = .ok (.getfield 85, 3) := by decide +kernel
theorem dX6_catchUp_30 : decode cX6_catchUp 30 = .ok (.getfield 89, 3) := by decide +kernel
theorem dX6_catchUp_33 : decode cX6_catchUp 33 = .ok (.invokevirtual 206, 3) := by decide +kernel
theorem dX6_catchUp_36 : decode cX6_catchUp 36 = .ok (.istore 4, 2) := by decide +kernel
theorem dX6_catchUp_38 : decode cX6_catchUp 38 = .ok (.iload 4, 2) := by decide +kernel
theorem dX6_catchUp_40 : decode cX6_catchUp 40 = .ok (.bipush (-6), 2) := by decide +kernel
theorem dX6_catchUp_42 : decode cX6_catchUp 42 = .ok (.if_icmp .ne 6, 3) := by decide +kernel
theorem dX6_catchUp_45 : decode cX6_catchUp 45 = .ok (.bipush (-6), 2) := by decide +kernel
theorem dX6_catchUp_47 : decode cX6_catchUp 47 = .ok (.ireturn, 1) := by decide +kernel
theorem dX6_catchUp_48 : decode cX6_catchUp 48 = .ok (.iload_n 1, 1) := by decide +kernel
theorem dX6_catchUp_49 : decode cX6_catchUp 49 = .ok (.iload 4, 2) := by decide +kernel
theorem dX6_catchUp_51 : decode cX6_catchUp 51 = .ok (.invokestatic 209, 3) := by decide +kernel
theorem dX6_catchUp_54 : decode cX6_catchUp 54 = .ok (.istore_n 1, 1) := by decide +kernel
theorem dX6_catchUp_55 : decode cX6_catchUp 55 = .ok (.iinc 2 1, 3) := by decide +kernel
theorem dX6_catchUp_58 : decode cX6_catchUp 58 = .ok (.goto (-54), 3) := by decide +kernel
theorem dX6_catchUp_61 : decode cX6_catchUp 61 = .ok (.iload_n 1, 1) := by decide +kernel
theorem dX6_catchUp_62 : decode cX6_catchUp 62 = .ok (.ireturn, 1) := by decide +kernel
theorem dX6_append_0 : decode cX6_append 0 = .ok (.iload_n 1, 1) := by decide +kernel
theorem dX6_append_1 : decode cX6_append 1 = .ok (.bipush 33, 2) := by decide +kernel
theorem dX6_append_3 : decode cX6_append 3 = .ok (.bipush 126, 2) := by decide +kernel
theorem dX6_append_5 : decode cX6_append 5 = .ok (.invokestatic 189, 3) := by decide +kernel
theorem dX6_append_8 : decode cX6_append 8 = .ok (.ifCond .ne 6, 3) := by decide +kernel
theorem dX6_append_11 : decode cX6_append 11 = .ok (.bipush (-2), 2) := by decide +kernel
theorem dX6_append_13 : decode cX6_append 13 = .ok (.ireturn, 1) := by decide +kernel
theorem dX6_append_14 : decode cX6_append 14 = .ok (.aload_n 0, 1) := by decide +kernel
theorem dX6_append_15 : decode cX6_append 15 = .ok (.getfield 33, 3) := by decide +kernel
theorem dX6_append_18 : decode cX6_append 18 = .ok (.iload_n 1, 1) := by decide +kernel
theorem dX6_append_19 : decode cX6_append 19 = .ok (.invokevirtual 214, 3) := by decide +kernel
theorem dX6_append_22 : decode cX6_append 22 = .ok (.ireturn, 1) := by decide +kernel
theorem dX6_clearText_0 : decode cX6_clearText 0 = .ok (.aload_n 0, 1) := by decide +kernel
theorem dX6_clearText_1 : decode cX6_clearText 1 = .ok (.getfield 33, 3) := by decide +kernel
theorem dX6_clearText_4 : decode cX6_clearText 4 = .ok (.invokevirtual 217, 3) := by decide +kernel
theorem dX6_clearText_7 : decode cX6_clearText 7 = .ok (.ireturn, 1) := by decide +kernel
theorem dX6_errorPosition_0 : decode cX6_errorPosition 0 = .ok (.aload_n 0, 1) := by decide +kernel
theorem dX6_errorPosition_1 : decode cX6_errorPosition 1 = .ok (.getfield 33, 3) := by decide +kernel
theorem dX6_errorPosition_4 : decode cX6_errorPosition 4 = .ok (.invokevirtual 220, 3) := by decide +kernel
theorem dX6_errorPosition_7 : decode cX6_errorPosition 7 = .ok (.ireturn, 1) := by decide +kernel
theorem dX6_execute_0 : decode cX6_execute 0 = .ok (.aload_n 0, 1) := by decide +kernel
theorem dX6_execute_1 : decode cX6_execute 1 = .ok (.getfield 33, 3) := by decide +kernel
theorem dX6_execute_4 : decode cX6_execute 4 = .ok (.invokevirtual 220, 3) := by decide +kernel
theorem dX6_execute_7 : decode cX6_execute 7 = .ok (.bipush (-6), 2) := by decide +kernel
theorem dX6_execute_9 : decode cX6_execute 9 = .ok (.if_icmp .eq 6, 3) := by decide +kernel
theorem dX6_execute_12 : decode cX6_execute 12 = .ok (.bipush (-5), 2) := by decide +kernel
theorem dX6_execute_14 : decode cX6_execute 14 = .ok (.ireturn, 1) := by decide +kernel
theorem dX6_execute_15 : decode cX6_execute 15 = .ok (.aload_n 0, 1) := by decide +kernel
theorem dX6_execute_16 : decode cX6_execute 16 = .ok (.getfield 26, 3) := by decide +kernel
theorem dX6_execute_19 : decode cX6_execute 19 = .ok (.aload_n 0, 1) := by decide +kernel
theorem dX6_execute_20 : decode cX6_execute 20 = .ok (.getfield 12, 3) := by decide +kernel
theorem dX6_execute_23 : decode cX6_execute 23 = .ok (.invokevirtual 37, 3) := by decide +kernel
theorem dX6_execute_26 : decode cX6_execute 26 = .ok (.iconst 0, 1) := by decide +kernel
theorem dX6_execute_27 : decode cX6_execute 27 = .ok (.istore_n 1, 1) := by decide +kernel
theorem dX6_execute_28 : decode cX6_execute 28 = .ok (.aload_n 0, 1) := by decide +kernel
theorem dX6_execute_29 : decode cX6_execute 29 = .ok (.getfield 33, 3) := by decide +kernel
theorem dX6_execute_32 : decode cX6_execute 32 = .ok (.invokevirtual 223, 3) := by decide +kernel
theorem dX6_execute_35 : decode cX6_execute 35 = .ok (.iload_n 1, 1) := by decide +kernel
theorem dX6_execute_36 : decode cX6_execute 36 = .ok (.bipush 80, 2) := by decide +kernel
theorem dX6_execute_38 : decode cX6_execute 38 = .ok (.if_icmp .ge 39, 3) := by decide +kernel
theorem dX6_execute_41 : decode cX6_execute 41 = .ok (.aload_n 0, 1) := by decide +kernel
theorem dX6_execute_42 : decode cX6_execute 42 = .ok (.getfield 33, 3) := by decide +kernel
theorem dX6_execute_45 : decode cX6_execute 45 = .ok (.invokevirtual 226, 3) := by decide +kernel
theorem dX6_execute_48 : decode cX6_execute 48 = .ok (.ifCond .eq 29, 3) := by decide +kernel
theorem dX6_execute_51 : decode cX6_execute 51 = .ok (.aload_n 0, 1) := by decide +kernel
theorem dX6_execute_52 : decode cX6_execute 52 = .ok (.invokevirtual 230, 3) := by decide +kernel
theorem dX6_execute_55 : decode cX6_execute 55 = .ok (.invokestatic 233, 3) := by decide +kernel
theorem dX6_execute_58 : decode cX6_execute 58 = .ok (.ifCond .ne 19, 3) := by decide +kernel
theorem dX6_execute_61 : decode cX6_execute 61 = .ok (.iinc 1 1, 3) := by decide +kernel
theorem dX6_execute_64 : decode cX6_execute 64 = .ok (.aload_n 0, 1) := by decide +kernel
theorem dX6_execute_65 : decode cX6_execute 65 = .ok (.getfield 33, 3) := by decide +kernel
theorem dX6_execute_68 : decode cX6_execute 68 = .ok (.bipush 59, 2) := by decide +kernel
theorem dX6_execute_70 : decode cX6_execute 70 = .ok (.invokevirtual 236, 3) := by decide +kernel
theorem dX6_execute_73 : decode cX6_execute 73 = .ok (.pop, 1) := by decide +kernel
theorem dX6_execute_74 : decode cX6_execute 74 = .ok (.goto (-39), 3) := by decide +kernel
theorem dX6_execute_77 : decode cX6_execute 77 = .ok (.aload_n 0, 1) := by decide +kernel
theorem dX6_execute_78 : decode cX6_execute 78 = .ok (.getfield 33, 3) := by decide +kernel
theorem dX6_execute_81 : decode cX6_execute 81 = .ok (.invokevirtual 217, 3) := by decide +kernel
theorem dX6_execute_84 : decode cX6_execute 84 = .ok (.pop, 1) := by decide +kernel
theorem dX6_execute_85 : decode cX6_execute 85 = .ok (.aload_n 0, 1) := by decide +kernel
theorem dX6_execute_86 : decode cX6_execute 86 = .ok (.getfield 26, 3) := by decide +kernel
theorem dX6_execute_89 : decode cX6_execute 89 = .ok (.iload_n 1, 1) := by decide +kernel
theorem dX6_execute_90 : decode cX6_execute 90 = .ok (.invokevirtual 45, 3) := by decide +kernel
theorem dX6_execute_93 : decode cX6_execute 93 = .ok (.ireturn, 1) := by decide +kernel
theorem dX6_undo_0 : decode cX6_undo 0 = .ok (.aload_n 0, 1) := by decide +kernel
theorem dX6_undo_1 : decode cX6_undo 1 = .ok (.getfield 26, 3) := by decide +kernel
theorem dX6_undo_4 : decode cX6_undo 4 = .ok (.aload_n 0, 1) := by decide +kernel
theorem dX6_undo_5 : decode cX6_undo 5 = .ok (.getfield 12, 3) := by decide +kernel
theorem dX6_undo_8 : decode cX6_undo 8 = .ok (.invokevirtual 239, 3) := by decide +kernel
theorem dX6_undo_11 : decode cX6_undo 11 = .ok (.ireturn, 1) := by decide +kernel
theorem dX6_save_0 : decode cX6_save 0 = .ok (.aload_n 0, 1) := by decide +kernel
theorem dX6_save_1 : decode cX6_save 1 = .ok (.getfield 16, 3) := by decide +kernel
theorem dX6_save_4 : decode cX6_save 4 = .ok (.aload_n 0, 1) := by decide +kernel
theorem dX6_save_5 : decode cX6_save 5 = .ok (.getfield 12, 3) := by decide +kernel
theorem dX6_save_8 : decode cX6_save 8 = .ok (.invokevirtual 243, 3) := by decide +kernel
theorem dX6_save_11 : decode cX6_save 11 = .ok (.aload_n 0, 1) := by decide +kernel
theorem dX6_save_12 : decode cX6_save 12 = .ok (.iconst 1, 1) := by decide +kernel
theorem dX6_save_13 : decode cX6_save 13 = .ok (.putfield 19, 3) := by decide +kernel
theorem dX6_save_16 : decode cX6_save 16 = .ok (.aload_n 0, 1) := by decide +kernel
theorem dX6_save_17 : decode cX6_save 17 = .ok (.getfield 16, 3) := by decide +kernel
theorem dX6_save_20 : decode cX6_save 20 = .ok (.getfield 85, 3) := by decide +kernel
theorem dX6_save_23 : decode cX6_save 23 = .ok (.getfield 89, 3) := by decide +kernel
theorem dX6_save_26 : decode cX6_save 26 = .ok (.ireturn, 1) := by decide +kernel
theorem dX6_restore_0 : decode cX6_restore 0 = .ok (.aload_n 0, 1) := by decide +kernel
theorem dX6_restore_1 : decode cX6_restore 1 = .ok (.getfield 19, 3) := by decide +kernel
theorem dX6_restore_4 : decode cX6_restore 4 = .ok (.ifCond .ne 6, 3) := by decide +kernel
theorem dX6_restore_7 : decode cX6_restore 7 = .ok (.bipush (-3), 2) := by decide +kernel
theorem dX6_restore_9 : decode cX6_restore 9 = .ok (.ireturn, 1) := by decide +kernel
theorem dX6_restore_10 : decode cX6_restore 10 = .ok (.aload_n 0, 1) := by decide +kernel
theorem dX6_restore_11 : decode cX6_restore 11 = .ok (.getfield 26, 3) := by decide +kernel
theorem dX6_restore_14 : decode cX6_restore 14 = .ok (.aload_n 0, 1) := by decide +kernel
theorem dX6_restore_15 : decode cX6_restore 15 = .ok (.getfield 12, 3) := by decide +kernel
theorem dX6_restore_18 : decode cX6_restore 18 = .ok (.invokevirtual 37, 3) := by decide +kernel
theorem dX6_restore_21 : decode cX6_restore 21 = .ok (.aload_n 0, 1) := by decide +kernel
theorem dX6_restore_22 : decode cX6_restore 22 = .ok (.getfield 12, 3) := by decide +kernel
theorem dX6_restore_25 : decode cX6_restore 25 = .ok (.aload_n 0, 1) := by decide +kernel
theorem dX6_restore_26 : decode cX6_restore 26 = .ok (.getfield 16, 3) := by decide +kernel
theorem dX6_restore_29 : decode cX6_restore 29 = .ok (.invokevirtual 243, 3) := by decide +kernel
theorem dX6_restore_32 : decode cX6_restore 32 = .ok (.aload_n 0, 1) := by decide +kernel
theorem dX6_restore_33 : decode cX6_restore 33 = .ok (.getfield 26, 3) := by decide +kernel
theorem dX6_restore_36 : decode cX6_restore 36 = .ok (.aload_n 0, 1) := by decide +kernel
theorem dX6_restore_37 : decode cX6_restore 37 = .ok (.getfield 12, 3) := by decide +kernel
theorem dX6_restore_40 : decode cX6_restore 40 = .ok (.getfield 85, 3) := by decide +kernel
theorem dX6_restore_43 : decode cX6_restore 43 = .ok (.getfield 89, 3) := by decide +kernel
theorem dX6_restore_46 : decode cX6_restore 46 = .ok (.invokevirtual 45, 3) := by decide +kernel
theorem dX6_restore_49 : decode cX6_restore 49 = .ok (.ireturn, 1) := by decide +kernel
theorem dX6_startReplica_0 : decode cX6_startReplica 0 = .ok (.iload_n 2, 1) := by decide +kernel
theorem dX6_startReplica_1 : decode cX6_startReplica 1 = .ok (.bipush (-6), 2) := by decide +kernel
theorem dX6_startReplica_3 : decode cX6_startReplica 3 = .ok (.if_icmp .ne 7, 3) := by decide +kernel
theorem dX6_startReplica_6 : decode cX6_startReplica 6 = .ok (.iconst 0, 1) := by decide +kernel
theorem dX6_startReplica_7 : decode cX6_startReplica 7 = .ok (.goto 11, 3) := by decide +kernel
theorem dX6_startReplica_10 : decode cX6_startReplica 10 = .ok (.aload_n 0, 1) := by decide +kernel
theorem dX6_startReplica_11 : decode cX6_startReplica 11 = .ok (.getfield 12, 3) := by decide +kernel
theorem dX6_startReplica_14 : decode cX6_startReplica 14 = .ok (.iload_n 2, 1) := by decide +kernel
theorem dX6_startReplica_15 : decode cX6_startReplica 15 = .ok (.invokevirtual 107, 3) := by decide +kernel
theorem dX6_startReplica_18 : decode cX6_startReplica 18 = .ok (.istore_n 3, 1) := by decide +kernel
theorem dX6_startReplica_19 : decode cX6_startReplica 19 = .ok (.iload_n 3, 1) := by decide +kernel
theorem dX6_startReplica_20 : decode cX6_startReplica 20 = .ok (.iconst (-1), 1) := by decide +kernel
theorem dX6_startReplica_21 : decode cX6_startReplica 21 = .ok (.if_icmp .ne 5, 3) := by decide +kernel
theorem dX6_startReplica_24 : decode cX6_startReplica 24 = .ok (.iconst (-1), 1) := by decide +kernel
theorem dX6_startReplica_25 : decode cX6_startReplica 25 = .ok (.ireturn, 1) := by decide +kernel
theorem dX6_startReplica_26 : decode cX6_startReplica 26 = .ok (.iload_n 1, 1) := by decide +kernel
theorem dX6_startReplica_27 : decode cX6_startReplica 27 = .ok (.iconst 0, 1) := by decide +kernel
theorem dX6_startReplica_28 : decode cX6_startReplica 28 = .ok (.bipush 9, 2) := by decide +kernel
theorem dX6_startReplica_30 : decode cX6_startReplica 30 = .ok (.invokestatic 189, 3) := by decide +kernel
theorem dX6_startReplica_33 : decode cX6_startReplica 33 = .ok (.ifCond .ne 6, 3) := by decide +kernel
theorem dX6_startReplica_36 : decode cX6_startReplica 36 = .ok (.bipush (-2), 2) := by decide +kernel
theorem dX6_startReplica_38 : decode cX6_startReplica 38 = .ok (.ireturn, 1) := by decide +kernel
theorem dX6_startReplica_39 : decode cX6_startReplica 39 = .ok (.aload_n 0, 1) := by decide +kernel
theorem dX6_startReplica_40 : decode cX6_startReplica 40 = .ok (.getfield 12, 3) := by decide +kernel
theorem dX6_startReplica_43 : decode cX6_startReplica 43 = .ok (.iload_n 1, 1) := by decide +kernel
theorem dX6_startReplica_44 : decode cX6_startReplica 44 = .ok (.iload_n 3, 1) := by decide +kernel
theorem dX6_startReplica_45 : decode cX6_startReplica 45 = .ok (.invokevirtual 246, 3) := by decide +kernel
theorem dX6_startReplica_48 : decode cX6_startReplica 48 = .ok (.ireturn, 1) := by decide +kernel
theorem dX6_removeReplica_0 : decode cX6_removeReplica 0 = .ok (.aload_n 0, 1) := by decide +kernel
theorem dX6_removeReplica_1 : decode cX6_removeReplica 1 = .ok (.getfield 12, 3) := by decide +kernel
theorem dX6_removeReplica_4 : decode cX6_removeReplica 4 = .ok (.iload_n 1, 1) := by decide +kernel
theorem dX6_removeReplica_5 : decode cX6_removeReplica 5 = .ok (.invokevirtual 69, 3) := by decide +kernel
theorem dX6_removeReplica_8 : decode cX6_removeReplica 8 = .ok (.astore_n 2, 1) := by decide +kernel
theorem dX6_removeReplica_9 : decode cX6_removeReplica 9 = .ok (.aload_n 2, 1) := by decide +kernel
theorem dX6_removeReplica_10 : decode cX6_removeReplica 10 = .ok (.ifnonnull 5, 3) := by decide +kernel
theorem dX6_removeReplica_13 : decode cX6_removeReplica 13 = .ok (.iconst (-1), 1) := by decide +kernel
theorem dX6_removeReplica_14 : decode cX6_removeReplica 14 = .ok (.ireturn, 1) := by decide +kernel
theorem dX6_removeReplica_15 : decode cX6_removeReplica 15 = .ok (.aload_n 2, 1) := by decide +kernel
theorem dX6_removeReplica_16 : decode cX6_removeReplica 16 = .ok (.iconst 0, 1) := by decide +kernel
theorem dX6_removeReplica_17 : decode cX6_removeReplica 17 = .ok (.putfield 249, 3) := by decide +kernel
theorem dX6_removeReplica_20 : decode cX6_removeReplica 20 = .ok (.aload_n 0, 1) := by decide +kernel
theorem dX6_removeReplica_21 : decode cX6_removeReplica 21 = .ok (.getfield 12, 3) := by decide +kernel
theorem dX6_removeReplica_24 : decode cX6_removeReplica 24 = .ok (.iload_n 1, 1) := by decide +kernel
theorem dX6_removeReplica_25 : decode cX6_removeReplica 25 = .ok (.invokevirtual 252, 3) := by decide +kernel
theorem dX6_removeReplica_28 : decode cX6_removeReplica 28 = .ok (.ireturn, 1) := by decide +kernel
theorem dX6_changeRate_0 : decode cX6_changeRate 0 = .ok (.aload_n 0, 1) := by decide +kernel
theorem dX6_changeRate_1 : decode cX6_changeRate 1 = .ok (.getfield 12, 3) := by decide +kernel
theorem dX6_changeRate_4 : decode cX6_changeRate 4 = .ok (.iload_n 1, 1) := by decide +kernel
theorem dX6_changeRate_5 : decode cX6_changeRate 5 = .ok (.invokevirtual 69, 3) := by decide +kernel
theorem dX6_changeRate_8 : decode cX6_changeRate 8 = .ok (.astore_n 3, 1) := by decide +kernel
theorem dX6_changeRate_9 : decode cX6_changeRate 9 = .ok (.aload_n 3, 1) := by decide +kernel
theorem dX6_changeRate_10 : decode cX6_changeRate 10 = .ok (.ifnonnull 5, 3) := by decide +kernel
theorem dX6_changeRate_13 : decode cX6_changeRate 13 = .ok (.iconst (-1), 1) := by decide +kernel
theorem dX6_changeRate_14 : decode cX6_changeRate 14 = .ok (.ireturn, 1) := by decide +kernel
theorem dX6_changeRate_15 : decode cX6_changeRate 15 = .ok (.iload_n 2, 1) := by decide +kernel
theorem dX6_changeRate_16 : decode cX6_changeRate 16 = .ok (.iconst 0, 1) := by decide +kernel
theorem dX6_changeRate_17 : decode cX6_changeRate 17 = .ok (.bipush 9, 2) := by decide +kernel
theorem dX6_changeRate_19 : decode cX6_changeRate 19 = .ok (.invokestatic 189, 3) := by decide +kernel
theorem dX6_changeRate_22 : decode cX6_changeRate 22 = .ok (.ifCond .ne 6, 3) := by decide +kernel
theorem dX6_changeRate_25 : decode cX6_changeRate 25 = .ok (.bipush (-2), 2) := by decide +kernel
theorem dX6_changeRate_27 : decode cX6_changeRate 27 = .ok (.ireturn, 1) := by decide +kernel
theorem dX6_changeRate_28 : decode cX6_changeRate 28 = .ok (.aload_n 3, 1) := by decide +kernel
theorem dX6_changeRate_29 : decode cX6_changeRate 29 = .ok (.getfield 73, 3) := by decide +kernel
theorem dX6_changeRate_32 : decode cX6_changeRate 32 = .ok (.istore 4, 2) := by decide +kernel
theorem dX6_changeRate_34 : decode cX6_changeRate 34 = .ok (.aload_n 3, 1) := by decide +kernel
theorem dX6_changeRate_35 : decode cX6_changeRate 35 = .ok (.iload_n 2, 1) := by decide +kernel
theorem dX6_changeRate_36 : decode cX6_changeRate 36 = .ok (.putfield 73, 3) := by decide +kernel
theorem dX6_changeRate_39 : decode cX6_changeRate 39 = .ok (.iload 4, 2) := by decide +kernel
theorem dX6_changeRate_41 : decode cX6_changeRate 41 = .ok (.ireturn, 1) := by decide +kernel
theorem dX6_changeStopped_0 : decode cX6_changeStopped 0 = .ok (.aload_n 0, 1) := by decide +kernel
theorem dX6_changeStopped_1 : decode cX6_changeStopped 1 = .ok (.getfield 12, 3) := by decide +kernel
theorem dX6_changeStopped_4 : decode cX6_changeStopped 4 = .ok (.iload_n 1, 1) := by decide +kernel
theorem dX6_changeStopped_5 : decode cX6_changeStopped 5 = .ok (.invokevirtual 69, 3) := by decide +kernel
theorem dX6_changeStopped_8 : decode cX6_changeStopped 8 = .ok (.astore_n 3, 1) := by decide +kernel
theorem dX6_changeStopped_9 : decode cX6_changeStopped 9 = .ok (.aload_n 3, 1) := by decide +kernel
theorem dX6_changeStopped_10 : decode cX6_changeStopped 10 = .ok (.ifnonnull 5, 3) := by decide +kernel
theorem dX6_changeStopped_13 : decode cX6_changeStopped 13 = .ok (.iconst (-1), 1) := by decide +kernel
theorem dX6_changeStopped_14 : decode cX6_changeStopped 14 = .ok (.ireturn, 1) := by decide +kernel
theorem dX6_changeStopped_15 : decode cX6_changeStopped 15 = .ok (.aload_n 3, 1) := by decide +kernel
theorem dX6_changeStopped_16 : decode cX6_changeStopped 16 = .ok (.getfield 79, 3) := by decide +kernel
theorem dX6_changeStopped_19 : decode cX6_changeStopped 19 = .ok (.ifCond .eq 7, 3) := by decide +kernel
theorem dX6_changeStopped_22 : decode cX6_changeStopped 22 = .ok (.iconst 1, 1) := by decide +kernel
theorem dX6_changeStopped_23 : decode cX6_changeStopped 23 = .ok (.goto 4, 3) := by decide +kernel
theorem dX6_changeStopped_26 : decode cX6_changeStopped 26 = .ok (.iconst 0, 1) := by decide +kernel
theorem dX6_changeStopped_27 : decode cX6_changeStopped 27 = .ok (.istore 4, 2) := by decide +kernel
theorem dX6_changeStopped_29 : decode cX6_changeStopped 29 = .ok (.aload_n 3, 1) := by decide +kernel
theorem dX6_changeStopped_30 : decode cX6_changeStopped 30 = .ok (.iload_n 2, 1) := by decide +kernel
theorem dX6_changeStopped_31 : decode cX6_changeStopped 31 = .ok (.putfield 79, 3) := by decide +kernel
theorem dX6_changeStopped_34 : decode cX6_changeStopped 34 = .ok (.iload 4, 2) := by decide +kernel
theorem dX6_changeStopped_36 : decode cX6_changeStopped 36 = .ok (.ireturn, 1) := by decide +kernel
theorem dX6_setBack_0 : decode cX6_setBack 0 = .ok (.aload_n 0, 1) := by decide +kernel
theorem dX6_setBack_1 : decode cX6_setBack 1 = .ok (.getfield 12, 3) := by decide +kernel
theorem dX6_setBack_4 : decode cX6_setBack 4 = .ok (.iload_n 1, 1) := by decide +kernel
theorem dX6_setBack_5 : decode cX6_setBack 5 = .ok (.invokevirtual 69, 3) := by decide +kernel
theorem dX6_setBack_8 : decode cX6_setBack 8 = .ok (.astore_n 3, 1) := by decide +kernel
theorem dX6_setBack_9 : decode cX6_setBack 9 = .ok (.aload_n 3, 1) := by decide +kernel
theorem dX6_setBack_10 : decode cX6_setBack 10 = .ok (.ifnonnull 5, 3) := by decide +kernel
theorem dX6_setBack_13 : decode cX6_setBack 13 = .ok (.iconst (-1), 1) := by decide +kernel
theorem dX6_setBack_14 : decode cX6_setBack 14 = .ok (.ireturn, 1) := by decide +kernel
theorem dX6_setBack_15 : decode cX6_setBack 15 = .ok (.iload_n 2, 1) := by decide +kernel
theorem dX6_setBack_16 : decode cX6_setBack 16 = .ok (.iconst 0, 1) := by decide +kernel
theorem dX6_setBack_17 : decode cX6_setBack 17 = .ok (.aload_n 3, 1) := by decide +kernel
theorem dX6_setBack_18 : decode cX6_setBack 18 = .ok (.getfield 255, 3) := by decide +kernel
theorem dX6_setBack_21 : decode cX6_setBack 21 = .ok (.invokestatic 189, 3) := by decide +kernel
theorem dX6_setBack_24 : decode cX6_setBack 24 = .ok (.ifCond .ne 6, 3) := by decide +kernel
theorem dX6_setBack_27 : decode cX6_setBack 27 = .ok (.bipush (-2), 2) := by decide +kernel
theorem dX6_setBack_29 : decode cX6_setBack 29 = .ok (.ireturn, 1) := by decide +kernel
theorem dX6_setBack_30 : decode cX6_setBack 30 = .ok (.aload_n 3, 1) := by decide +kernel
theorem dX6_setBack_31 : decode cX6_setBack 31 = .ok (.getfield 255, 3) := by decide +kernel
theorem dX6_setBack_34 : decode cX6_setBack 34 = .ok (.istore 4, 2) := by decide +kernel
theorem dX6_setBack_36 : decode cX6_setBack 36 = .ok (.aload_n 3, 1) := by decide +kernel
theorem dX6_setBack_37 : decode cX6_setBack 37 = .ok (.iload_n 2, 1) := by decide +kernel
theorem dX6_setBack_38 : decode cX6_setBack 38 = .ok (.putfield 255, 3) := by decide +kernel
theorem dX6_setBack_41 : decode cX6_setBack 41 = .ok (.iload 4, 2) := by decide +kernel
theorem dX6_setBack_43 : decode cX6_setBack 43 = .ok (.ireturn, 1) := by decide +kernel
theorem dX6_letTicksPass_0 : decode cX6_letTicksPass 0 = .ok (.iload_n 1, 1) := by decide +kernel
theorem dX6_letTicksPass_1 : decode cX6_letTicksPass 1 = .ok (.iconst 1, 1) := by decide +kernel
theorem dX6_letTicksPass_2 : decode cX6_letTicksPass 2 = .ok (.bipush 99, 2) := by decide +kernel
theorem dX6_letTicksPass_4 : decode cX6_letTicksPass 4 = .ok (.invokestatic 189, 3) := by decide +kernel
theorem dX6_letTicksPass_7 : decode cX6_letTicksPass 7 = .ok (.ifCond .ne 6, 3) := by decide +kernel
theorem dX6_letTicksPass_10 : decode cX6_letTicksPass 10 = .ok (.bipush (-2), 2) := by decide +kernel
theorem dX6_letTicksPass_12 : decode cX6_letTicksPass 12 = .ok (.ireturn, 1) := by decide +kernel
theorem dX6_letTicksPass_13 : decode cX6_letTicksPass 13 = .ok (.aload_n 0, 1) := by decide +kernel
theorem dX6_letTicksPass_14 : decode cX6_letTicksPass 14 = .ok (.getfield 12, 3) := by decide +kernel
theorem dX6_letTicksPass_17 : decode cX6_letTicksPass 17 = .ok (.iload_n 1, 1) := by decide +kernel
theorem dX6_letTicksPass_18 : decode cX6_letTicksPass 18 = .ok (.invokevirtual 258, 3) := by decide +kernel
theorem dX6_letTicksPass_21 : decode cX6_letTicksPass 21 = .ok (.aload_n 0, 1) := by decide +kernel
theorem dX6_letTicksPass_22 : decode cX6_letTicksPass 22 = .ok (.getfield 12, 3) := by decide +kernel
theorem dX6_letTicksPass_25 : decode cX6_letTicksPass 25 = .ok (.invokevirtual 262, 3) := by decide +kernel
theorem dX6_letTicksPass_28 : decode cX6_letTicksPass 28 = .ok (.ireturn, 1) := by decide +kernel
theorem dX6_startSession_0 : decode cX6_startSession 0 = .ok (.aload_n 0, 1) := by decide +kernel
theorem dX6_startSession_1 : decode cX6_startSession 1 = .ok (.getfield 12, 3) := by decide +kernel
theorem dX6_startSession_4 : decode cX6_startSession 4 = .ok (.iload_n 1, 1) := by decide +kernel
theorem dX6_startSession_5 : decode cX6_startSession 5 = .ok (.invokevirtual 110, 3) := by decide +kernel
theorem dX6_startSession_8 : decode cX6_startSession 8 = .ok (.ifCond .ne 5, 3) := by decide +kernel
theorem dX6_startSession_11 : decode cX6_startSession 11 = .ok (.iconst (-1), 1) := by decide +kernel
theorem dX6_startSession_12 : decode cX6_startSession 12 = .ok (.ireturn, 1) := by decide +kernel
theorem dX6_startSession_13 : decode cX6_startSession 13 = .ok (.iload_n 2, 1) := by decide +kernel
theorem dX6_startSession_14 : decode cX6_startSession 14 = .ok (.iconst 0, 1) := by decide +kernel
theorem dX6_startSession_15 : decode cX6_startSession 15 = .ok (.bipush 15, 2) := by decide +kernel
theorem dX6_startSession_17 : decode cX6_startSession 17 = .ok (.invokestatic 189, 3) := by decide +kernel
theorem dX6_startSession_20 : decode cX6_startSession 20 = .ok (.ifCond .eq 13, 3) := by decide +kernel
theorem dX6_startSession_23 : decode cX6_startSession 23 = .ok (.iload_n 3, 1) := by decide +kernel
theorem dX6_startSession_24 : decode cX6_startSession 24 = .ok (.iconst 0, 1) := by decide +kernel
theorem dX6_startSession_25 : decode cX6_startSession 25 = .ok (.bipush 20, 2) := by decide +kernel
theorem dX6_startSession_27 : decode cX6_startSession 27 = .ok (.invokestatic 189, 3) := by decide +kernel
theorem dX6_startSession_30 : decode cX6_startSession 30 = .ok (.ifCond .ne 6, 3) := by decide +kernel
theorem dX6_startSession_33 : decode cX6_startSession 33 = .ok (.bipush (-2), 2) := by decide +kernel
theorem dX6_startSession_35 : decode cX6_startSession 35 = .ok (.ireturn, 1) := by decide +kernel
theorem dX6_startSession_36 : decode cX6_startSession 36 = .ok (.aload_n 0, 1) := by decide +kernel
theorem dX6_startSession_37 : decode cX6_startSession 37 = .ok (.getfield 12, 3) := by decide +kernel
theorem dX6_startSession_40 : decode cX6_startSession 40 = .ok (.iload_n 1, 1) := by decide +kernel
theorem dX6_startSession_41 : decode cX6_startSession 41 = .ok (.iload_n 2, 1) := by decide +kernel
theorem dX6_startSession_42 : decode cX6_startSession 42 = .ok (.iload_n 3, 1) := by decide +kernel
theorem dX6_startSession_43 : decode cX6_startSession 43 = .ok (.invokevirtual 265, 3) := by decide +kernel
theorem dX6_startSession_46 : decode cX6_startSession 46 = .ok (.ireturn, 1) := by decide +kernel
theorem dX6_endSession_0 : decode cX6_endSession 0 = .ok (.aload_n 0, 1) := by decide +kernel
theorem dX6_endSession_1 : decode cX6_endSession 1 = .ok (.getfield 12, 3) := by decide +kernel
theorem dX6_endSession_4 : decode cX6_endSession 4 = .ok (.iload_n 1, 1) := by decide +kernel
theorem dX6_endSession_5 : decode cX6_endSession 5 = .ok (.invokevirtual 147, 3) := by decide +kernel
theorem dX6_endSession_8 : decode cX6_endSession 8 = .ok (.astore_n 2, 1) := by decide +kernel
theorem dX6_endSession_9 : decode cX6_endSession 9 = .ok (.aload_n 2, 1) := by decide +kernel
theorem dX6_endSession_10 : decode cX6_endSession 10 = .ok (.ifnonnull 5, 3) := by decide +kernel
theorem dX6_endSession_13 : decode cX6_endSession 13 = .ok (.iconst (-1), 1) := by decide +kernel
theorem dX6_endSession_14 : decode cX6_endSession 14 = .ok (.ireturn, 1) := by decide +kernel
theorem dX6_endSession_15 : decode cX6_endSession 15 = .ok (.aload_n 2, 1) := by decide +kernel
theorem dX6_endSession_16 : decode cX6_endSession 16 = .ok (.iconst 0, 1) := by decide +kernel
theorem dX6_endSession_17 : decode cX6_endSession 17 = .ok (.putfield 268, 3) := by decide +kernel
theorem dX6_endSession_20 : decode cX6_endSession 20 = .ok (.aload_n 2, 1) := by decide +kernel
theorem dX6_endSession_21 : decode cX6_endSession 21 = .ok (.getfield 165, 3) := by decide +kernel
theorem dX6_endSession_24 : decode cX6_endSession 24 = .ok (.ireturn, 1) := by decide +kernel
theorem dX6_changeHome_0 : decode cX6_changeHome 0 = .ok (.aload_n 0, 1) := by decide +kernel
theorem dX6_changeHome_1 : decode cX6_changeHome 1 = .ok (.getfield 12, 3) := by decide +kernel
theorem dX6_changeHome_4 : decode cX6_changeHome 4 = .ok (.iload_n 1, 1) := by decide +kernel
theorem dX6_changeHome_5 : decode cX6_changeHome 5 = .ok (.invokevirtual 147, 3) := by decide +kernel
theorem dX6_changeHome_8 : decode cX6_changeHome 8 = .ok (.astore_n 3, 1) := by decide +kernel
theorem dX6_changeHome_9 : decode cX6_changeHome 9 = .ok (.aload_n 3, 1) := by decide +kernel
theorem dX6_changeHome_10 : decode cX6_changeHome 10 = .ok (.ifnull 14, 3) := by decide +kernel
theorem dX6_changeHome_13 : decode cX6_changeHome 13 = .ok (.aload_n 0, 1) := by decide +kernel
theorem dX6_changeHome_14 : decode cX6_changeHome 14 = .ok (.getfield 12, 3) := by decide +kernel
theorem dX6_changeHome_17 : decode cX6_changeHome 17 = .ok (.iload_n 2, 1) := by decide +kernel
theorem dX6_changeHome_18 : decode cX6_changeHome 18 = .ok (.invokevirtual 110, 3) := by decide +kernel
theorem dX6_changeHome_21 : decode cX6_changeHome 21 = .ok (.ifCond .ne 5, 3) := by decide +kernel
theorem dX6_changeHome_24 : decode cX6_changeHome 24 = .ok (.iconst (-1), 1) := by decide +kernel
theorem dX6_changeHome_25 : decode cX6_changeHome 25 = .ok (.ireturn, 1) := by decide +kernel
theorem dX6_changeHome_26 : decode cX6_changeHome 26 = .ok (.aload_n 3, 1) := by decide +kernel
theorem dX6_changeHome_27 : decode cX6_changeHome 27 = .ok (.getfield 151, 3) := by decide +kernel
theorem dX6_changeHome_30 : decode cX6_changeHome 30 = .ok (.istore 4, 2) := by decide +kernel
theorem dX6_changeHome_32 : decode cX6_changeHome 32 = .ok (.aload_n 3, 1) := by decide +kernel
theorem dX6_changeHome_33 : decode cX6_changeHome 33 = .ok (.iload_n 2, 1) := by decide +kernel
theorem dX6_changeHome_34 : decode cX6_changeHome 34 = .ok (.putfield 151, 3) := by decide +kernel
theorem dX6_changeHome_37 : decode cX6_changeHome 37 = .ok (.iload 4, 2) := by decide +kernel
theorem dX6_changeHome_39 : decode cX6_changeHome 39 = .ok (.ireturn, 1) := by decide +kernel
theorem dX6_changeOptions_0 : decode cX6_changeOptions 0 = .ok (.aload_n 0, 1) := by decide +kernel
theorem dX6_changeOptions_1 : decode cX6_changeOptions 1 = .ok (.getfield 12, 3) := by decide +kernel
theorem dX6_changeOptions_4 : decode cX6_changeOptions 4 = .ok (.iload_n 1, 1) := by decide +kernel
theorem dX6_changeOptions_5 : decode cX6_changeOptions 5 = .ok (.invokevirtual 147, 3) := by decide +kernel
theorem dX6_changeOptions_8 : decode cX6_changeOptions 8 = .ok (.astore 4, 2) := by decide +kernel
theorem dX6_changeOptions_10 : decode cX6_changeOptions 10 = .ok (.aload 4, 2) := by decide +kernel
theorem dX6_changeOptions_12 : decode cX6_changeOptions 12 = .ok (.ifnonnull 5, 3) := by decide +kernel
theorem dX6_changeOptions_15 : decode cX6_changeOptions 15 = .ok (.iconst (-1), 1) := by decide +kernel
theorem dX6_changeOptions_16 : decode cX6_changeOptions 16 = .ok (.ireturn, 1) := by decide +kernel
theorem dX6_changeOptions_17 : decode cX6_changeOptions 17 = .ok (.iload_n 2, 1) := by decide +kernel
theorem dX6_changeOptions_18 : decode cX6_changeOptions 18 = .ok (.iconst 0, 1) := by decide +kernel
theorem dX6_changeOptions_19 : decode cX6_changeOptions 19 = .ok (.bipush 15, 2) := by decide +kernel
theorem dX6_changeOptions_21 : decode cX6_changeOptions 21 = .ok (.invokestatic 189, 3) := by decide +kernel
theorem dX6_changeOptions_24 : decode cX6_changeOptions 24 = .ok (.ifCond .eq 13, 3) := by decide +kernel
theorem dX6_changeOptions_27 : decode cX6_changeOptions 27 = .ok (.iload_n 3, 1) := by decide +kernel
theorem dX6_changeOptions_28 : decode cX6_changeOptions 28 = .ok (.iconst 0, 1) := by decide +kernel
theorem dX6_changeOptions_29 : decode cX6_changeOptions 29 = .ok (.bipush 20, 2) := by decide +kernel
theorem dX6_changeOptions_31 : decode cX6_changeOptions 31 = .ok (.invokestatic 189, 3) := by decide +kernel
theorem dX6_changeOptions_34 : decode cX6_changeOptions 34 = .ok (.ifCond .ne 6, 3) := by decide +kernel
theorem dX6_changeOptions_37 : decode cX6_changeOptions 37 = .ok (.bipush (-2), 2) := by decide +kernel
theorem dX6_changeOptions_39 : decode cX6_changeOptions 39 = .ok (.ireturn, 1) := by decide +kernel
theorem dX6_changeOptions_40 : decode cX6_changeOptions 40 = .ok (.aload 4, 2) := by decide +kernel
theorem dX6_changeOptions_42 : decode cX6_changeOptions 42 = .ok (.getfield 156, 3) := by decide +kernel
theorem dX6_changeOptions_45 : decode cX6_changeOptions 45 = .ok (.istore 5, 2) := by decide +kernel
theorem dX6_changeOptions_47 : decode cX6_changeOptions 47 = .ok (.aload 4, 2) := by decide +kernel
theorem dX6_changeOptions_49 : decode cX6_changeOptions 49 = .ok (.iload_n 2, 1) := by decide +kernel
theorem dX6_changeOptions_50 : decode cX6_changeOptions 50 = .ok (.putfield 156, 3) := by decide +kernel
theorem dX6_changeOptions_53 : decode cX6_changeOptions 53 = .ok (.aload 4, 2) := by decide +kernel
theorem dX6_changeOptions_55 : decode cX6_changeOptions 55 = .ok (.iload_n 3, 1) := by decide +kernel
theorem dX6_changeOptions_56 : decode cX6_changeOptions 56 = .ok (.putfield 159, 3) := by decide +kernel
theorem dX6_changeOptions_59 : decode cX6_changeOptions 59 = .ok (.iload 5, 2) := by decide +kernel
theorem dX6_changeOptions_61 : decode cX6_changeOptions 61 = .ok (.ireturn, 1) := by decide +kernel
theorem dX6_handMarks_0 : decode cX6_handMarks 0 = .ok (.aload_n 0, 1) := by decide +kernel
theorem dX6_handMarks_1 : decode cX6_handMarks 1 = .ok (.getfield 12, 3) := by decide +kernel
theorem dX6_handMarks_4 : decode cX6_handMarks 4 = .ok (.iload_n 1, 1) := by decide +kernel
theorem dX6_handMarks_5 : decode cX6_handMarks 5 = .ok (.invokevirtual 147, 3) := by decide +kernel
theorem dX6_handMarks_8 : decode cX6_handMarks 8 = .ok (.astore_n 3, 1) := by decide +kernel
theorem dX6_handMarks_9 : decode cX6_handMarks 9 = .ok (.aload_n 0, 1) := by decide +kernel
theorem dX6_handMarks_10 : decode cX6_handMarks 10 = .ok (.getfield 12, 3) := by decide +kernel
theorem dX6_handMarks_13 : decode cX6_handMarks 13 = .ok (.iload_n 2, 1) := by decide +kernel
theorem dX6_handMarks_14 : decode cX6_handMarks 14 = .ok (.invokevirtual 147, 3) := by decide +kernel
theorem dX6_handMarks_17 : decode cX6_handMarks 17 = .ok (.astore 4, 2) := by decide +kernel
theorem dX6_handMarks_19 : decode cX6_handMarks 19 = .ok (.aload_n 3, 1) := by decide +kernel
theorem dX6_handMarks_20 : decode cX6_handMarks 20 = .ok (.ifnull 8, 3) := by decide +kernel
theorem dX6_handMarks_23 : decode cX6_handMarks 23 = .ok (.aload 4, 2) := by decide +kernel
theorem dX6_handMarks_25 : decode cX6_handMarks 25 = .ok (.ifnonnull 5, 3) := by decide +kernel
theorem dX6_handMarks_28 : decode cX6_handMarks 28 = .ok (.iconst (-1), 1) := by decide +kernel
theorem dX6_handMarks_29 : decode cX6_handMarks 29 = .ok (.ireturn, 1) := by decide +kernel
theorem dX6_handMarks_30 : decode cX6_handMarks 30 = .ok (.iload_n 1, 1) := by decide +kernel
theorem dX6_handMarks_31 : decode cX6_handMarks 31 = .ok (.iload_n 2, 1) := by decide +kernel
theorem dX6_handMarks_32 : decode cX6_handMarks 32 = .ok (.if_icmp .ne 6, 3) := by decide +kernel
theorem dX6_handMarks_35 : decode cX6_handMarks 35 = .ok (.bipush (-2), 2) := by decide +kernel
theorem dX6_handMarks_37 : decode cX6_handMarks 37 = .ok (.ireturn, 1) := by decide +kernel
theorem dX6_handMarks_38 : decode cX6_handMarks 38 = .ok (.aload 4, 2) := by decide +kernel
theorem dX6_handMarks_40 : decode cX6_handMarks 40 = .ok (.aload 4, 2) := by decide +kernel
theorem dX6_handMarks_42 : decode cX6_handMarks 42 = .ok (.getfield 165, 3) := by decide +kernel
theorem dX6_handMarks_45 : decode cX6_handMarks 45 = .ok (.aload_n 3, 1) := by decide +kernel
theorem dX6_handMarks_46 : decode cX6_handMarks 46 = .ok (.getfield 162, 3) := by decide +kernel
theorem dX6_handMarks_49 : decode cX6_handMarks 49 = .ok (.aload_n 3, 1) := by decide +kernel
theorem dX6_handMarks_50 : decode cX6_handMarks 50 = .ok (.getfield 165, 3) := by decide +kernel
theorem dX6_handMarks_53 : decode cX6_handMarks 53 = .ok (.invokestatic 209, 3) := by decide +kernel
theorem dX6_handMarks_56 : decode cX6_handMarks 56 = .ok (.invokestatic 209, 3) := by decide +kernel
theorem dX6_handMarks_59 : decode cX6_handMarks 59 = .ok (.putfield 165, 3) := by decide +kernel
theorem dX6_handMarks_62 : decode cX6_handMarks 62 = .ok (.aload 4, 2) := by decide +kernel
theorem dX6_handMarks_64 : decode cX6_handMarks 64 = .ok (.getfield 165, 3) := by decide +kernel
theorem dX6_handMarks_67 : decode cX6_handMarks 67 = .ok (.ireturn, 1) := by decide +kernel
theorem dX6_addWrite_0 : decode cX6_addWrite 0 = .ok (.aload_n 0, 1) := by decide +kernel
theorem dX6_addWrite_1 : decode cX6_addWrite 1 = .ok (.getfield 12, 3) := by decide +kernel
theorem dX6_addWrite_4 : decode cX6_addWrite 4 = .ok (.iload_n 1, 1) := by decide +kernel
theorem dX6_addWrite_5 : decode cX6_addWrite 5 = .ok (.invokevirtual 147, 3) := by decide +kernel
theorem dX6_addWrite_8 : decode cX6_addWrite 8 = .ok (.astore 4, 2) := by decide +kernel
theorem dX6_addWrite_10 : decode cX6_addWrite 10 = .ok (.aload 4, 2) := by decide +kernel
theorem dX6_addWrite_12 : decode cX6_addWrite 12 = .ok (.ifnull 10, 3) := by decide +kernel
theorem dX6_addWrite_15 : decode cX6_addWrite 15 = .ok (.iload_n 2, 1) := by decide +kernel
theorem dX6_addWrite_16 : decode cX6_addWrite 16 = .ok (.invokestatic 113, 3) := by decide +kernel
theorem dX6_addWrite_19 : decode cX6_addWrite 19 = .ok (.ifCond .ne 5, 3) := by decide +kernel
theorem dX6_addWrite_22 : decode cX6_addWrite 22 = .ok (.iconst (-1), 1) := by decide +kernel
theorem dX6_addWrite_23 : decode cX6_addWrite 23 = .ok (.ireturn, 1) := by decide +kernel
theorem dX6_addWrite_24 : decode cX6_addWrite 24 = .ok (.iload_n 3, 1) := by decide +kernel
theorem dX6_addWrite_25 : decode cX6_addWrite 25 = .ok (.iconst 0, 1) := by decide +kernel
theorem dX6_addWrite_26 : decode cX6_addWrite 26 = .ok (.sipush 999, 3) := by decide +kernel
theorem dX6_addWrite_29 : decode cX6_addWrite 29 = .ok (.invokestatic 189, 3) := by decide +kernel
theorem dX6_addWrite_32 : decode cX6_addWrite 32 = .ok (.ifCond .ne 6, 3) := by decide +kernel
theorem dX6_addWrite_35 : decode cX6_addWrite 35 = .ok (.bipush (-2), 2) := by decide +kernel
theorem dX6_addWrite_37 : decode cX6_addWrite 37 = .ok (.ireturn, 1) := by decide +kernel
theorem dX6_addWrite_38 : decode cX6_addWrite 38 = .ok (.aload_n 0, 1) := by decide +kernel
theorem dX6_addWrite_39 : decode cX6_addWrite 39 = .ok (.getfield 12, 3) := by decide +kernel
theorem dX6_addWrite_42 : decode cX6_addWrite 42 = .ok (.getfield 85, 3) := by decide +kernel
theorem dX6_addWrite_45 : decode cX6_addWrite 45 = .ok (.iload_n 2, 1) := by decide +kernel
theorem dX6_addWrite_46 : decode cX6_addWrite 46 = .ok (.iload_n 3, 1) := by decide +kernel
theorem dX6_addWrite_47 : decode cX6_addWrite 47 = .ok (.iload_n 1, 1) := by decide +kernel
theorem dX6_addWrite_48 : decode cX6_addWrite 48 = .ok (.invokevirtual 271, 3) := by decide +kernel
theorem dX6_addWrite_51 : decode cX6_addWrite 51 = .ok (.istore 5, 2) := by decide +kernel
theorem dX6_addWrite_53 : decode cX6_addWrite 53 = .ok (.iload 5, 2) := by decide +kernel
theorem dX6_addWrite_55 : decode cX6_addWrite 55 = .ok (.bipush (-4), 2) := by decide +kernel
theorem dX6_addWrite_57 : decode cX6_addWrite 57 = .ok (.if_icmp .eq 11, 3) := by decide +kernel
theorem dX6_addWrite_60 : decode cX6_addWrite 60 = .ok (.aload 4, 2) := by decide +kernel
theorem dX6_addWrite_62 : decode cX6_addWrite 62 = .ok (.iload_n 2, 1) := by decide +kernel
theorem dX6_addWrite_63 : decode cX6_addWrite 63 = .ok (.iload 5, 2) := by decide +kernel
theorem dX6_addWrite_65 : decode cX6_addWrite 65 = .ok (.invokevirtual 273, 3) := by decide +kernel
theorem dX6_addWrite_68 : decode cX6_addWrite 68 = .ok (.iload 5, 2) := by decide +kernel
theorem dX6_addWrite_70 : decode cX6_addWrite 70 = .ok (.ireturn, 1) := by decide +kernel
theorem dX6_readAtHome_0 : decode cX6_readAtHome 0 = .ok (.aload_n 0, 1) := by decide +kernel
theorem dX6_readAtHome_1 : decode cX6_readAtHome 1 = .ok (.getfield 12, 3) := by decide +kernel
theorem dX6_readAtHome_4 : decode cX6_readAtHome 4 = .ok (.iload_n 1, 1) := by decide +kernel
theorem dX6_readAtHome_5 : decode cX6_readAtHome 5 = .ok (.invokevirtual 147, 3) := by decide +kernel
theorem dX6_readAtHome_8 : decode cX6_readAtHome 8 = .ok (.astore_n 3, 1) := by decide +kernel
theorem dX6_readAtHome_9 : decode cX6_readAtHome 9 = .ok (.aload_n 3, 1) := by decide +kernel
theorem dX6_readAtHome_10 : decode cX6_readAtHome 10 = .ok (.ifnull 10, 3) := by decide +kernel
theorem dX6_readAtHome_13 : decode cX6_readAtHome 13 = .ok (.iload_n 2, 1) := by decide +kernel
theorem dX6_readAtHome_14 : decode cX6_readAtHome 14 = .ok (.invokestatic 113, 3) := by decide +kernel
theorem dX6_readAtHome_17 : decode cX6_readAtHome 17 = .ok (.ifCond .ne 5, 3) := by decide +kernel
theorem dX6_readAtHome_20 : decode cX6_readAtHome 20 = .ok (.iconst (-1), 1) := by decide +kernel
theorem dX6_readAtHome_21 : decode cX6_readAtHome 21 = .ok (.ireturn, 1) := by decide +kernel
theorem dX6_readAtHome_22 : decode cX6_readAtHome 22 = .ok (.aload_n 0, 1) := by decide +kernel
theorem dX6_readAtHome_23 : decode cX6_readAtHome 23 = .ok (.getfield 12, 3) := by decide +kernel
theorem dX6_readAtHome_26 : decode cX6_readAtHome 26 = .ok (.aload_n 3, 1) := by decide +kernel
theorem dX6_readAtHome_27 : decode cX6_readAtHome 27 = .ok (.iload_n 2, 1) := by decide +kernel
theorem dX6_readAtHome_28 : decode cX6_readAtHome 28 = .ok (.aload_n 3, 1) := by decide +kernel
theorem dX6_readAtHome_29 : decode cX6_readAtHome 29 = .ok (.getfield 151, 3) := by decide +kernel
theorem dX6_readAtHome_32 : decode cX6_readAtHome 32 = .ok (.invokevirtual 202, 3) := by decide +kernel
theorem dX6_readAtHome_35 : decode cX6_readAtHome 35 = .ok (.istore 4, 2) := by decide +kernel
theorem dX6_readAtHome_37 : decode cX6_readAtHome 37 = .ok (.iload 4, 2) := by decide +kernel
theorem dX6_readAtHome_39 : decode cX6_readAtHome 39 = .ok (.bipush (-6), 2) := by decide +kernel
theorem dX6_readAtHome_41 : decode cX6_readAtHome 41 = .ok (.if_icmp .eq 37, 3) := by decide +kernel
theorem dX6_readAtHome_44 : decode cX6_readAtHome 44 = .ok (.iload 4, 2) := by decide +kernel
theorem dX6_readAtHome_46 : decode cX6_readAtHome 46 = .ok (.aload_n 3, 1) := by decide +kernel
theorem dX6_readAtHome_47 : decode cX6_readAtHome 47 = .ok (.getfield 159, 3) := by decide +kernel
theorem dX6_readAtHome_50 : decode cX6_readAtHome 50 = .ok (.if_icmp .gt 28, 3) := by decide +kernel
theorem dX6_readAtHome_53 : decode cX6_readAtHome 53 = .ok (.aload_n 0, 1) := by decide +kernel
theorem dX6_readAtHome_54 : decode cX6_readAtHome 54 = .ok (.getfield 12, 3) := by decide +kernel
theorem dX6_readAtHome_57 : decode cX6_readAtHome 57 = .ok (.iload 4, 2) := by decide +kernel
theorem dX6_readAtHome_59 : decode cX6_readAtHome 59 = .ok (.invokevirtual 258, 3) := by decide +kernel
theorem dX6_readAtHome_62 : decode cX6_readAtHome 62 = .ok (.aload_n 0, 1) := by decide +kernel
theorem dX6_readAtHome_63 : decode cX6_readAtHome 63 = .ok (.getfield 12, 3) := by decide +kernel
theorem dX6_readAtHome_66 : decode cX6_readAtHome 66 = .ok (.aload_n 3, 1) := by decide +kernel
theorem dX6_readAtHome_67 : decode cX6_readAtHome 67 = .ok (.iload_n 2, 1) := by decide +kernel
theorem dX6_readAtHome_68 : decode cX6_readAtHome 68 = .ok (.aload_n 3, 1) := by decide +kernel
theorem dX6_readAtHome_69 : decode cX6_readAtHome 69 = .ok (.getfield 151, 3) := by decide +kernel
theorem dX6_readAtHome_72 : decode cX6_readAtHome 72 = .ok (.iload 4, 2) := by decide +kernel
theorem dX6_readAtHome_74 : decode cX6_readAtHome 74 = .ok (.invokevirtual 277, 3) := by decide +kernel
theorem dX6_readAtHome_77 : decode cX6_readAtHome 77 = .ok (.ireturn, 1) := by decide +kernel
theorem dX6_readAtHome_78 : decode cX6_readAtHome 78 = .ok (.aload_n 3, 1) := by decide +kernel
theorem dX6_readAtHome_79 : decode cX6_readAtHome 79 = .ok (.bipush 8, 2) := by decide +kernel
theorem dX6_readAtHome_81 : decode cX6_readAtHome 81 = .ok (.invokevirtual 281, 3) := by decide +kernel
theorem dX6_readAtHome_84 : decode cX6_readAtHome 84 = .ok (.ifCond .eq 18, 3) := by decide +kernel
theorem dX6_readAtHome_87 : decode cX6_readAtHome 87 = .ok (.aload_n 0, 1) := by decide +kernel
theorem dX6_readAtHome_88 : decode cX6_readAtHome 88 = .ok (.getfield 12, 3) := by decide +kernel
theorem dX6_readAtHome_91 : decode cX6_readAtHome 91 = .ok (.aload_n 3, 1) := by decide +kernel
theorem dX6_readAtHome_92 : decode cX6_readAtHome 92 = .ok (.iload_n 2, 1) := by decide +kernel
theorem dX6_readAtHome_93 : decode cX6_readAtHome 93 = .ok (.bipush 9, 2) := by decide +kernel
theorem dX6_readAtHome_95 : decode cX6_readAtHome 95 = .ok (.iconst 0, 1) := by decide +kernel
theorem dX6_readAtHome_96 : decode cX6_readAtHome 96 = .ok (.invokevirtual 277, 3) := by decide +kernel
theorem dX6_readAtHome_99 : decode cX6_readAtHome 99 = .ok (.goto 5, 3) := by decide +kernel
theorem dX6_readAtHome_102 : decode cX6_readAtHome 102 = .ok (.bipush (-3), 2) := by decide +kernel
theorem dX6_readAtHome_104 : decode cX6_readAtHome 104 = .ok (.ireturn, 1) := by decide +kernel
theorem dX6_readAtPlace_0 : decode cX6_readAtPlace 0 = .ok (.aload_n 0, 1) := by decide +kernel
theorem dX6_readAtPlace_1 : decode cX6_readAtPlace 1 = .ok (.getfield 12, 3) := by decide +kernel
theorem dX6_readAtPlace_4 : decode cX6_readAtPlace 4 = .ok (.iload_n 1, 1) := by decide +kernel
theorem dX6_readAtPlace_5 : decode cX6_readAtPlace 5 = .ok (.invokevirtual 147, 3) := by decide +kernel
theorem dX6_readAtPlace_8 : decode cX6_readAtPlace 8 = .ok (.astore 4, 2) := by decide +kernel
theorem dX6_readAtPlace_10 : decode cX6_readAtPlace 10 = .ok (.aload 4, 2) := by decide +kernel
theorem dX6_readAtPlace_12 : decode cX6_readAtPlace 12 = .ok (.ifnull 21, 3) := by decide +kernel
theorem dX6_readAtPlace_15 : decode cX6_readAtPlace 15 = .ok (.iload_n 2, 1) := by decide +kernel
theorem dX6_readAtPlace_16 : decode cX6_readAtPlace 16 = .ok (.invokestatic 113, 3) := by decide +kernel
theorem dX6_readAtPlace_19 : decode cX6_readAtPlace 19 = .ok (.ifCond .eq 14, 3) := by decide +kernel
theorem dX6_readAtPlace_22 : decode cX6_readAtPlace 22 = .ok (.aload_n 0, 1) := by decide +kernel
theorem dX6_readAtPlace_23 : decode cX6_readAtPlace 23 = .ok (.getfield 12, 3) := by decide +kernel
theorem dX6_readAtPlace_26 : decode cX6_readAtPlace 26 = .ok (.iload_n 3, 1) := by decide +kernel
theorem dX6_readAtPlace_27 : decode cX6_readAtPlace 27 = .ok (.invokevirtual 110, 3) := by decide +kernel
theorem dX6_readAtPlace_30 : decode cX6_readAtPlace 30 = .ok (.ifCond .ne 5, 3) := by decide +kernel
theorem dX6_readAtPlace_33 : decode cX6_readAtPlace 33 = .ok (.iconst (-1), 1) := by decide +kernel
theorem dX6_readAtPlace_34 : decode cX6_readAtPlace 34 = .ok (.ireturn, 1) := by decide +kernel
theorem dX6_readAtPlace_35 : decode cX6_readAtPlace 35 = .ok (.aload_n 0, 1) := by decide +kernel
theorem dX6_readAtPlace_36 : decode cX6_readAtPlace 36 = .ok (.getfield 12, 3) := by decide +kernel
theorem dX6_readAtPlace_39 : decode cX6_readAtPlace 39 = .ok (.aload 4, 2) := by decide +kernel
theorem dX6_readAtPlace_41 : decode cX6_readAtPlace 41 = .ok (.iload_n 2, 1) := by decide +kernel
theorem dX6_readAtPlace_42 : decode cX6_readAtPlace 42 = .ok (.iload_n 3, 1) := by decide +kernel
theorem dX6_readAtPlace_43 : decode cX6_readAtPlace 43 = .ok (.invokevirtual 202, 3) := by decide +kernel
theorem dX6_readAtPlace_46 : decode cX6_readAtPlace 46 = .ok (.ifCond .ne 18, 3) := by decide +kernel
theorem dX6_readAtPlace_49 : decode cX6_readAtPlace 49 = .ok (.aload_n 0, 1) := by decide +kernel
theorem dX6_readAtPlace_50 : decode cX6_readAtPlace 50 = .ok (.getfield 12, 3) := by decide +kernel
theorem dX6_readAtPlace_53 : decode cX6_readAtPlace 53 = .ok (.aload 4, 2) := by decide +kernel
theorem dX6_readAtPlace_55 : decode cX6_readAtPlace 55 = .ok (.iload_n 2, 1) := by decide +kernel
theorem dX6_readAtPlace_56 : decode cX6_readAtPlace 56 = .ok (.iload_n 3, 1) := by decide +kernel
theorem dX6_readAtPlace_57 : decode cX6_readAtPlace 57 = .ok (.iconst 0, 1) := by decide +kernel
theorem dX6_readAtPlace_58 : decode cX6_readAtPlace 58 = .ok (.invokevirtual 277, 3) := by decide +kernel
theorem dX6_readAtPlace_61 : decode cX6_readAtPlace 61 = .ok (.goto 5, 3) := by decide +kernel
theorem dX6_readAtPlace_64 : decode cX6_readAtPlace 64 = .ok (.bipush (-3), 2) := by decide +kernel
theorem dX6_readAtPlace_66 : decode cX6_readAtPlace 66 = .ok (.ireturn, 1) := by decide +kernel
theorem dX6_runCommand_0 : decode cX6_runCommand 0 = .ok (.aload_n 0, 1) := by decide +kernel
theorem dX6_runCommand_1 : decode cX6_runCommand 1 = .ok (.getfield 33, 3) := by decide +kernel
theorem dX6_runCommand_4 : decode cX6_runCommand 4 = .ok (.iconst 0, 1) := by decide +kernel
theorem dX6_runCommand_5 : decode cX6_runCommand 5 = .ok (.invokevirtual 284, 3) := by decide +kernel
theorem dX6_runCommand_8 : decode cX6_runCommand 8 = .ok (.istore_n 1, 1) := by decide +kernel
theorem dX6_runCommand_9 : decode cX6_runCommand 9 = .ok (.aload_n 0, 1) := by decide +kernel
theorem dX6_runCommand_10 : decode cX6_runCommand 10 = .ok (.getfield 33, 3) := by decide +kernel
theorem dX6_runCommand_13 : decode cX6_runCommand 13 = .ok (.iconst 1, 1) := by decide +kernel
theorem dX6_runCommand_14 : decode cX6_runCommand 14 = .ok (.invokevirtual 284, 3) := by decide +kernel
theorem dX6_runCommand_17 : decode cX6_runCommand 17 = .ok (.istore_n 2, 1) := by decide +kernel
theorem dX6_runCommand_18 : decode cX6_runCommand 18 = .ok (.aload_n 0, 1) := by decide +kernel
theorem dX6_runCommand_19 : decode cX6_runCommand 19 = .ok (.getfield 33, 3) := by decide +kernel
theorem dX6_runCommand_22 : decode cX6_runCommand 22 = .ok (.getfield 287, 3) := by decide +kernel
theorem dX6_runCommand_25 : decode cX6_runCommand 25 = .ok (.tableswitch 128 104 119 #[114, 128, 121, 128, 128, 107, 128, 128, 128, 128, 94, 128, 101, 128, 128, 79], 79) := by decide +kernel
theorem dX6_runCommand_104 : decode cX6_runCommand 104 = .ok (.aload_n 0, 1) := by decide +kernel
theorem dX6_runCommand_105 : decode cX6_runCommand 105 = .ok (.iload_n 1, 1) := by decide +kernel
theorem dX6_runCommand_106 : decode cX6_runCommand 106 = .ok (.iload_n 2, 1) := by decide +kernel
theorem dX6_runCommand_107 : decode cX6_runCommand 107 = .ok (.aload_n 0, 1) := by decide +kernel
theorem dX6_runCommand_108 : decode cX6_runCommand 108 = .ok (.getfield 33, 3) := by decide +kernel
theorem dX6_runCommand_111 : decode cX6_runCommand 111 = .ok (.iconst 2, 1) := by decide +kernel
theorem dX6_runCommand_112 : decode cX6_runCommand 112 = .ok (.invokevirtual 284, 3) := by decide +kernel
theorem dX6_runCommand_115 : decode cX6_runCommand 115 = .ok (.invokevirtual 180, 3) := by decide +kernel
theorem dX6_runCommand_118 : decode cX6_runCommand 118 = .ok (.ireturn, 1) := by decide +kernel
theorem dX6_runCommand_119 : decode cX6_runCommand 119 = .ok (.aload_n 0, 1) := by decide +kernel
theorem dX6_runCommand_120 : decode cX6_runCommand 120 = .ok (.iload_n 1, 1) := by decide +kernel
theorem dX6_runCommand_121 : decode cX6_runCommand 121 = .ok (.iload_n 2, 1) := by decide +kernel
theorem dX6_runCommand_122 : decode cX6_runCommand 122 = .ok (.invokevirtual 183, 3) := by decide +kernel
theorem dX6_runCommand_125 : decode cX6_runCommand 125 = .ok (.ireturn, 1) := by decide +kernel
theorem dX6_runCommand_126 : decode cX6_runCommand 126 = .ok (.aload_n 0, 1) := by decide +kernel
theorem dX6_runCommand_127 : decode cX6_runCommand 127 = .ok (.iload_n 1, 1) := by decide +kernel
theorem dX6_runCommand_128 : decode cX6_runCommand 128 = .ok (.invokevirtual 62, 3) := by decide +kernel
theorem dX6_runCommand_131 : decode cX6_runCommand 131 = .ok (.ireturn, 1) := by decide +kernel
theorem dX6_runCommand_132 : decode cX6_runCommand 132 = .ok (.aload_n 0, 1) := by decide +kernel
theorem dX6_runCommand_133 : decode cX6_runCommand 133 = .ok (.iload_n 1, 1) := by decide +kernel
theorem dX6_runCommand_134 : decode cX6_runCommand 134 = .ok (.iload_n 2, 1) := by decide +kernel
theorem dX6_runCommand_135 : decode cX6_runCommand 135 = .ok (.invokevirtual 135, 3) := by decide +kernel
theorem dX6_runCommand_138 : decode cX6_runCommand 138 = .ok (.ireturn, 1) := by decide +kernel
theorem dX6_runCommand_139 : decode cX6_runCommand 139 = .ok (.aload_n 0, 1) := by decide +kernel
theorem dX6_runCommand_140 : decode cX6_runCommand 140 = .ok (.iload_n 1, 1) := by decide +kernel
theorem dX6_runCommand_141 : decode cX6_runCommand 141 = .ok (.iload_n 2, 1) := by decide +kernel
theorem dX6_runCommand_142 : decode cX6_runCommand 142 = .ok (.invokevirtual 141, 3) := by decide +kernel
theorem dX6_runCommand_145 : decode cX6_runCommand 145 = .ok (.ireturn, 1) := by decide +kernel
theorem dX6_runCommand_146 : decode cX6_runCommand 146 = .ok (.aload_n 0, 1) := by decide +kernel
theorem dX6_runCommand_147 : decode cX6_runCommand 147 = .ok (.iload_n 1, 1) := by decide +kernel
theorem dX6_runCommand_148 : decode cX6_runCommand 148 = .ok (.iload_n 2, 1) := by decide +kernel
theorem dX6_runCommand_149 : decode cX6_runCommand 149 = .ok (.invokevirtual 59, 3) := by decide +kernel
theorem dX6_runCommand_152 : decode cX6_runCommand 152 = .ok (.ireturn, 1) := by decide +kernel
theorem dX6_runCommand_153 : decode cX6_runCommand 153 = .ok (.bipush (-5), 2) := by decide +kernel
theorem dX6_runCommand_155 : decode cX6_runCommand 155 = .ok (.ireturn, 1) := by decide +kernel
theorem dX6_isWithin_0 : decode cX6_isWithin 0 = .ok (.iload_n 0, 1) := by decide +kernel
theorem dX6_isWithin_1 : decode cX6_isWithin 1 = .ok (.iload_n 1, 1) := by decide +kernel
theorem dX6_isWithin_2 : decode cX6_isWithin 2 = .ok (.if_icmp .lt 12, 3) := by decide +kernel
theorem dX6_isWithin_5 : decode cX6_isWithin 5 = .ok (.iload_n 0, 1) := by decide +kernel
theorem dX6_isWithin_6 : decode cX6_isWithin 6 = .ok (.iload_n 2, 1) := by decide +kernel
theorem dX6_isWithin_7 : decode cX6_isWithin 7 = .ok (.if_icmp .gt 7, 3) := by decide +kernel
theorem dX6_isWithin_10 : decode cX6_isWithin 10 = .ok (.iconst 1, 1) := by decide +kernel
theorem dX6_isWithin_11 : decode cX6_isWithin 11 = .ok (.goto 4, 3) := by decide +kernel
theorem dX6_isWithin_14 : decode cX6_isWithin 14 = .ok (.iconst 0, 1) := by decide +kernel
theorem dX6_isWithin_15 : decode cX6_isWithin 15 = .ok (.ireturn, 1) := by decide +kernel
theorem dX6_isKey_0 : decode cX6_isKey 0 = .ok (.iload_n 0, 1) := by decide +kernel
theorem dX6_isKey_1 : decode cX6_isKey 1 = .ok (.iconst 0, 1) := by decide +kernel
theorem dX6_isKey_2 : decode cX6_isKey 2 = .ok (.bipush 11, 2) := by decide +kernel
theorem dX6_isKey_4 : decode cX6_isKey 4 = .ok (.invokestatic 189, 3) := by decide +kernel
theorem dX6_isKey_7 : decode cX6_isKey 7 = .ok (.ireturn, 1) := by decide +kernel
theorem dX6_isError_0 : decode cX6_isError 0 = .ok (.iload_n 0, 1) := by decide +kernel
theorem dX6_isError_1 : decode cX6_isError 1 = .ok (.bipush (-5), 2) := by decide +kernel
theorem dX6_isError_3 : decode cX6_isError 3 = .ok (.iconst (-1), 1) := by decide +kernel
theorem dX6_isError_4 : decode cX6_isError 4 = .ok (.invokestatic 189, 3) := by decide +kernel
theorem dX6_isError_7 : decode cX6_isError 7 = .ok (.ireturn, 1) := by decide +kernel
end
section
theorem dX7_init_0 : decode cX7_init 0 = .ok (.aload_n 0, 1) := by decide +kernel
theorem dX7_init_1 : decode cX7_init 1 = .ok (.invokespecial 1, 3) := by decide +kernel
theorem dX7_init_4 : decode cX7_init 4 = .ok (.aload_n 0, 1) := by decide +kernel
theorem dX7_init_5 : decode cX7_init 5 = .ok (.sipush 894, 3) := by decide +kernel
theorem dX7_init_8 : decode cX7_init 8 = .ok (.newarray .int, 2) := by decide +kernel
theorem dX7_init_10 : decode cX7_init 10 = .ok (.putfield 7, 3) := by decide +kernel
theorem dX7_init_13 : decode cX7_init 13 = .ok (.aload_n 0, 1) := by decide +kernel
theorem dX7_init_14 : decode cX7_init 14 = .ok (.sipush 4470, 3) := by decide +kernel
theorem dX7_init_17 : decode cX7_init 17 = .ok (.newarray .int, 2) := by decide +kernel
theorem dX7_init_19 : decode cX7_init 19 = .ok (.putfield 13, 3) := by decide +kernel
theorem dX7_init_22 : decode cX7_init 22 = .ok (.aload_n 0, 1) := by decide +kernel
theorem dX7_init_23 : decode cX7_init 23 = .ok (.sipush 894, 3) := by decide +kernel
theorem dX7_init_26 : decode cX7_init 26 = .ok (.newarray .int, 2) := by decide +kernel
theorem dX7_init_28 : decode cX7_init 28 = .ok (.putfield 16, 3) := by decide +kernel
theorem dX7_init_31 : decode cX7_init 31 = .ok (.aload_n 0, 1) := by decide +kernel
theorem dX7_init_32 : decode cX7_init 32 = .ok (.bipush 80, 2) := by decide +kernel
theorem dX7_init_34 : decode cX7_init 34 = .ok (.newarray .char, 2) := by decide +kernel
theorem dX7_init_36 : decode cX7_init 36 = .ok (.putfield 19, 3) := by decide +kernel
theorem dX7_init_39 : decode cX7_init 39 = .ok (.aload_n 0, 1) := by decide +kernel
theorem dX7_init_40 : decode cX7_init 40 = .ok (.sipush 168, 3) := by decide +kernel
theorem dX7_init_43 : decode cX7_init 43 = .ok (.newarray .int, 2) := by decide +kernel
theorem dX7_init_45 : decode cX7_init 45 = .ok (.putfield 23, 3) := by decide +kernel
theorem dX7_init_48 : decode cX7_init 48 = .ok (.iconst 0, 1) := by decide +kernel
theorem dX7_init_49 : decode cX7_init 49 = .ok (.istore_n 1, 1) := by decide +kernel
theorem dX7_init_50 : decode cX7_init 50 = .ok (.iload_n 1, 1) := by decide +kernel
theorem dX7_init_51 : decode cX7_init 51 = .ok (.iconst 3, 1) := by decide +kernel
theorem dX7_init_52 : decode cX7_init 52 = .ok (.if_icmp .ge 19, 3) := by decide +kernel
theorem dX7_init_55 : decode cX7_init 55 = .ok (.aload_n 0, 1) := by decide +kernel
theorem dX7_init_56 : decode cX7_init 56 = .ok (.getfield 7, 3) := by decide +kernel
theorem dX7_init_59 : decode cX7_init 59 = .ok (.iconst 1, 1) := by decide +kernel
theorem dX7_init_60 : decode cX7_init 60 = .ok (.iload_n 1, 1) := by decide +kernel
theorem dX7_init_61 : decode cX7_init 61 = .ok (.iadd, 1) := by decide +kernel
theorem dX7_init_62 : decode cX7_init 62 = .ok (.bipush (-6), 2) := by decide +kernel
theorem dX7_init_64 : decode cX7_init 64 = .ok (.iastore, 1) := by decide +kernel
theorem dX7_init_65 : decode cX7_init 65 = .ok (.iinc 1 1, 3) := by decide +kernel
theorem dX7_init_68 : decode cX7_init 68 = .ok (.goto (-18), 3) := by decide +kernel
theorem dX7_init_71 : decode cX7_init 71 = .ok (.return_, 1) := by decide +kernel
theorem dX7_in_0 : decode cX7_in 0 = .ok (.iload_n 0, 1) := by decide +kernel
theorem dX7_in_1 : decode cX7_in 1 = .ok (.iload_n 1, 1) := by decide +kernel
theorem dX7_in_2 : decode cX7_in 2 = .ok (.if_icmp .lt 12, 3) := by decide +kernel
theorem dX7_in_5 : decode cX7_in 5 = .ok (.iload_n 0, 1) := by decide +kernel
theorem dX7_in_6 : decode cX7_in 6 = .ok (.iload_n 2, 1) := by decide +kernel
theorem dX7_in_7 : decode cX7_in 7 = .ok (.if_icmp .gt 7, 3) := by decide +kernel
theorem dX7_in_10 : decode cX7_in 10 = .ok (.iconst 1, 1) := by decide +kernel
theorem dX7_in_11 : decode cX7_in 11 = .ok (.goto 4, 3) := by decide +kernel
theorem dX7_in_14 : decode cX7_in 14 = .ok (.iconst 0, 1) := by decide +kernel
theorem dX7_in_15 : decode cX7_in 15 = .ok (.ireturn, 1) := by decide +kernel
theorem dX7_ofReplica_0 : decode cX7_ofReplica 0 = .ok (.aload_n 0, 1) := by decide +kernel
theorem dX7_ofReplica_1 : decode cX7_ofReplica 1 = .ok (.getfield 7, 3) := by decide +kernel
theorem dX7_ofReplica_4 : decode cX7_ofReplica 4 = .ok (.iconst 5, 1) := by decide +kernel
theorem dX7_ofReplica_5 : decode cX7_ofReplica 5 = .ok (.iconst 5, 1) := by decide +kernel
theorem dX7_ofReplica_6 : decode cX7_ofReplica 6 = .ok (.iload_n 1, 1) := by decide +kernel
theorem dX7_ofReplica_7 : decode cX7_ofReplica 7 = .ok (.imul, 1) := by decide +kernel
theorem dX7_ofReplica_8 : decode cX7_ofReplica 8 = .ok (.iadd, 1) := by decide +kernel
theorem dX7_ofReplica_9 : decode cX7_ofReplica 9 = .ok (.iload_n 2, 1) := by decide +kernel
theorem dX7_ofReplica_10 : decode cX7_ofReplica 10 = .ok (.iadd, 1) := by decide +kernel
theorem dX7_ofReplica_11 : decode cX7_ofReplica 11 = .ok (.iaload, 1) := by decide +kernel
theorem dX7_ofReplica_12 : decode cX7_ofReplica 12 = .ok (.ireturn, 1) := by decide +kernel
theorem dX7_layReplica_0 : decode cX7_layReplica 0 = .ok (.aload_n 0, 1) := by decide +kernel
theorem dX7_layReplica_1 : decode cX7_layReplica 1 = .ok (.getfield 7, 3) := by decide +kernel
theorem dX7_layReplica_4 : decode cX7_layReplica 4 = .ok (.iconst 5, 1) := by decide +kernel
theorem dX7_layReplica_5 : decode cX7_layReplica 5 = .ok (.iconst 5, 1) := by decide +kernel
theorem dX7_layReplica_6 : decode cX7_layReplica 6 = .ok (.iload_n 1, 1) := by decide +kernel
theorem dX7_layReplica_7 : decode cX7_layReplica 7 = .ok (.imul, 1) := by decide +kernel
theorem dX7_layReplica_8 : decode cX7_layReplica 8 = .ok (.iadd, 1) := by decide +kernel
theorem dX7_layReplica_9 : decode cX7_layReplica 9 = .ok (.iload_n 2, 1) := by decide +kernel
theorem dX7_layReplica_10 : decode cX7_layReplica 10 = .ok (.iadd, 1) := by decide +kernel
theorem dX7_layReplica_11 : decode cX7_layReplica 11 = .ok (.iload_n 3, 1) := by decide +kernel
theorem dX7_layReplica_12 : decode cX7_layReplica 12 = .ok (.iastore, 1) := by decide +kernel
theorem dX7_layReplica_13 : decode cX7_layReplica 13 = .ok (.return_, 1) := by decide +kernel
theorem dX7_ofSession_0 : decode cX7_ofSession 0 = .ok (.aload_n 0, 1) := by decide +kernel
theorem dX7_ofSession_1 : decode cX7_ofSession 1 = .ok (.getfield 7, 3) := by decide +kernel
theorem dX7_ofSession_4 : decode cX7_ofSession 4 = .ok (.bipush 30, 2) := by decide +kernel
theorem dX7_ofSession_6 : decode cX7_ofSession 6 = .ok (.bipush 33, 2) := by decide +kernel
theorem dX7_ofSession_8 : decode cX7_ofSession 8 = .ok (.iload_n 1, 1) := by decide +kernel
theorem dX7_ofSession_9 : decode cX7_ofSession 9 = .ok (.imul, 1) := by decide +kernel
theorem dX7_ofSession_10 : decode cX7_ofSession 10 = .ok (.iadd, 1) := by decide +kernel
theorem dX7_ofSession_11 : decode cX7_ofSession 11 = .ok (.iload_n 2, 1) := by decide +kernel
theorem dX7_ofSession_12 : decode cX7_ofSession 12 = .ok (.iadd, 1) := by decide +kernel
theorem dX7_ofSession_13 : decode cX7_ofSession 13 = .ok (.iaload, 1) := by decide +kernel
theorem dX7_ofSession_14 : decode cX7_ofSession 14 = .ok (.ireturn, 1) := by decide +kernel
theorem dX7_laySession_0 : decode cX7_laySession 0 = .ok (.aload_n 0, 1) := by decide +kernel
theorem dX7_laySession_1 : decode cX7_laySession 1 = .ok (.getfield 7, 3) := by decide +kernel
theorem dX7_laySession_4 : decode cX7_laySession 4 = .ok (.bipush 30, 2) := by decide +kernel
theorem dX7_laySession_6 : decode cX7_laySession 6 = .ok (.bipush 33, 2) := by decide +kernel
theorem dX7_laySession_8 : decode cX7_laySession 8 = .ok (.iload_n 1, 1) := by decide +kernel
theorem dX7_laySession_9 : decode cX7_laySession 9 = .ok (.imul, 1) := by decide +kernel
theorem dX7_laySession_10 : decode cX7_laySession 10 = .ok (.iadd, 1) := by decide +kernel
theorem dX7_laySession_11 : decode cX7_laySession 11 = .ok (.iload_n 2, 1) := by decide +kernel
theorem dX7_laySession_12 : decode cX7_laySession 12 = .ok (.iadd, 1) := by decide +kernel
theorem dX7_laySession_13 : decode cX7_laySession 13 = .ok (.iload_n 3, 1) := by decide +kernel
theorem dX7_laySession_14 : decode cX7_laySession 14 = .ok (.iastore, 1) := by decide +kernel
theorem dX7_laySession_15 : decode cX7_laySession 15 = .ok (.return_, 1) := by decide +kernel
theorem dX7_isReplica_0 : decode cX7_isReplica 0 = .ok (.iload_n 1, 1) := by decide +kernel
theorem dX7_isReplica_1 : decode cX7_isReplica 1 = .ok (.iconst 0, 1) := by decide +kernel
theorem dX7_isReplica_2 : decode cX7_isReplica 2 = .ok (.iconst 4, 1) := by decide +kernel
theorem dX7_isReplica_3 : decode cX7_isReplica 3 = .ok (.invokestatic 26, 3) := by decide +kernel
theorem dX7_isReplica_6 : decode cX7_isReplica 6 = .ok (.ifCond .eq 17, 3) := by decide +kernel
theorem dX7_isReplica_9 : decode cX7_isReplica 9 = .ok (.aload_n 0, 1) := by decide +kernel
theorem dX7_isReplica_10 : decode cX7_isReplica 10 = .ok (.iload_n 1, 1) := by decide +kernel
theorem dX7_isReplica_11 : decode cX7_isReplica 11 = .ok (.iconst 0, 1) := by decide +kernel
theorem dX7_isReplica_12 : decode cX7_isReplica 12 = .ok (.invokevirtual 30, 3) := by decide +kernel
theorem dX7_isReplica_15 : decode cX7_isReplica 15 = .ok (.iconst 1, 1) := by decide +kernel
theorem dX7_isReplica_16 : decode cX7_isReplica 16 = .ok (.if_icmp .ne 7, 3) := by decide +kernel
theorem dX7_isReplica_19 : decode cX7_isReplica 19 = .ok (.iconst 1, 1) := by decide +kernel
theorem dX7_isReplica_20 : decode cX7_isReplica 20 = .ok (.goto 4, 3) := by decide +kernel
theorem dX7_isReplica_23 : decode cX7_isReplica 23 = .ok (.iconst 0, 1) := by decide +kernel
theorem dX7_isReplica_24 : decode cX7_isReplica 24 = .ok (.ireturn, 1) := by decide +kernel
theorem dX7_isPlace_0 : decode cX7_isPlace 0 = .ok (.iload_n 1, 1) := by decide +kernel
theorem dX7_isPlace_1 : decode cX7_isPlace 1 = .ok (.bipush 9, 2) := by decide +kernel
theorem dX7_isPlace_3 : decode cX7_isPlace 3 = .ok (.if_icmp .eq 11, 3) := by decide +kernel
theorem dX7_isPlace_6 : decode cX7_isPlace 6 = .ok (.aload_n 0, 1) := by decide +kernel
theorem dX7_isPlace_7 : decode cX7_isPlace 7 = .ok (.iload_n 1, 1) := by decide +kernel
theorem dX7_isPlace_8 : decode cX7_isPlace 8 = .ok (.invokevirtual 34, 3) := by decide +kernel
theorem dX7_isPlace_11 : decode cX7_isPlace 11 = .ok (.ifCond .eq 7, 3) := by decide +kernel
theorem dX7_isPlace_14 : decode cX7_isPlace 14 = .ok (.iconst 1, 1) := by decide +kernel
theorem dX7_isPlace_15 : decode cX7_isPlace 15 = .ok (.goto 4, 3) := by decide +kernel
theorem dX7_isPlace_18 : decode cX7_isPlace 18 = .ok (.iconst 0, 1) := by decide +kernel
theorem dX7_isPlace_19 : decode cX7_isPlace 19 = .ok (.ireturn, 1) := by decide +kernel
theorem dX7_isSession_0 : decode cX7_isSession 0 = .ok (.iload_n 1, 1) := by decide +kernel
theorem dX7_isSession_1 : decode cX7_isSession 1 = .ok (.iconst 0, 1) := by decide +kernel
theorem dX7_isSession_2 : decode cX7_isSession 2 = .ok (.bipush 7, 2) := by decide +kernel
theorem dX7_isSession_4 : decode cX7_isSession 4 = .ok (.invokestatic 26, 3) := by decide +kernel
theorem dX7_isSession_7 : decode cX7_isSession 7 = .ok (.ifCond .eq 17, 3) := by decide +kernel
theorem dX7_isSession_10 : decode cX7_isSession 10 = .ok (.aload_n 0, 1) := by decide +kernel
theorem dX7_isSession_11 : decode cX7_isSession 11 = .ok (.iload_n 1, 1) := by decide +kernel
theorem dX7_isSession_12 : decode cX7_isSession 12 = .ok (.iconst 0, 1) := by decide +kernel
theorem dX7_isSession_13 : decode cX7_isSession 13 = .ok (.invokevirtual 38, 3) := by decide +kernel
theorem dX7_isSession_16 : decode cX7_isSession 16 = .ok (.iconst 1, 1) := by decide +kernel
theorem dX7_isSession_17 : decode cX7_isSession 17 = .ok (.if_icmp .ne 7, 3) := by decide +kernel
theorem dX7_isSession_20 : decode cX7_isSession 20 = .ok (.iconst 1, 1) := by decide +kernel
theorem dX7_isSession_21 : decode cX7_isSession 21 = .ok (.goto 4, 3) := by decide +kernel
theorem dX7_isSession_24 : decode cX7_isSession 24 = .ok (.iconst 0, 1) := by decide +kernel
theorem dX7_isSession_25 : decode cX7_isSession 25 = .ok (.ireturn, 1) := by decide +kernel
theorem dX7_isKey_0 : decode cX7_isKey 0 = .ok (.iload_n 0, 1) := by decide +kernel
theorem dX7_isKey_1 : decode cX7_isKey 1 = .ok (.iconst 0, 1) := by decide +kernel
theorem dX7_isKey_2 : decode cX7_isKey 2 = .ok (.bipush 11, 2) := by decide +kernel
theorem dX7_isKey_4 : decode cX7_isKey 4 = .ok (.invokestatic 26, 3) := by decide +kernel
theorem dX7_isKey_7 : decode cX7_isKey 7 = .ok (.ireturn, 1) := by decide +kernel
theorem dX7_record_0 : decode cX7_record 0 = .ok (.aload_n 0, 1) := by decide +kernel
theorem dX7_record_1 : decode cX7_record 1 = .ok (.getfield 41, 3) := by decide +kernel
theorem dX7_record_4 : decode cX7_record 4 = .ok (.iconst 5, 1) := by decide +kernel
theorem dX7_record_5 : decode cX7_record 5 = .ok (.if_icmp .ne 44, 3) := by decide +kernel
theorem dX7_record_8 : decode cX7_record 8 = .ok (.iconst 0, 1) := by decide +kernel
theorem dX7_record_9 : decode cX7_record 9 = .ok (.istore_n 1, 1) := by decide +kernel
theorem dX7_record_10 : decode cX7_record 10 = .ok (.iload_n 1, 1) := by decide +kernel
theorem dX7_record_11 : decode cX7_record 11 = .ok (.sipush 3576, 3) := by decide +kernel
theorem dX7_record_14 : decode cX7_record 14 = .ok (.if_icmp .ge 25, 3) := by decide +kernel
theorem dX7_record_17 : decode cX7_record 17 = .ok (.aload_n 0, 1) := by decide +kernel
theorem dX7_record_18 : decode cX7_record 18 = .ok (.getfield 13, 3) := by decide +kernel
theorem dX7_record_21 : decode cX7_record 21 = .ok (.iload_n 1, 1) := by decide +kernel
theorem dX7_record_22 : decode cX7_record 22 = .ok (.aload_n 0, 1) := by decide +kernel
theorem dX7_record_23 : decode cX7_record 23 = .ok (.getfield 13, 3) := by decide +kernel
theorem dX7_record_26 : decode cX7_record 26 = .ok (.iload_n 1, 1) := by decide +kernel
theorem dX7_record_27 : decode cX7_record 27 = .ok (.sipush 894, 3) := by decide +kernel
theorem dX7_record_30 : decode cX7_record 30 = .ok (.iadd, 1) := by decide +kernel
theorem dX7_record_31 : decode cX7_record 31 = .ok (.iaload, 1) := by decide +kernel
theorem dX7_record_32 : decode cX7_record 32 = .ok (.iastore, 1) := by decide +kernel
theorem dX7_record_33 : decode cX7_record 33 = .ok (.iinc 1 1, 3) := by decide +kernel
theorem dX7_record_36 : decode cX7_record 36 = .ok (.goto (-26), 3) := by decide +kernel
theorem dX7_record_39 : decode cX7_record 39 = .ok (.aload_n 0, 1) := by decide +kernel
theorem dX7_record_40 : decode cX7_record 40 = .ok (.dup, 1) := by decide +kernel
theorem dX7_record_41 : decode cX7_record 41 = .ok (.getfield 41, 3) := by decide +kernel
theorem dX7_record_44 : decode cX7_record 44 = .ok (.iconst 1, 1) := by decide +kernel
theorem dX7_record_45 : decode cX7_record 45 = .ok (.isub, 1) := by decide +kernel
theorem dX7_record_46 : decode cX7_record 46 = .ok (.putfield 41, 3) := by decide +kernel
theorem dX7_record_49 : decode cX7_record 49 = .ok (.iconst 0, 1) := by decide +kernel
theorem dX7_record_50 : decode cX7_record 50 = .ok (.istore_n 1, 1) := by decide +kernel
theorem dX7_record_51 : decode cX7_record 51 = .ok (.iload_n 1, 1) := by decide +kernel
theorem dX7_record_52 : decode cX7_record 52 = .ok (.sipush 894, 3) := by decide +kernel
theorem dX7_record_55 : decode cX7_record 55 = .ok (.if_icmp .ge 30, 3) := by decide +kernel
theorem dX7_record_58 : decode cX7_record 58 = .ok (.aload_n 0, 1) := by decide +kernel
theorem dX7_record_59 : decode cX7_record 59 = .ok (.getfield 13, 3) := by decide +kernel
theorem dX7_record_62 : decode cX7_record 62 = .ok (.aload_n 0, 1) := by decide +kernel
theorem dX7_record_63 : decode cX7_record 63 = .ok (.getfield 41, 3) := by decide +kernel
theorem dX7_record_66 : decode cX7_record 66 = .ok (.sipush 894, 3) := by decide +kernel
theorem dX7_record_69 : decode cX7_record 69 = .ok (.imul, 1) := by decide +kernel
theorem dX7_record_70 : decode cX7_record 70 = .ok (.iload_n 1, 1) := by decide +kernel
theorem dX7_record_71 : decode cX7_record 71 = .ok (.iadd, 1) := by decide +kernel
theorem dX7_record_72 : decode cX7_record 72 = .ok (.aload_n 0, 1) := by decide +kernel
theorem dX7_record_73 : decode cX7_record 73 = .ok (.getfield 7, 3) := by decide +kernel
theorem dX7_record_76 : decode cX7_record 76 = .ok (.iload_n 1, 1) := by decide +kernel
theorem dX7_record_77 : decode cX7_record 77 = .ok (.iaload, 1) := by decide +kernel
theorem dX7_record_78 : decode cX7_record 78 = .ok (.iastore, 1) := by decide +kernel
theorem dX7_record_79 : decode cX7_record 79 = .ok (.iinc 1 1, 3) := by decide +kernel
theorem dX7_record_82 : decode cX7_record 82 = .ok (.goto (-31), 3) := by decide +kernel
theorem dX7_record_85 : decode cX7_record 85 = .ok (.aload_n 0, 1) := by decide +kernel
theorem dX7_record_86 : decode cX7_record 86 = .ok (.dup, 1) := by decide +kernel
theorem dX7_record_87 : decode cX7_record 87 = .ok (.getfield 41, 3) := by decide +kernel
theorem dX7_record_90 : decode cX7_record 90 = .ok (.iconst 1, 1) := by decide +kernel
theorem dX7_record_91 : decode cX7_record 91 = .ok (.iadd, 1) := by decide +kernel
theorem dX7_record_92 : decode cX7_record 92 = .ok (.putfield 41, 3) := by decide +kernel
theorem dX7_record_95 : decode cX7_record 95 = .ok (.return_, 1) := by decide +kernel
theorem dX7_undo_0 : decode cX7_undo 0 = .ok (.aload_n 0, 1) := by decide +kernel
theorem dX7_undo_1 : decode cX7_undo 1 = .ok (.getfield 41, 3) := by decide +kernel
theorem dX7_undo_4 : decode cX7_undo 4 = .ok (.ifCond .ne 6, 3) := by decide +kernel
theorem dX7_undo_7 : decode cX7_undo 7 = .ok (.bipush (-3), 2) := by decide +kernel
theorem dX7_undo_9 : decode cX7_undo 9 = .ok (.ireturn, 1) := by decide +kernel
theorem dX7_undo_10 : decode cX7_undo 10 = .ok (.aload_n 0, 1) := by decide +kernel
theorem dX7_undo_11 : decode cX7_undo 11 = .ok (.dup, 1) := by decide +kernel
theorem dX7_undo_12 : decode cX7_undo 12 = .ok (.getfield 41, 3) := by decide +kernel
theorem dX7_undo_15 : decode cX7_undo 15 = .ok (.iconst 1, 1) := by decide +kernel
theorem dX7_undo_16 : decode cX7_undo 16 = .ok (.isub, 1) := by decide +kernel
theorem dX7_undo_17 : decode cX7_undo 17 = .ok (.putfield 41, 3) := by decide +kernel
theorem dX7_undo_20 : decode cX7_undo 20 = .ok (.iconst 0, 1) := by decide +kernel
theorem dX7_undo_21 : decode cX7_undo 21 = .ok (.istore_n 1, 1) := by decide +kernel
theorem dX7_undo_22 : decode cX7_undo 22 = .ok (.iload_n 1, 1) := by decide +kernel
theorem dX7_undo_23 : decode cX7_undo 23 = .ok (.sipush 894, 3) := by decide +kernel
theorem dX7_undo_26 : decode cX7_undo 26 = .ok (.if_icmp .ge 30, 3) := by decide +kernel
theorem dX7_undo_29 : decode cX7_undo 29 = .ok (.aload_n 0, 1) := by decide +kernel
theorem dX7_undo_30 : decode cX7_undo 30 = .ok (.getfield 7, 3) := by decide +kernel
theorem dX7_undo_33 : decode cX7_undo 33 = .ok (.iload_n 1, 1) := by decide +kernel
theorem dX7_undo_34 : decode cX7_undo 34 = .ok (.aload_n 0, 1) := by decide +kernel
theorem dX7_undo_35 : decode cX7_undo 35 = .ok (.getfield 13, 3) := by decide +kernel
theorem dX7_undo_38 : decode cX7_undo 38 = .ok (.aload_n 0, 1) := by decide +kernel
theorem dX7_undo_39 : decode cX7_undo 39 = .ok (.getfield 41, 3) := by decide +kernel
theorem dX7_undo_42 : decode cX7_undo 42 = .ok (.sipush 894, 3) := by decide +kernel
theorem dX7_undo_45 : decode cX7_undo 45 = .ok (.imul, 1) := by decide +kernel
theorem dX7_undo_46 : decode cX7_undo 46 = .ok (.iload_n 1, 1) := by decide +kernel
theorem dX7_undo_47 : decode cX7_undo 47 = .ok (.iadd, 1) := by decide +kernel
theorem dX7_undo_48 : decode cX7_undo 48 = .ok (.iaload, 1) := by decide +kernel
theorem dX7_undo_49 : decode cX7_undo 49 = .ok (.iastore, 1) := by decide +kernel
theorem dX7_undo_50 : decode cX7_undo 50 = .ok (.iinc 1 1, 3) := by decide +kernel
theorem dX7_undo_53 : decode cX7_undo 53 = .ok (.goto (-31), 3) := by decide +kernel
theorem dX7_undo_56 : decode cX7_undo 56 = .ok (.aload_n 0, 1) := by decide +kernel
theorem dX7_undo_57 : decode cX7_undo 57 = .ok (.getfield 41, 3) := by decide +kernel
theorem dX7_undo_60 : decode cX7_undo 60 = .ok (.ireturn, 1) := by decide +kernel
theorem dX7_save_0 : decode cX7_save 0 = .ok (.aload_n 0, 1) := by decide +kernel
theorem dX7_save_1 : decode cX7_save 1 = .ok (.iconst 1, 1) := by decide +kernel
theorem dX7_save_2 : decode cX7_save 2 = .ok (.putfield 45, 3) := by decide +kernel
theorem dX7_save_5 : decode cX7_save 5 = .ok (.iconst 0, 1) := by decide +kernel
theorem dX7_save_6 : decode cX7_save 6 = .ok (.istore_n 1, 1) := by decide +kernel
theorem dX7_save_7 : decode cX7_save 7 = .ok (.iload_n 1, 1) := by decide +kernel
theorem dX7_save_8 : decode cX7_save 8 = .ok (.sipush 894, 3) := by decide +kernel
theorem dX7_save_11 : decode cX7_save 11 = .ok (.if_icmp .ge 21, 3) := by decide +kernel
theorem dX7_save_14 : decode cX7_save 14 = .ok (.aload_n 0, 1) := by decide +kernel
theorem dX7_save_15 : decode cX7_save 15 = .ok (.getfield 16, 3) := by decide +kernel
theorem dX7_save_18 : decode cX7_save 18 = .ok (.iload_n 1, 1) := by decide +kernel
theorem dX7_save_19 : decode cX7_save 19 = .ok (.aload_n 0, 1) := by decide +kernel
theorem dX7_save_20 : decode cX7_save 20 = .ok (.getfield 7, 3) := by decide +kernel
theorem dX7_save_23 : decode cX7_save 23 = .ok (.iload_n 1, 1) := by decide +kernel
theorem dX7_save_24 : decode cX7_save 24 = .ok (.iaload, 1) := by decide +kernel
theorem dX7_save_25 : decode cX7_save 25 = .ok (.iastore, 1) := by decide +kernel
theorem dX7_save_26 : decode cX7_save 26 = .ok (.iinc 1 1, 3) := by decide +kernel
theorem dX7_save_29 : decode cX7_save 29 = .ok (.goto (-22), 3) := by decide +kernel
theorem dX7_save_32 : decode cX7_save 32 = .ok (.aload_n 0, 1) := by decide +kernel
theorem dX7_save_33 : decode cX7_save 33 = .ok (.getfield 7, 3) := by decide +kernel
theorem dX7_save_36 : decode cX7_save 36 = .ok (.iconst 0, 1) := by decide +kernel
theorem dX7_save_37 : decode cX7_save 37 = .ok (.iaload, 1) := by decide +kernel
theorem dX7_save_38 : decode cX7_save 38 = .ok (.ireturn, 1) := by decide +kernel
theorem dX7_restore_0 : decode cX7_restore 0 = .ok (.aload_n 0, 1) := by decide +kernel
theorem dX7_restore_1 : decode cX7_restore 1 = .ok (.getfield 45, 3) := by decide +kernel
theorem dX7_restore_4 : decode cX7_restore 4 = .ok (.ifCond .ne 6, 3) := by decide +kernel
theorem dX7_restore_7 : decode cX7_restore 7 = .ok (.bipush (-3), 2) := by decide +kernel
theorem dX7_restore_9 : decode cX7_restore 9 = .ok (.ireturn, 1) := by decide +kernel
theorem dX7_restore_10 : decode cX7_restore 10 = .ok (.aload_n 0, 1) := by decide +kernel
theorem dX7_restore_11 : decode cX7_restore 11 = .ok (.invokevirtual 49, 3) := by decide +kernel
theorem dX7_restore_14 : decode cX7_restore 14 = .ok (.iconst 0, 1) := by decide +kernel
theorem dX7_restore_15 : decode cX7_restore 15 = .ok (.istore_n 1, 1) := by decide +kernel
theorem dX7_restore_16 : decode cX7_restore 16 = .ok (.iload_n 1, 1) := by decide +kernel
theorem dX7_restore_17 : decode cX7_restore 17 = .ok (.sipush 894, 3) := by decide +kernel
theorem dX7_restore_20 : decode cX7_restore 20 = .ok (.if_icmp .ge 21, 3) := by decide +kernel
theorem dX7_restore_23 : decode cX7_restore 23 = .ok (.aload_n 0, 1) := by decide +kernel
theorem dX7_restore_24 : decode cX7_restore 24 = .ok (.getfield 7, 3) := by decide +kernel
theorem dX7_restore_27 : decode cX7_restore 27 = .ok (.iload_n 1, 1) := by decide +kernel
theorem dX7_restore_28 : decode cX7_restore 28 = .ok (.aload_n 0, 1) := by decide +kernel
theorem dX7_restore_29 : decode cX7_restore 29 = .ok (.getfield 16, 3) := by decide +kernel
theorem dX7_restore_32 : decode cX7_restore 32 = .ok (.iload_n 1, 1) := by decide +kernel
theorem dX7_restore_33 : decode cX7_restore 33 = .ok (.iaload, 1) := by decide +kernel
theorem dX7_restore_34 : decode cX7_restore 34 = .ok (.iastore, 1) := by decide +kernel
theorem dX7_restore_35 : decode cX7_restore 35 = .ok (.iinc 1 1, 3) := by decide +kernel
theorem dX7_restore_38 : decode cX7_restore 38 = .ok (.goto (-22), 3) := by decide +kernel
theorem dX7_restore_41 : decode cX7_restore 41 = .ok (.aload_n 0, 1) := by decide +kernel
theorem dX7_restore_42 : decode cX7_restore 42 = .ok (.getfield 7, 3) := by decide +kernel
theorem dX7_restore_45 : decode cX7_restore 45 = .ok (.iconst 0, 1) := by decide +kernel
theorem dX7_restore_46 : decode cX7_restore 46 = .ok (.iaload, 1) := by decide +kernel
theorem dX7_restore_47 : decode cX7_restore 47 = .ok (.ireturn, 1) := by decide +kernel
theorem dX7_at_0 : decode cX7_at 0 = .ok (.iload_n 1, 1) := by decide +kernel
theorem dX7_at_1 : decode cX7_at 1 = .ok (.bipush 9, 2) := by decide +kernel
theorem dX7_at_3 : decode cX7_at 3 = .ok (.if_icmp .ne 12, 3) := by decide +kernel
theorem dX7_at_6 : decode cX7_at 6 = .ok (.aload_n 0, 1) := by decide +kernel
theorem dX7_at_7 : decode cX7_at 7 = .ok (.getfield 7, 3) := by decide +kernel
theorem dX7_at_10 : decode cX7_at 10 = .ok (.iconst 0, 1) := by decide +kernel
theorem dX7_at_11 : decode cX7_at 11 = .ok (.iaload, 1) := by decide +kernel
theorem dX7_at_12 : decode cX7_at 12 = .ok (.goto 9, 3) := by decide +kernel
theorem dX7_at_15 : decode cX7_at 15 = .ok (.aload_n 0, 1) := by decide +kernel
theorem dX7_at_16 : decode cX7_at 16 = .ok (.iload_n 1, 1) := by decide +kernel
theorem dX7_at_17 : decode cX7_at 17 = .ok (.iconst 1, 1) := by decide +kernel
theorem dX7_at_18 : decode cX7_at 18 = .ok (.invokevirtual 30, 3) := by decide +kernel
theorem dX7_at_21 : decode cX7_at 21 = .ok (.ireturn, 1) := by decide +kernel
theorem dX7_addReplica_0 : decode cX7_addReplica 0 = .ok (.iload_n 2, 1) := by decide +kernel
theorem dX7_addReplica_1 : decode cX7_addReplica 1 = .ok (.bipush (-6), 2) := by decide +kernel
theorem dX7_addReplica_3 : decode cX7_addReplica 3 = .ok (.if_icmp .eq 13, 3) := by decide +kernel
theorem dX7_addReplica_6 : decode cX7_addReplica 6 = .ok (.aload_n 0, 1) := by decide +kernel
theorem dX7_addReplica_7 : decode cX7_addReplica 7 = .ok (.iload_n 2, 1) := by decide +kernel
theorem dX7_addReplica_8 : decode cX7_addReplica 8 = .ok (.invokevirtual 52, 3) := by decide +kernel
theorem dX7_addReplica_11 : decode cX7_addReplica 11 = .ok (.ifCond .ne 5, 3) := by decide +kernel
theorem dX7_addReplica_14 : decode cX7_addReplica 14 = .ok (.iconst (-1), 1) := by decide +kernel
theorem dX7_addReplica_15 : decode cX7_addReplica 15 = .ok (.ireturn, 1) := by decide +kernel
theorem dX7_addReplica_16 : decode cX7_addReplica 16 = .ok (.iload_n 1, 1) := by decide +kernel
theorem dX7_addReplica_17 : decode cX7_addReplica 17 = .ok (.iconst 0, 1) := by decide +kernel
theorem dX7_addReplica_18 : decode cX7_addReplica 18 = .ok (.bipush 9, 2) := by decide +kernel
theorem dX7_addReplica_20 : decode cX7_addReplica 20 = .ok (.invokestatic 26, 3) := by decide +kernel
theorem dX7_addReplica_23 : decode cX7_addReplica 23 = .ok (.ifCond .ne 6, 3) := by decide +kernel
theorem dX7_addReplica_26 : decode cX7_addReplica 26 = .ok (.bipush (-2), 2) := by decide +kernel
theorem dX7_addReplica_28 : decode cX7_addReplica 28 = .ok (.ireturn, 1) := by decide +kernel
theorem dX7_addReplica_29 : decode cX7_addReplica 29 = .ok (.iconst 0, 1) := by decide +kernel
theorem dX7_addReplica_30 : decode cX7_addReplica 30 = .ok (.istore_n 3, 1) := by decide +kernel
theorem dX7_addReplica_31 : decode cX7_addReplica 31 = .ok (.iload_n 3, 1) := by decide +kernel
theorem dX7_addReplica_32 : decode cX7_addReplica 32 = .ok (.iconst 5, 1) := by decide +kernel
theorem dX7_addReplica_33 : decode cX7_addReplica 33 = .ok (.if_icmp .ge 19, 3) := by decide +kernel
theorem dX7_addReplica_36 : decode cX7_addReplica 36 = .ok (.aload_n 0, 1) := by decide +kernel
theorem dX7_addReplica_37 : decode cX7_addReplica 37 = .ok (.iload_n 3, 1) := by decide +kernel
theorem dX7_addReplica_38 : decode cX7_addReplica 38 = .ok (.iconst 0, 1) := by decide +kernel
theorem dX7_addReplica_39 : decode cX7_addReplica 39 = .ok (.invokevirtual 30, 3) := by decide +kernel
theorem dX7_addReplica_42 : decode cX7_addReplica 42 = .ok (.iconst 1, 1) := by decide +kernel
theorem dX7_addReplica_43 : decode cX7_addReplica 43 = .ok (.if_icmp .ne 9, 3) := by decide +kernel
theorem dX7_addReplica_46 : decode cX7_addReplica 46 = .ok (.iinc 3 1, 3) := by decide +kernel
theorem dX7_addReplica_49 : decode cX7_addReplica 49 = .ok (.goto (-18), 3) := by decide +kernel
theorem dX7_addReplica_52 : decode cX7_addReplica 52 = .ok (.iload_n 3, 1) := by decide +kernel
theorem dX7_addReplica_53 : decode cX7_addReplica 53 = .ok (.iconst 5, 1) := by decide +kernel
theorem dX7_addReplica_54 : decode cX7_addReplica 54 = .ok (.if_icmp .ne 6, 3) := by decide +kernel
theorem dX7_addReplica_57 : decode cX7_addReplica 57 = .ok (.bipush (-4), 2) := by decide +kernel
theorem dX7_addReplica_59 : decode cX7_addReplica 59 = .ok (.ireturn, 1) := by decide +kernel
theorem dX7_addReplica_60 : decode cX7_addReplica 60 = .ok (.aload_n 0, 1) := by decide +kernel
theorem dX7_addReplica_61 : decode cX7_addReplica 61 = .ok (.invokevirtual 49, 3) := by decide +kernel
theorem dX7_addReplica_64 : decode cX7_addReplica 64 = .ok (.aload_n 0, 1) := by decide +kernel
theorem dX7_addReplica_65 : decode cX7_addReplica 65 = .ok (.iload_n 3, 1) := by decide +kernel
theorem dX7_addReplica_66 : decode cX7_addReplica 66 = .ok (.iconst 0, 1) := by decide +kernel
theorem dX7_addReplica_67 : decode cX7_addReplica 67 = .ok (.iconst 1, 1) := by decide +kernel
theorem dX7_addReplica_68 : decode cX7_addReplica 68 = .ok (.invokevirtual 55, 3) := by decide +kernel
theorem dX7_addReplica_71 : decode cX7_addReplica 71 = .ok (.aload_n 0, 1) := by decide +kernel
theorem dX7_addReplica_72 : decode cX7_addReplica 72 = .ok (.iload_n 3, 1) := by decide +kernel
theorem dX7_addReplica_73 : decode cX7_addReplica 73 = .ok (.iconst 1, 1) := by decide +kernel
theorem dX7_addReplica_74 : decode cX7_addReplica 74 = .ok (.iload_n 2, 1) := by decide +kernel
theorem dX7_addReplica_75 : decode cX7_addReplica 75 = .ok (.bipush (-6), 2) := by decide +kernel
theorem dX7_addReplica_77 : decode cX7_addReplica 77 = .ok (.if_icmp .ne 7, 3) := by decide +kernel
theorem dX7_addReplica_80 : decode cX7_addReplica 80 = .ok (.iconst 0, 1) := by decide +kernel
theorem dX7_addReplica_81 : decode cX7_addReplica 81 = .ok (.goto 8, 3) := by decide +kernel
theorem dX7_addReplica_84 : decode cX7_addReplica 84 = .ok (.aload_n 0, 1) := by decide +kernel
theorem dX7_addReplica_85 : decode cX7_addReplica 85 = .ok (.iload_n 2, 1) := by decide +kernel
theorem dX7_addReplica_86 : decode cX7_addReplica 86 = .ok (.invokevirtual 59, 3) := by decide +kernel
theorem dX7_addReplica_89 : decode cX7_addReplica 89 = .ok (.invokevirtual 55, 3) := by decide +kernel
theorem dX7_addReplica_92 : decode cX7_addReplica 92 = .ok (.aload_n 0, 1) := by decide +kernel
theorem dX7_addReplica_93 : decode cX7_addReplica 93 = .ok (.iload_n 3, 1) := by decide +kernel
theorem dX7_addReplica_94 : decode cX7_addReplica 94 = .ok (.iconst 2, 1) := by decide +kernel
theorem dX7_addReplica_95 : decode cX7_addReplica 95 = .ok (.iload_n 1, 1) := by decide +kernel
theorem dX7_addReplica_96 : decode cX7_addReplica 96 = .ok (.invokevirtual 55, 3) := by decide +kernel
theorem dX7_addReplica_99 : decode cX7_addReplica 99 = .ok (.aload_n 0, 1) := by decide +kernel
theorem dX7_addReplica_100 : decode cX7_addReplica 100 = .ok (.iload_n 3, 1) := by decide +kernel
theorem dX7_addReplica_101 : decode cX7_addReplica 101 = .ok (.iconst 3, 1) := by decide +kernel
theorem dX7_addReplica_102 : decode cX7_addReplica 102 = .ok (.iconst 0, 1) := by decide +kernel
theorem dX7_addReplica_103 : decode cX7_addReplica 103 = .ok (.invokevirtual 55, 3) := by decide +kernel
theorem dX7_addReplica_106 : decode cX7_addReplica 106 = .ok (.aload_n 0, 1) := by decide +kernel
theorem dX7_addReplica_107 : decode cX7_addReplica 107 = .ok (.iload_n 3, 1) := by decide +kernel
theorem dX7_addReplica_108 : decode cX7_addReplica 108 = .ok (.iconst 4, 1) := by decide +kernel
theorem dX7_addReplica_109 : decode cX7_addReplica 109 = .ok (.iconst 0, 1) := by decide +kernel
theorem dX7_addReplica_110 : decode cX7_addReplica 110 = .ok (.invokevirtual 55, 3) := by decide +kernel
theorem dX7_addReplica_113 : decode cX7_addReplica 113 = .ok (.iload_n 3, 1) := by decide +kernel
theorem dX7_addReplica_114 : decode cX7_addReplica 114 = .ok (.ireturn, 1) := by decide +kernel
theorem dX7_homes_0 : decode cX7_homes 0 = .ok (.iconst 0, 1) := by decide +kernel
theorem dX7_homes_1 : decode cX7_homes 1 = .ok (.istore_n 2, 1) := by decide +kernel
theorem dX7_homes_2 : decode cX7_homes 2 = .ok (.iconst 0, 1) := by decide +kernel
theorem dX7_homes_3 : decode cX7_homes 3 = .ok (.istore_n 3, 1) := by decide +kernel
theorem dX7_homes_4 : decode cX7_homes 4 = .ok (.iload_n 3, 1) := by decide +kernel
theorem dX7_homes_5 : decode cX7_homes 5 = .ok (.bipush 8, 2) := by decide +kernel
theorem dX7_homes_7 : decode cX7_homes 7 = .ok (.if_icmp .ge 37, 3) := by decide +kernel
theorem dX7_homes_10 : decode cX7_homes 10 = .ok (.iload_n 2, 1) := by decide +kernel
theorem dX7_homes_11 : decode cX7_homes 11 = .ok (.aload_n 0, 1) := by decide +kernel
theorem dX7_homes_12 : decode cX7_homes 12 = .ok (.iload_n 3, 1) := by decide +kernel
theorem dX7_homes_13 : decode cX7_homes 13 = .ok (.iconst 0, 1) := by decide +kernel
theorem dX7_homes_14 : decode cX7_homes 14 = .ok (.invokevirtual 38, 3) := by decide +kernel
theorem dX7_homes_17 : decode cX7_homes 17 = .ok (.iconst 1, 1) := by decide +kernel
theorem dX7_homes_18 : decode cX7_homes 18 = .ok (.if_icmp .ne 17, 3) := by decide +kernel
theorem dX7_homes_21 : decode cX7_homes 21 = .ok (.aload_n 0, 1) := by decide +kernel
theorem dX7_homes_22 : decode cX7_homes 22 = .ok (.iload_n 3, 1) := by decide +kernel
theorem dX7_homes_23 : decode cX7_homes 23 = .ok (.iconst 1, 1) := by decide +kernel
theorem dX7_homes_24 : decode cX7_homes 24 = .ok (.invokevirtual 38, 3) := by decide +kernel
theorem dX7_homes_27 : decode cX7_homes 27 = .ok (.iload_n 1, 1) := by decide +kernel
theorem dX7_homes_28 : decode cX7_homes 28 = .ok (.if_icmp .ne 7, 3) := by decide +kernel
theorem dX7_homes_31 : decode cX7_homes 31 = .ok (.iconst 1, 1) := by decide +kernel
theorem dX7_homes_32 : decode cX7_homes 32 = .ok (.goto 4, 3) := by decide +kernel
theorem dX7_homes_35 : decode cX7_homes 35 = .ok (.iconst 0, 1) := by decide +kernel
theorem dX7_homes_36 : decode cX7_homes 36 = .ok (.iadd, 1) := by decide +kernel
theorem dX7_homes_37 : decode cX7_homes 37 = .ok (.istore_n 2, 1) := by decide +kernel
theorem dX7_homes_38 : decode cX7_homes 38 = .ok (.iinc 3 1, 3) := by decide +kernel
theorem dX7_homes_41 : decode cX7_homes 41 = .ok (.goto (-37), 3) := by decide +kernel
theorem dX7_homes_44 : decode cX7_homes 44 = .ok (.iload_n 2, 1) := by decide +kernel
theorem dX7_homes_45 : decode cX7_homes 45 = .ok (.ireturn, 1) := by decide +kernel
theorem dX7_drop_0 : decode cX7_drop 0 = .ok (.aload_n 0, 1) := by decide +kernel
theorem dX7_drop_1 : decode cX7_drop 1 = .ok (.iload_n 1, 1) := by decide +kernel
theorem dX7_drop_2 : decode cX7_drop 2 = .ok (.invokevirtual 34, 3) := by decide +kernel
theorem dX7_drop_5 : decode cX7_drop 5 = .ok (.ifCond .ne 5, 3) := by decide +kernel
theorem dX7_drop_8 : decode cX7_drop 8 = .ok (.iconst (-1), 1) := by decide +kernel
theorem dX7_drop_9 : decode cX7_drop 9 = .ok (.ireturn, 1) := by decide +kernel
theorem dX7_drop_10 : decode cX7_drop 10 = .ok (.aload_n 0, 1) := by decide +kernel
theorem dX7_drop_11 : decode cX7_drop 11 = .ok (.invokevirtual 49, 3) := by decide +kernel
theorem dX7_drop_14 : decode cX7_drop 14 = .ok (.aload_n 0, 1) := by decide +kernel
theorem dX7_drop_15 : decode cX7_drop 15 = .ok (.iload_n 1, 1) := by decide +kernel
theorem dX7_drop_16 : decode cX7_drop 16 = .ok (.invokevirtual 63, 3) := by decide +kernel
theorem dX7_drop_19 : decode cX7_drop 19 = .ok (.istore_n 2, 1) := by decide +kernel
theorem dX7_drop_20 : decode cX7_drop 20 = .ok (.iconst 0, 1) := by decide +kernel
theorem dX7_drop_21 : decode cX7_drop 21 = .ok (.istore_n 3, 1) := by decide +kernel
theorem dX7_drop_22 : decode cX7_drop 22 = .ok (.iload_n 3, 1) := by decide +kernel
theorem dX7_drop_23 : decode cX7_drop 23 = .ok (.bipush 8, 2) := by decide +kernel
theorem dX7_drop_25 : decode cX7_drop 25 = .ok (.if_icmp .ge 46, 3) := by decide +kernel
theorem dX7_drop_28 : decode cX7_drop 28 = .ok (.aload_n 0, 1) := by decide +kernel
theorem dX7_drop_29 : decode cX7_drop 29 = .ok (.iload_n 3, 1) := by decide +kernel
theorem dX7_drop_30 : decode cX7_drop 30 = .ok (.iconst 1, 1) := by decide +kernel
theorem dX7_drop_31 : decode cX7_drop 31 = .ok (.aload_n 0, 1) := by decide +kernel
theorem dX7_drop_32 : decode cX7_drop 32 = .ok (.iload_n 3, 1) := by decide +kernel
theorem dX7_drop_33 : decode cX7_drop 33 = .ok (.iconst 0, 1) := by decide +kernel
theorem dX7_drop_34 : decode cX7_drop 34 = .ok (.invokevirtual 38, 3) := by decide +kernel
theorem dX7_drop_37 : decode cX7_drop 37 = .ok (.iconst 1, 1) := by decide +kernel
theorem dX7_drop_38 : decode cX7_drop 38 = .ok (.if_icmp .ne 18, 3) := by decide +kernel
theorem dX7_drop_41 : decode cX7_drop 41 = .ok (.aload_n 0, 1) := by decide +kernel
theorem dX7_drop_42 : decode cX7_drop 42 = .ok (.iload_n 3, 1) := by decide +kernel
theorem dX7_drop_43 : decode cX7_drop 43 = .ok (.iconst 1, 1) := by decide +kernel
theorem dX7_drop_44 : decode cX7_drop 44 = .ok (.invokevirtual 38, 3) := by decide +kernel
theorem dX7_drop_47 : decode cX7_drop 47 = .ok (.iload_n 1, 1) := by decide +kernel
theorem dX7_drop_48 : decode cX7_drop 48 = .ok (.if_icmp .ne 8, 3) := by decide +kernel
theorem dX7_drop_51 : decode cX7_drop 51 = .ok (.bipush 9, 2) := by decide +kernel
theorem dX7_drop_53 : decode cX7_drop 53 = .ok (.goto 9, 3) := by decide +kernel
theorem dX7_drop_56 : decode cX7_drop 56 = .ok (.aload_n 0, 1) := by decide +kernel
theorem dX7_drop_57 : decode cX7_drop 57 = .ok (.iload_n 3, 1) := by decide +kernel
theorem dX7_drop_58 : decode cX7_drop 58 = .ok (.iconst 1, 1) := by decide +kernel
theorem dX7_drop_59 : decode cX7_drop 59 = .ok (.invokevirtual 38, 3) := by decide +kernel
theorem dX7_drop_62 : decode cX7_drop 62 = .ok (.invokevirtual 66, 3) := by decide +kernel
theorem dX7_drop_65 : decode cX7_drop 65 = .ok (.iinc 3 1, 3) := by decide +kernel
theorem dX7_drop_68 : decode cX7_drop 68 = .ok (.goto (-46), 3) := by decide +kernel
theorem dX7_drop_71 : decode cX7_drop 71 = .ok (.aload_n 0, 1) := by decide +kernel
theorem dX7_drop_72 : decode cX7_drop 72 = .ok (.iload_n 1, 1) := by decide +kernel
theorem dX7_drop_73 : decode cX7_drop 73 = .ok (.iconst 0, 1) := by decide +kernel
theorem dX7_drop_74 : decode cX7_drop 74 = .ok (.iconst 0, 1) := by decide +kernel
theorem dX7_drop_75 : decode cX7_drop 75 = .ok (.invokevirtual 55, 3) := by decide +kernel
theorem dX7_drop_78 : decode cX7_drop 78 = .ok (.iload_n 2, 1) := by decide +kernel
theorem dX7_drop_79 : decode cX7_drop 79 = .ok (.ireturn, 1) := by decide +kernel
theorem dX7_setRate_0 : decode cX7_setRate 0 = .ok (.aload_n 0, 1) := by decide +kernel
theorem dX7_setRate_1 : decode cX7_setRate 1 = .ok (.iload_n 1, 1) := by decide +kernel
theorem dX7_setRate_2 : decode cX7_setRate 2 = .ok (.invokevirtual 34, 3) := by decide +kernel
theorem dX7_setRate_5 : decode cX7_setRate 5 = .ok (.ifCond .ne 5, 3) := by decide +kernel
theorem dX7_setRate_8 : decode cX7_setRate 8 = .ok (.iconst (-1), 1) := by decide +kernel
theorem dX7_setRate_9 : decode cX7_setRate 9 = .ok (.ireturn, 1) := by decide +kernel
theorem dX7_setRate_10 : decode cX7_setRate 10 = .ok (.iload_n 2, 1) := by decide +kernel
theorem dX7_setRate_11 : decode cX7_setRate 11 = .ok (.iconst 0, 1) := by decide +kernel
theorem dX7_setRate_12 : decode cX7_setRate 12 = .ok (.bipush 9, 2) := by decide +kernel
theorem dX7_setRate_14 : decode cX7_setRate 14 = .ok (.invokestatic 26, 3) := by decide +kernel
theorem dX7_setRate_17 : decode cX7_setRate 17 = .ok (.ifCond .ne 6, 3) := by decide +kernel
theorem dX7_setRate_20 : decode cX7_setRate 20 = .ok (.bipush (-2), 2) := by decide +kernel
theorem dX7_setRate_22 : decode cX7_setRate 22 = .ok (.ireturn, 1) := by decide +kernel
theorem dX7_setRate_23 : decode cX7_setRate 23 = .ok (.aload_n 0, 1) := by decide +kernel
theorem dX7_setRate_24 : decode cX7_setRate 24 = .ok (.invokevirtual 49, 3) := by decide +kernel
theorem dX7_setRate_27 : decode cX7_setRate 27 = .ok (.aload_n 0, 1) := by decide +kernel
theorem dX7_setRate_28 : decode cX7_setRate 28 = .ok (.iload_n 1, 1) := by decide +kernel
theorem dX7_setRate_29 : decode cX7_setRate 29 = .ok (.iconst 2, 1) := by decide +kernel
theorem dX7_setRate_30 : decode cX7_setRate 30 = .ok (.invokevirtual 30, 3) := by decide +kernel
theorem dX7_setRate_33 : decode cX7_setRate 33 = .ok (.istore_n 3, 1) := by decide +kernel
theorem dX7_setRate_34 : decode cX7_setRate 34 = .ok (.aload_n 0, 1) := by decide +kernel
theorem dX7_setRate_35 : decode cX7_setRate 35 = .ok (.iload_n 1, 1) := by decide +kernel
theorem dX7_setRate_36 : decode cX7_setRate 36 = .ok (.iconst 2, 1) := by decide +kernel
theorem dX7_setRate_37 : decode cX7_setRate 37 = .ok (.iload_n 2, 1) := by decide +kernel
theorem dX7_setRate_38 : decode cX7_setRate 38 = .ok (.invokevirtual 55, 3) := by decide +kernel
theorem dX7_setRate_41 : decode cX7_setRate 41 = .ok (.iload_n 3, 1) := by decide +kernel
theorem dX7_setRate_42 : decode cX7_setRate 42 = .ok (.ireturn, 1) := by decide +kernel
theorem dX7_stop_0 : decode cX7_stop 0 = .ok (.aload_n 0, 1) := by decide +kernel
theorem dX7_stop_1 : decode cX7_stop 1 = .ok (.iload_n 1, 1) := by decide +kernel
theorem dX7_stop_2 : decode cX7_stop 2 = .ok (.invokevirtual 34, 3) := by decide +kernel
theorem dX7_stop_5 : decode cX7_stop 5 = .ok (.ifCond .ne 5, 3) := by decide +kernel
theorem dX7_stop_8 : decode cX7_stop 8 = .ok (.iconst (-1), 1) := by decide +kernel
theorem dX7_stop_9 : decode cX7_stop 9 = .ok (.ireturn, 1) := by decide +kernel
theorem dX7_stop_10 : decode cX7_stop 10 = .ok (.aload_n 0, 1) := by decide +kernel
theorem dX7_stop_11 : decode cX7_stop 11 = .ok (.invokevirtual 49, 3) := by decide +kernel
theorem dX7_stop_14 : decode cX7_stop 14 = .ok (.aload_n 0, 1) := by decide +kernel
theorem dX7_stop_15 : decode cX7_stop 15 = .ok (.iload_n 1, 1) := by decide +kernel
theorem dX7_stop_16 : decode cX7_stop 16 = .ok (.iconst 3, 1) := by decide +kernel
theorem dX7_stop_17 : decode cX7_stop 17 = .ok (.invokevirtual 30, 3) := by decide +kernel
theorem dX7_stop_20 : decode cX7_stop 20 = .ok (.istore_n 3, 1) := by decide +kernel
theorem dX7_stop_21 : decode cX7_stop 21 = .ok (.aload_n 0, 1) := by decide +kernel
theorem dX7_stop_22 : decode cX7_stop 22 = .ok (.iload_n 1, 1) := by decide +kernel
theorem dX7_stop_23 : decode cX7_stop 23 = .ok (.iconst 3, 1) := by decide +kernel
theorem dX7_stop_24 : decode cX7_stop 24 = .ok (.iload_n 2, 1) := by decide +kernel
theorem dX7_stop_25 : decode cX7_stop 25 = .ok (.ifCond .eq 7, 3) := by decide +kernel
theorem dX7_stop_28 : decode cX7_stop 28 = .ok (.iconst 1, 1) := by decide +kernel
theorem dX7_stop_29 : decode cX7_stop 29 = .ok (.goto 4, 3) := by decide +kernel
theorem dX7_stop_32 : decode cX7_stop 32 = .ok (.iconst 0, 1) := by decide +kernel
theorem dX7_stop_33 : decode cX7_stop 33 = .ok (.invokevirtual 55, 3) := by decide +kernel
theorem dX7_stop_36 : decode cX7_stop 36 = .ok (.iload_n 3, 1) := by decide +kernel
theorem dX7_stop_37 : decode cX7_stop 37 = .ok (.ireturn, 1) := by decide +kernel
theorem dX7_whyNotJump_0 : decode cX7_whyNotJump 0 = .ok (.aload_n 0, 1) := by decide +kernel
theorem dX7_whyNotJump_1 : decode cX7_whyNotJump 1 = .ok (.iload_n 1, 1) := by decide +kernel
theorem dX7_whyNotJump_2 : decode cX7_whyNotJump 2 = .ok (.invokevirtual 34, 3) := by decide +kernel
theorem dX7_whyNotJump_5 : decode cX7_whyNotJump 5 = .ok (.ifCond .ne 7, 3) := by decide +kernel
theorem dX7_whyNotJump_8 : decode cX7_whyNotJump 8 = .ok (.iconst (-1), 1) := by decide +kernel
theorem dX7_whyNotJump_9 : decode cX7_whyNotJump 9 = .ok (.goto 23, 3) := by decide +kernel
theorem dX7_whyNotJump_12 : decode cX7_whyNotJump 12 = .ok (.iload_n 2, 1) := by decide +kernel
theorem dX7_whyNotJump_13 : decode cX7_whyNotJump 13 = .ok (.iconst 0, 1) := by decide +kernel
theorem dX7_whyNotJump_14 : decode cX7_whyNotJump 14 = .ok (.aload_n 0, 1) := by decide +kernel
theorem dX7_whyNotJump_15 : decode cX7_whyNotJump 15 = .ok (.iload_n 1, 1) := by decide +kernel
theorem dX7_whyNotJump_16 : decode cX7_whyNotJump 16 = .ok (.iconst 1, 1) := by decide +kernel
theorem dX7_whyNotJump_17 : decode cX7_whyNotJump 17 = .ok (.invokevirtual 30, 3) := by decide +kernel
theorem dX7_whyNotJump_20 : decode cX7_whyNotJump 20 = .ok (.invokestatic 26, 3) := by decide +kernel
theorem dX7_whyNotJump_23 : decode cX7_whyNotJump 23 = .ok (.ifCond .eq 7, 3) := by decide +kernel
theorem dX7_whyNotJump_26 : decode cX7_whyNotJump 26 = .ok (.iconst 0, 1) := by decide +kernel
theorem dX7_whyNotJump_27 : decode cX7_whyNotJump 27 = .ok (.goto 5, 3) := by decide +kernel
theorem dX7_whyNotJump_30 : decode cX7_whyNotJump 30 = .ok (.bipush (-2), 2) := by decide +kernel
theorem dX7_whyNotJump_32 : decode cX7_whyNotJump 32 = .ok (.ireturn, 1) := by decide +kernel
theorem dX7_jumps_0 : decode cX7_jumps 0 = .ok (.aload_n 0, 1) := by decide +kernel
theorem dX7_jumps_1 : decode cX7_jumps 1 = .ok (.iload_n 1, 1) := by decide +kernel
theorem dX7_jumps_2 : decode cX7_jumps 2 = .ok (.iconst 1, 1) := by decide +kernel
theorem dX7_jumps_3 : decode cX7_jumps 3 = .ok (.invokevirtual 30, 3) := by decide +kernel
theorem dX7_jumps_6 : decode cX7_jumps 6 = .ok (.istore_n 3, 1) := by decide +kernel
theorem dX7_jumps_7 : decode cX7_jumps 7 = .ok (.aload_n 0, 1) := by decide +kernel
theorem dX7_jumps_8 : decode cX7_jumps 8 = .ok (.iload_n 1, 1) := by decide +kernel
theorem dX7_jumps_9 : decode cX7_jumps 9 = .ok (.iconst 1, 1) := by decide +kernel
theorem dX7_jumps_10 : decode cX7_jumps 10 = .ok (.iload_n 2, 1) := by decide +kernel
theorem dX7_jumps_11 : decode cX7_jumps 11 = .ok (.invokevirtual 55, 3) := by decide +kernel
theorem dX7_jumps_14 : decode cX7_jumps 14 = .ok (.iload_n 3, 1) := by decide +kernel
theorem dX7_jumps_15 : decode cX7_jumps 15 = .ok (.ireturn, 1) := by decide +kernel
theorem dX7_jumpBack_0 : decode cX7_jumpBack 0 = .ok (.aload_n 0, 1) := by decide +kernel
theorem dX7_jumpBack_1 : decode cX7_jumpBack 1 = .ok (.iload_n 1, 1) := by decide +kernel
theorem dX7_jumpBack_2 : decode cX7_jumpBack 2 = .ok (.iload_n 2, 1) := by decide +kernel
theorem dX7_jumpBack_3 : decode cX7_jumpBack 3 = .ok (.invokevirtual 69, 3) := by decide +kernel
theorem dX7_jumpBack_6 : decode cX7_jumpBack 6 = .ok (.istore_n 3, 1) := by decide +kernel
theorem dX7_jumpBack_7 : decode cX7_jumpBack 7 = .ok (.iload_n 3, 1) := by decide +kernel
theorem dX7_jumpBack_8 : decode cX7_jumpBack 8 = .ok (.ifCond .ge 5, 3) := by decide +kernel
theorem dX7_jumpBack_11 : decode cX7_jumpBack 11 = .ok (.iload_n 3, 1) := by decide +kernel
theorem dX7_jumpBack_12 : decode cX7_jumpBack 12 = .ok (.ireturn, 1) := by decide +kernel
theorem dX7_jumpBack_13 : decode cX7_jumpBack 13 = .ok (.aload_n 0, 1) := by decide +kernel
theorem dX7_jumpBack_14 : decode cX7_jumpBack 14 = .ok (.invokevirtual 49, 3) := by decide +kernel
theorem dX7_jumpBack_17 : decode cX7_jumpBack 17 = .ok (.aload_n 0, 1) := by decide +kernel
theorem dX7_jumpBack_18 : decode cX7_jumpBack 18 = .ok (.iload_n 1, 1) := by decide +kernel
theorem dX7_jumpBack_19 : decode cX7_jumpBack 19 = .ok (.iload_n 2, 1) := by decide +kernel
theorem dX7_jumpBack_20 : decode cX7_jumpBack 20 = .ok (.invokevirtual 72, 3) := by decide +kernel
theorem dX7_jumpBack_23 : decode cX7_jumpBack 23 = .ok (.ireturn, 1) := by decide +kernel
theorem dX7_atBehind_0 : decode cX7_atBehind 0 = .ok (.iload_n 1, 1) := by decide +kernel
theorem dX7_atBehind_1 : decode cX7_atBehind 1 = .ok (.bipush 9, 2) := by decide +kernel
theorem dX7_atBehind_3 : decode cX7_atBehind 3 = .ok (.if_icmp .ne 10, 3) := by decide +kernel
theorem dX7_atBehind_6 : decode cX7_atBehind 6 = .ok (.aload_n 0, 1) := by decide +kernel
theorem dX7_atBehind_7 : decode cX7_atBehind 7 = .ok (.getfield 7, 3) := by decide +kernel
theorem dX7_atBehind_10 : decode cX7_atBehind 10 = .ok (.iconst 0, 1) := by decide +kernel
theorem dX7_atBehind_11 : decode cX7_atBehind 11 = .ok (.iaload, 1) := by decide +kernel
theorem dX7_atBehind_12 : decode cX7_atBehind 12 = .ok (.ireturn, 1) := by decide +kernel
theorem dX7_atBehind_13 : decode cX7_atBehind 13 = .ok (.aload_n 0, 1) := by decide +kernel
theorem dX7_atBehind_14 : decode cX7_atBehind 14 = .ok (.iload_n 1, 1) := by decide +kernel
theorem dX7_atBehind_15 : decode cX7_atBehind 15 = .ok (.iconst 1, 1) := by decide +kernel
theorem dX7_atBehind_16 : decode cX7_atBehind 16 = .ok (.invokevirtual 30, 3) := by decide +kernel
theorem dX7_atBehind_19 : decode cX7_atBehind 19 = .ok (.aload_n 0, 1) := by decide +kernel
theorem dX7_atBehind_20 : decode cX7_atBehind 20 = .ok (.iload_n 1, 1) := by decide +kernel
theorem dX7_atBehind_21 : decode cX7_atBehind 21 = .ok (.iconst 3, 1) := by decide +kernel
theorem dX7_atBehind_22 : decode cX7_atBehind 22 = .ok (.invokevirtual 30, 3) := by decide +kernel
theorem dX7_atBehind_25 : decode cX7_atBehind 25 = .ok (.iconst 1, 1) := by decide +kernel
theorem dX7_atBehind_26 : decode cX7_atBehind 26 = .ok (.if_icmp .ne 7, 3) := by decide +kernel
theorem dX7_atBehind_29 : decode cX7_atBehind 29 = .ok (.iconst 0, 1) := by decide +kernel
theorem dX7_atBehind_30 : decode cX7_atBehind 30 = .ok (.goto 11, 3) := by decide +kernel
theorem dX7_atBehind_33 : decode cX7_atBehind 33 = .ok (.aload_n 0, 1) := by decide +kernel
theorem dX7_atBehind_34 : decode cX7_atBehind 34 = .ok (.iload_n 1, 1) := by decide +kernel
theorem dX7_atBehind_35 : decode cX7_atBehind 35 = .ok (.iconst 2, 1) := by decide +kernel
theorem dX7_atBehind_36 : decode cX7_atBehind 36 = .ok (.invokevirtual 30, 3) := by decide +kernel
theorem dX7_atBehind_39 : decode cX7_atBehind 39 = .ok (.iload_n 2, 1) := by decide +kernel
theorem dX7_atBehind_40 : decode cX7_atBehind 40 = .ok (.imul, 1) := by decide +kernel
theorem dX7_atBehind_41 : decode cX7_atBehind 41 = .ok (.iadd, 1) := by decide +kernel
theorem dX7_atBehind_42 : decode cX7_atBehind 42 = .ok (.istore_n 3, 1) := by decide +kernel
theorem dX7_atBehind_43 : decode cX7_atBehind 43 = .ok (.iload_n 3, 1) := by decide +kernel
theorem dX7_atBehind_44 : decode cX7_atBehind 44 = .ok (.aload_n 0, 1) := by decide +kernel
theorem dX7_atBehind_45 : decode cX7_atBehind 45 = .ok (.getfield 7, 3) := by decide +kernel
theorem dX7_atBehind_48 : decode cX7_atBehind 48 = .ok (.iconst 0, 1) := by decide +kernel
theorem dX7_atBehind_49 : decode cX7_atBehind 49 = .ok (.iaload, 1) := by decide +kernel
theorem dX7_atBehind_50 : decode cX7_atBehind 50 = .ok (.if_icmp .le 12, 3) := by decide +kernel
theorem dX7_atBehind_53 : decode cX7_atBehind 53 = .ok (.aload_n 0, 1) := by decide +kernel
theorem dX7_atBehind_54 : decode cX7_atBehind 54 = .ok (.getfield 7, 3) := by decide +kernel
theorem dX7_atBehind_57 : decode cX7_atBehind 57 = .ok (.iconst 0, 1) := by decide +kernel
theorem dX7_atBehind_58 : decode cX7_atBehind 58 = .ok (.iaload, 1) := by decide +kernel
theorem dX7_atBehind_59 : decode cX7_atBehind 59 = .ok (.goto 4, 3) := by decide +kernel
theorem dX7_atBehind_62 : decode cX7_atBehind 62 = .ok (.iload_n 3, 1) := by decide +kernel
theorem dX7_atBehind_63 : decode cX7_atBehind 63 = .ok (.ireturn, 1) := by decide +kernel
theorem dX7_ticks_0 : decode cX7_ticks 0 = .ok (.iconst 0, 1) := by decide +kernel
theorem dX7_ticks_1 : decode cX7_ticks 1 = .ok (.istore_n 2, 1) := by decide +kernel
theorem dX7_ticks_2 : decode cX7_ticks 2 = .ok (.iload_n 2, 1) := by decide +kernel
theorem dX7_ticks_3 : decode cX7_ticks 3 = .ok (.iconst 5, 1) := by decide +kernel
theorem dX7_ticks_4 : decode cX7_ticks 4 = .ok (.if_icmp .ge 31, 3) := by decide +kernel
theorem dX7_ticks_7 : decode cX7_ticks 7 = .ok (.aload_n 0, 1) := by decide +kernel
theorem dX7_ticks_8 : decode cX7_ticks 8 = .ok (.iload_n 2, 1) := by decide +kernel
theorem dX7_ticks_9 : decode cX7_ticks 9 = .ok (.iconst 0, 1) := by decide +kernel
theorem dX7_ticks_10 : decode cX7_ticks 10 = .ok (.invokevirtual 30, 3) := by decide +kernel
theorem dX7_ticks_13 : decode cX7_ticks 13 = .ok (.iconst 1, 1) := by decide +kernel
theorem dX7_ticks_14 : decode cX7_ticks 14 = .ok (.if_icmp .ne 15, 3) := by decide +kernel
theorem dX7_ticks_17 : decode cX7_ticks 17 = .ok (.aload_n 0, 1) := by decide +kernel
theorem dX7_ticks_18 : decode cX7_ticks 18 = .ok (.iload_n 2, 1) := by decide +kernel
theorem dX7_ticks_19 : decode cX7_ticks 19 = .ok (.iconst 1, 1) := by decide +kernel
theorem dX7_ticks_20 : decode cX7_ticks 20 = .ok (.aload_n 0, 1) := by decide +kernel
theorem dX7_ticks_21 : decode cX7_ticks 21 = .ok (.iload_n 2, 1) := by decide +kernel
theorem dX7_ticks_22 : decode cX7_ticks 22 = .ok (.iload_n 1, 1) := by decide +kernel
theorem dX7_ticks_23 : decode cX7_ticks 23 = .ok (.invokevirtual 75, 3) := by decide +kernel
theorem dX7_ticks_26 : decode cX7_ticks 26 = .ok (.invokevirtual 55, 3) := by decide +kernel
theorem dX7_ticks_29 : decode cX7_ticks 29 = .ok (.iinc 2 1, 3) := by decide +kernel
theorem dX7_ticks_32 : decode cX7_ticks 32 = .ok (.goto (-30), 3) := by decide +kernel
theorem dX7_ticks_35 : decode cX7_ticks 35 = .ok (.return_, 1) := by decide +kernel
theorem dX7_tick_0 : decode cX7_tick 0 = .ok (.iload_n 1, 1) := by decide +kernel
theorem dX7_tick_1 : decode cX7_tick 1 = .ok (.iconst 1, 1) := by decide +kernel
theorem dX7_tick_2 : decode cX7_tick 2 = .ok (.bipush 99, 2) := by decide +kernel
theorem dX7_tick_4 : decode cX7_tick 4 = .ok (.invokestatic 26, 3) := by decide +kernel
theorem dX7_tick_7 : decode cX7_tick 7 = .ok (.ifCond .ne 6, 3) := by decide +kernel
theorem dX7_tick_10 : decode cX7_tick 10 = .ok (.bipush (-2), 2) := by decide +kernel
theorem dX7_tick_12 : decode cX7_tick 12 = .ok (.ireturn, 1) := by decide +kernel
theorem dX7_tick_13 : decode cX7_tick 13 = .ok (.aload_n 0, 1) := by decide +kernel
theorem dX7_tick_14 : decode cX7_tick 14 = .ok (.invokevirtual 49, 3) := by decide +kernel
theorem dX7_tick_17 : decode cX7_tick 17 = .ok (.aload_n 0, 1) := by decide +kernel
theorem dX7_tick_18 : decode cX7_tick 18 = .ok (.iload_n 1, 1) := by decide +kernel
theorem dX7_tick_19 : decode cX7_tick 19 = .ok (.invokevirtual 78, 3) := by decide +kernel
theorem dX7_tick_22 : decode cX7_tick 22 = .ok (.iconst 0, 1) := by decide +kernel
theorem dX7_tick_23 : decode cX7_tick 23 = .ok (.istore_n 2, 1) := by decide +kernel
theorem dX7_tick_24 : decode cX7_tick 24 = .ok (.iconst 0, 1) := by decide +kernel
theorem dX7_tick_25 : decode cX7_tick 25 = .ok (.istore_n 3, 1) := by decide +kernel
theorem dX7_tick_26 : decode cX7_tick 26 = .ok (.iload_n 3, 1) := by decide +kernel
theorem dX7_tick_27 : decode cX7_tick 27 = .ok (.iconst 5, 1) := by decide +kernel
theorem dX7_tick_28 : decode cX7_tick 28 = .ok (.if_icmp .ge 42, 3) := by decide +kernel
theorem dX7_tick_31 : decode cX7_tick 31 = .ok (.iload_n 2, 1) := by decide +kernel
theorem dX7_tick_32 : decode cX7_tick 32 = .ok (.aload_n 0, 1) := by decide +kernel
theorem dX7_tick_33 : decode cX7_tick 33 = .ok (.iload_n 3, 1) := by decide +kernel
theorem dX7_tick_34 : decode cX7_tick 34 = .ok (.iconst 0, 1) := by decide +kernel
theorem dX7_tick_35 : decode cX7_tick 35 = .ok (.invokevirtual 30, 3) := by decide +kernel
theorem dX7_tick_38 : decode cX7_tick 38 = .ok (.iconst 1, 1) := by decide +kernel
theorem dX7_tick_39 : decode cX7_tick 39 = .ok (.if_icmp .ne 22, 3) := by decide +kernel
theorem dX7_tick_42 : decode cX7_tick 42 = .ok (.aload_n 0, 1) := by decide +kernel
theorem dX7_tick_43 : decode cX7_tick 43 = .ok (.iload_n 3, 1) := by decide +kernel
theorem dX7_tick_44 : decode cX7_tick 44 = .ok (.iconst 1, 1) := by decide +kernel
theorem dX7_tick_45 : decode cX7_tick 45 = .ok (.invokevirtual 30, 3) := by decide +kernel
theorem dX7_tick_48 : decode cX7_tick 48 = .ok (.aload_n 0, 1) := by decide +kernel
theorem dX7_tick_49 : decode cX7_tick 49 = .ok (.getfield 7, 3) := by decide +kernel
theorem dX7_tick_52 : decode cX7_tick 52 = .ok (.iconst 0, 1) := by decide +kernel
theorem dX7_tick_53 : decode cX7_tick 53 = .ok (.iaload, 1) := by decide +kernel
theorem dX7_tick_54 : decode cX7_tick 54 = .ok (.if_icmp .ne 7, 3) := by decide +kernel
theorem dX7_tick_57 : decode cX7_tick 57 = .ok (.iconst 1, 1) := by decide +kernel
theorem dX7_tick_58 : decode cX7_tick 58 = .ok (.goto 4, 3) := by decide +kernel
theorem dX7_tick_61 : decode cX7_tick 61 = .ok (.iconst 0, 1) := by decide +kernel
theorem dX7_tick_62 : decode cX7_tick 62 = .ok (.iadd, 1) := by decide +kernel
theorem dX7_tick_63 : decode cX7_tick 63 = .ok (.istore_n 2, 1) := by decide +kernel
theorem dX7_tick_64 : decode cX7_tick 64 = .ok (.iinc 3 1, 3) := by decide +kernel
theorem dX7_tick_67 : decode cX7_tick 67 = .ok (.goto (-41), 3) := by decide +kernel
theorem dX7_tick_70 : decode cX7_tick 70 = .ok (.iload_n 2, 1) := by decide +kernel
theorem dX7_tick_71 : decode cX7_tick 71 = .ok (.ireturn, 1) := by decide +kernel
theorem dX7_replicas_0 : decode cX7_replicas 0 = .ok (.iconst 0, 1) := by decide +kernel
theorem dX7_replicas_1 : decode cX7_replicas 1 = .ok (.istore_n 1, 1) := by decide +kernel
theorem dX7_replicas_2 : decode cX7_replicas 2 = .ok (.iconst 0, 1) := by decide +kernel
theorem dX7_replicas_3 : decode cX7_replicas 3 = .ok (.istore_n 2, 1) := by decide +kernel
theorem dX7_replicas_4 : decode cX7_replicas 4 = .ok (.iload_n 2, 1) := by decide +kernel
theorem dX7_replicas_5 : decode cX7_replicas 5 = .ok (.iconst 5, 1) := by decide +kernel
theorem dX7_replicas_6 : decode cX7_replicas 6 = .ok (.if_icmp .ge 20, 3) := by decide +kernel
theorem dX7_replicas_9 : decode cX7_replicas 9 = .ok (.iload_n 1, 1) := by decide +kernel
theorem dX7_replicas_10 : decode cX7_replicas 10 = .ok (.aload_n 0, 1) := by decide +kernel
theorem dX7_replicas_11 : decode cX7_replicas 11 = .ok (.iload_n 2, 1) := by decide +kernel
theorem dX7_replicas_12 : decode cX7_replicas 12 = .ok (.iconst 0, 1) := by decide +kernel
theorem dX7_replicas_13 : decode cX7_replicas 13 = .ok (.invokevirtual 30, 3) := by decide +kernel
theorem dX7_replicas_16 : decode cX7_replicas 16 = .ok (.iload_n 2, 1) := by decide +kernel
theorem dX7_replicas_17 : decode cX7_replicas 17 = .ok (.ishl, 1) := by decide +kernel
theorem dX7_replicas_18 : decode cX7_replicas 18 = .ok (.ior, 1) := by decide +kernel
theorem dX7_replicas_19 : decode cX7_replicas 19 = .ok (.istore_n 1, 1) := by decide +kernel
theorem dX7_replicas_20 : decode cX7_replicas 20 = .ok (.iinc 2 1, 3) := by decide +kernel
theorem dX7_replicas_23 : decode cX7_replicas 23 = .ok (.goto (-19), 3) := by decide +kernel
theorem dX7_replicas_26 : decode cX7_replicas 26 = .ok (.iload_n 1, 1) := by decide +kernel
theorem dX7_replicas_27 : decode cX7_replicas 27 = .ok (.ireturn, 1) := by decide +kernel
theorem dX7_replica_0 : decode cX7_replica 0 = .ok (.aload_n 0, 1) := by decide +kernel
theorem dX7_replica_1 : decode cX7_replica 1 = .ok (.iload_n 1, 1) := by decide +kernel
theorem dX7_replica_2 : decode cX7_replica 2 = .ok (.invokevirtual 34, 3) := by decide +kernel
theorem dX7_replica_5 : decode cX7_replica 5 = .ok (.ifCond .ne 5, 3) := by decide +kernel
theorem dX7_replica_8 : decode cX7_replica 8 = .ok (.iconst (-1), 1) := by decide +kernel
theorem dX7_replica_9 : decode cX7_replica 9 = .ok (.ireturn, 1) := by decide +kernel
theorem dX7_replica_10 : decode cX7_replica 10 = .ok (.iload_n 2, 1) := by decide +kernel
theorem dX7_replica_11 : decode cX7_replica 11 = .ok (.tableswitch 45 0 2 #[25, 32, 39], 25) := by decide +kernel
theorem dX7_replica_36 : decode cX7_replica 36 = .ok (.aload_n 0, 1) := by decide +kernel
theorem dX7_replica_37 : decode cX7_replica 37 = .ok (.iload_n 1, 1) := by decide +kernel
theorem dX7_replica_38 : decode cX7_replica 38 = .ok (.iconst 2, 1) := by decide +kernel
theorem dX7_replica_39 : decode cX7_replica 39 = .ok (.invokevirtual 30, 3) := by decide +kernel
theorem dX7_replica_42 : decode cX7_replica 42 = .ok (.ireturn, 1) := by decide +kernel
theorem dX7_replica_43 : decode cX7_replica 43 = .ok (.aload_n 0, 1) := by decide +kernel
theorem dX7_replica_44 : decode cX7_replica 44 = .ok (.iload_n 1, 1) := by decide +kernel
theorem dX7_replica_45 : decode cX7_replica 45 = .ok (.iconst 3, 1) := by decide +kernel
theorem dX7_replica_46 : decode cX7_replica 46 = .ok (.invokevirtual 30, 3) := by decide +kernel
theorem dX7_replica_49 : decode cX7_replica 49 = .ok (.ireturn, 1) := by decide +kernel
theorem dX7_replica_50 : decode cX7_replica 50 = .ok (.aload_n 0, 1) := by decide +kernel
theorem dX7_replica_51 : decode cX7_replica 51 = .ok (.iload_n 1, 1) := by decide +kernel
theorem dX7_replica_52 : decode cX7_replica 52 = .ok (.invokevirtual 63, 3) := by decide +kernel
theorem dX7_replica_55 : decode cX7_replica 55 = .ok (.ireturn, 1) := by decide +kernel
theorem dX7_replica_56 : decode cX7_replica 56 = .ok (.bipush (-2), 2) := by decide +kernel
theorem dX7_replica_58 : decode cX7_replica 58 = .ok (.ireturn, 1) := by decide +kernel
theorem dX7_length_0 : decode cX7_length 0 = .ok (.aload_n 0, 1) := by decide +kernel
theorem dX7_length_1 : decode cX7_length 1 = .ok (.getfield 7, 3) := by decide +kernel
theorem dX7_length_4 : decode cX7_length 4 = .ok (.iconst 0, 1) := by decide +kernel
theorem dX7_length_5 : decode cX7_length 5 = .ok (.iaload, 1) := by decide +kernel
theorem dX7_length_6 : decode cX7_length 6 = .ok (.ireturn, 1) := by decide +kernel
theorem dX7_ofWrite_0 : decode cX7_ofWrite 0 = .ok (.aload_n 0, 1) := by decide +kernel
theorem dX7_ofWrite_1 : decode cX7_ofWrite 1 = .ok (.getfield 7, 3) := by decide +kernel
theorem dX7_ofWrite_4 : decode cX7_ofWrite 4 = .ok (.sipush 294, 3) := by decide +kernel
theorem dX7_ofWrite_7 : decode cX7_ofWrite 7 = .ok (.iconst 3, 1) := by decide +kernel
theorem dX7_ofWrite_8 : decode cX7_ofWrite 8 = .ok (.iload_n 1, 1) := by decide +kernel
theorem dX7_ofWrite_9 : decode cX7_ofWrite 9 = .ok (.iconst 1, 1) := by decide +kernel
theorem dX7_ofWrite_10 : decode cX7_ofWrite 10 = .ok (.isub, 1) := by decide +kernel
theorem dX7_ofWrite_11 : decode cX7_ofWrite 11 = .ok (.imul, 1) := by decide +kernel
theorem dX7_ofWrite_12 : decode cX7_ofWrite 12 = .ok (.iadd, 1) := by decide +kernel
theorem dX7_ofWrite_13 : decode cX7_ofWrite 13 = .ok (.iload_n 2, 1) := by decide +kernel
theorem dX7_ofWrite_14 : decode cX7_ofWrite 14 = .ok (.iadd, 1) := by decide +kernel
theorem dX7_ofWrite_15 : decode cX7_ofWrite 15 = .ok (.iaload, 1) := by decide +kernel
theorem dX7_ofWrite_16 : decode cX7_ofWrite 16 = .ok (.ireturn, 1) := by decide +kernel
theorem dX7_logged_0 : decode cX7_logged 0 = .ok (.iload_n 1, 1) := by decide +kernel
theorem dX7_logged_1 : decode cX7_logged 1 = .ok (.iconst 1, 1) := by decide +kernel
theorem dX7_logged_2 : decode cX7_logged 2 = .ok (.aload_n 0, 1) := by decide +kernel
theorem dX7_logged_3 : decode cX7_logged 3 = .ok (.getfield 7, 3) := by decide +kernel
theorem dX7_logged_6 : decode cX7_logged 6 = .ok (.iconst 0, 1) := by decide +kernel
theorem dX7_logged_7 : decode cX7_logged 7 = .ok (.iaload, 1) := by decide +kernel
theorem dX7_logged_8 : decode cX7_logged 8 = .ok (.invokestatic 26, 3) := by decide +kernel
theorem dX7_logged_11 : decode cX7_logged 11 = .ok (.ifCond .ne 5, 3) := by decide +kernel
theorem dX7_logged_14 : decode cX7_logged 14 = .ok (.iconst (-1), 1) := by decide +kernel
theorem dX7_logged_15 : decode cX7_logged 15 = .ok (.ireturn, 1) := by decide +kernel
theorem dX7_logged_16 : decode cX7_logged 16 = .ok (.iload_n 2, 1) := by decide +kernel
theorem dX7_logged_17 : decode cX7_logged 17 = .ok (.iconst 0, 1) := by decide +kernel
theorem dX7_logged_18 : decode cX7_logged 18 = .ok (.iconst 2, 1) := by decide +kernel
theorem dX7_logged_19 : decode cX7_logged 19 = .ok (.invokestatic 26, 3) := by decide +kernel
theorem dX7_logged_22 : decode cX7_logged 22 = .ok (.ifCond .eq 12, 3) := by decide +kernel
theorem dX7_logged_25 : decode cX7_logged 25 = .ok (.aload_n 0, 1) := by decide +kernel
theorem dX7_logged_26 : decode cX7_logged 26 = .ok (.iload_n 1, 1) := by decide +kernel
theorem dX7_logged_27 : decode cX7_logged 27 = .ok (.iload_n 2, 1) := by decide +kernel
theorem dX7_logged_28 : decode cX7_logged 28 = .ok (.invokevirtual 82, 3) := by decide +kernel
theorem dX7_logged_31 : decode cX7_logged 31 = .ok (.goto 5, 3) := by decide +kernel
theorem dX7_logged_34 : decode cX7_logged 34 = .ok (.bipush (-2), 2) := by decide +kernel
theorem dX7_logged_36 : decode cX7_logged 36 = .ok (.ireturn, 1) := by decide +kernel
theorem dX7_position_0 : decode cX7_position 0 = .ok (.aload_n 0, 1) := by decide +kernel
theorem dX7_position_1 : decode cX7_position 1 = .ok (.iload_n 1, 1) := by decide +kernel
theorem dX7_position_2 : decode cX7_position 2 = .ok (.invokevirtual 52, 3) := by decide +kernel
theorem dX7_position_5 : decode cX7_position 5 = .ok (.ifCond .eq 11, 3) := by decide +kernel
theorem dX7_position_8 : decode cX7_position 8 = .ok (.aload_n 0, 1) := by decide +kernel
theorem dX7_position_9 : decode cX7_position 9 = .ok (.iload_n 1, 1) := by decide +kernel
theorem dX7_position_10 : decode cX7_position 10 = .ok (.invokevirtual 59, 3) := by decide +kernel
theorem dX7_position_13 : decode cX7_position 13 = .ok (.goto 4, 3) := by decide +kernel
theorem dX7_position_16 : decode cX7_position 16 = .ok (.iconst (-1), 1) := by decide +kernel
theorem dX7_position_17 : decode cX7_position 17 = .ok (.ireturn, 1) := by decide +kernel
theorem dX7_versionAt_0 : decode cX7_versionAt 0 = .ok (.iload_n 1, 1) := by decide +kernel
theorem dX7_versionAt_1 : decode cX7_versionAt 1 = .ok (.istore_n 3, 1) := by decide +kernel
theorem dX7_versionAt_2 : decode cX7_versionAt 2 = .ok (.iload_n 3, 1) := by decide +kernel
theorem dX7_versionAt_3 : decode cX7_versionAt 3 = .ok (.ifCond .le 19, 3) := by decide +kernel
theorem dX7_versionAt_6 : decode cX7_versionAt 6 = .ok (.aload_n 0, 1) := by decide +kernel
theorem dX7_versionAt_7 : decode cX7_versionAt 7 = .ok (.iload_n 3, 1) := by decide +kernel
theorem dX7_versionAt_8 : decode cX7_versionAt 8 = .ok (.iconst 0, 1) := by decide +kernel
theorem dX7_versionAt_9 : decode cX7_versionAt 9 = .ok (.invokevirtual 82, 3) := by decide +kernel
theorem dX7_versionAt_12 : decode cX7_versionAt 12 = .ok (.iload_n 2, 1) := by decide +kernel
theorem dX7_versionAt_13 : decode cX7_versionAt 13 = .ok (.if_icmp .eq 9, 3) := by decide +kernel
theorem dX7_versionAt_16 : decode cX7_versionAt 16 = .ok (.iinc 3 (-1), 3) := by decide +kernel
theorem dX7_versionAt_19 : decode cX7_versionAt 19 = .ok (.goto (-17), 3) := by decide +kernel
theorem dX7_versionAt_22 : decode cX7_versionAt 22 = .ok (.iload_n 3, 1) := by decide +kernel
theorem dX7_versionAt_23 : decode cX7_versionAt 23 = .ok (.ireturn, 1) := by decide +kernel
theorem dX7_version_0 : decode cX7_version 0 = .ok (.aload_n 0, 1) := by decide +kernel
theorem dX7_version_1 : decode cX7_version 1 = .ok (.iload_n 1, 1) := by decide +kernel
theorem dX7_version_2 : decode cX7_version 2 = .ok (.invokevirtual 52, 3) := by decide +kernel
theorem dX7_version_5 : decode cX7_version 5 = .ok (.ifCond .eq 23, 3) := by decide +kernel
theorem dX7_version_8 : decode cX7_version 8 = .ok (.iload_n 2, 1) := by decide +kernel
theorem dX7_version_9 : decode cX7_version 9 = .ok (.invokestatic 85, 3) := by decide +kernel
theorem dX7_version_12 : decode cX7_version 12 = .ok (.ifCond .eq 16, 3) := by decide +kernel
theorem dX7_version_15 : decode cX7_version 15 = .ok (.aload_n 0, 1) := by decide +kernel
theorem dX7_version_16 : decode cX7_version 16 = .ok (.aload_n 0, 1) := by decide +kernel
theorem dX7_version_17 : decode cX7_version 17 = .ok (.iload_n 1, 1) := by decide +kernel
theorem dX7_version_18 : decode cX7_version 18 = .ok (.invokevirtual 59, 3) := by decide +kernel
theorem dX7_version_21 : decode cX7_version 21 = .ok (.iload_n 2, 1) := by decide +kernel
theorem dX7_version_22 : decode cX7_version 22 = .ok (.invokevirtual 88, 3) := by decide +kernel
theorem dX7_version_25 : decode cX7_version 25 = .ok (.goto 4, 3) := by decide +kernel
theorem dX7_version_28 : decode cX7_version 28 = .ok (.iconst (-1), 1) := by decide +kernel
theorem dX7_version_29 : decode cX7_version 29 = .ok (.ireturn, 1) := by decide +kernel
theorem dX7_valueOf_0 : decode cX7_valueOf 0 = .ok (.iload_n 1, 1) := by decide +kernel
theorem dX7_valueOf_1 : decode cX7_valueOf 1 = .ok (.ifCond .ne 8, 3) := by decide +kernel
theorem dX7_valueOf_4 : decode cX7_valueOf 4 = .ok (.bipush (-6), 2) := by decide +kernel
theorem dX7_valueOf_6 : decode cX7_valueOf 6 = .ok (.goto 9, 3) := by decide +kernel
theorem dX7_valueOf_9 : decode cX7_valueOf 9 = .ok (.aload_n 0, 1) := by decide +kernel
theorem dX7_valueOf_10 : decode cX7_valueOf 10 = .ok (.iload_n 1, 1) := by decide +kernel
theorem dX7_valueOf_11 : decode cX7_valueOf 11 = .ok (.iconst 1, 1) := by decide +kernel
theorem dX7_valueOf_12 : decode cX7_valueOf 12 = .ok (.invokevirtual 82, 3) := by decide +kernel
theorem dX7_valueOf_15 : decode cX7_valueOf 15 = .ok (.ireturn, 1) := by decide +kernel
theorem dX7_value_0 : decode cX7_value 0 = .ok (.aload_n 0, 1) := by decide +kernel
theorem dX7_value_1 : decode cX7_value 1 = .ok (.iload_n 1, 1) := by decide +kernel
theorem dX7_value_2 : decode cX7_value 2 = .ok (.invokevirtual 52, 3) := by decide +kernel
theorem dX7_value_5 : decode cX7_value 5 = .ok (.ifCond .eq 27, 3) := by decide +kernel
theorem dX7_value_8 : decode cX7_value 8 = .ok (.iload_n 2, 1) := by decide +kernel
theorem dX7_value_9 : decode cX7_value 9 = .ok (.invokestatic 85, 3) := by decide +kernel
theorem dX7_value_12 : decode cX7_value 12 = .ok (.ifCond .eq 20, 3) := by decide +kernel
theorem dX7_value_15 : decode cX7_value 15 = .ok (.aload_n 0, 1) := by decide +kernel
theorem dX7_value_16 : decode cX7_value 16 = .ok (.aload_n 0, 1) := by decide +kernel
theorem dX7_value_17 : decode cX7_value 17 = .ok (.aload_n 0, 1) := by decide +kernel
theorem dX7_value_18 : decode cX7_value 18 = .ok (.iload_n 1, 1) := by decide +kernel
theorem dX7_value_19 : decode cX7_value 19 = .ok (.invokevirtual 59, 3) := by decide +kernel
theorem dX7_value_22 : decode cX7_value 22 = .ok (.iload_n 2, 1) := by decide +kernel
theorem dX7_value_23 : decode cX7_value 23 = .ok (.invokevirtual 88, 3) := by decide +kernel
theorem dX7_value_26 : decode cX7_value 26 = .ok (.invokevirtual 91, 3) := by decide +kernel
theorem dX7_value_29 : decode cX7_value 29 = .ok (.goto 4, 3) := by decide +kernel
theorem dX7_value_32 : decode cX7_value 32 = .ok (.iconst (-1), 1) := by decide +kernel
theorem dX7_value_33 : decode cX7_value 33 = .ok (.ireturn, 1) := by decide +kernel
theorem dX7_missing_0 : decode cX7_missing 0 = .ok (.aload_n 0, 1) := by decide +kernel
theorem dX7_missing_1 : decode cX7_missing 1 = .ok (.iload_n 1, 1) := by decide +kernel
theorem dX7_missing_2 : decode cX7_missing 2 = .ok (.invokevirtual 52, 3) := by decide +kernel
theorem dX7_missing_5 : decode cX7_missing 5 = .ok (.ifCond .eq 10, 3) := by decide +kernel
theorem dX7_missing_8 : decode cX7_missing 8 = .ok (.iload_n 2, 1) := by decide +kernel
theorem dX7_missing_9 : decode cX7_missing 9 = .ok (.invokestatic 85, 3) := by decide +kernel
theorem dX7_missing_12 : decode cX7_missing 12 = .ok (.ifCond .ne 5, 3) := by decide +kernel
theorem dX7_missing_15 : decode cX7_missing 15 = .ok (.iconst (-1), 1) := by decide +kernel
theorem dX7_missing_16 : decode cX7_missing 16 = .ok (.ireturn, 1) := by decide +kernel
theorem dX7_missing_17 : decode cX7_missing 17 = .ok (.iconst 0, 1) := by decide +kernel
theorem dX7_missing_18 : decode cX7_missing 18 = .ok (.istore_n 3, 1) := by decide +kernel
theorem dX7_missing_19 : decode cX7_missing 19 = .ok (.aload_n 0, 1) := by decide +kernel
theorem dX7_missing_20 : decode cX7_missing 20 = .ok (.iload_n 1, 1) := by decide +kernel
theorem dX7_missing_21 : decode cX7_missing 21 = .ok (.invokevirtual 59, 3) := by decide +kernel
theorem dX7_missing_24 : decode cX7_missing 24 = .ok (.iconst 1, 1) := by decide +kernel
theorem dX7_missing_25 : decode cX7_missing 25 = .ok (.iadd, 1) := by decide +kernel
theorem dX7_missing_26 : decode cX7_missing 26 = .ok (.istore 4, 2) := by decide +kernel
theorem dX7_missing_28 : decode cX7_missing 28 = .ok (.iload 4, 2) := by decide +kernel
theorem dX7_missing_30 : decode cX7_missing 30 = .ok (.aload_n 0, 1) := by decide +kernel
theorem dX7_missing_31 : decode cX7_missing 31 = .ok (.getfield 7, 3) := by decide +kernel
theorem dX7_missing_34 : decode cX7_missing 34 = .ok (.iconst 0, 1) := by decide +kernel
theorem dX7_missing_35 : decode cX7_missing 35 = .ok (.iaload, 1) := by decide +kernel
theorem dX7_missing_36 : decode cX7_missing 36 = .ok (.if_icmp .gt 28, 3) := by decide +kernel
theorem dX7_missing_39 : decode cX7_missing 39 = .ok (.iload_n 3, 1) := by decide +kernel
theorem dX7_missing_40 : decode cX7_missing 40 = .ok (.aload_n 0, 1) := by decide +kernel
theorem dX7_missing_41 : decode cX7_missing 41 = .ok (.iload 4, 2) := by decide +kernel
theorem dX7_missing_43 : decode cX7_missing 43 = .ok (.iconst 0, 1) := by decide +kernel
theorem dX7_missing_44 : decode cX7_missing 44 = .ok (.invokevirtual 82, 3) := by decide +kernel
theorem dX7_missing_47 : decode cX7_missing 47 = .ok (.iload_n 2, 1) := by decide +kernel
theorem dX7_missing_48 : decode cX7_missing 48 = .ok (.if_icmp .ne 7, 3) := by decide +kernel
theorem dX7_missing_51 : decode cX7_missing 51 = .ok (.iconst 1, 1) := by decide +kernel
theorem dX7_missing_52 : decode cX7_missing 52 = .ok (.goto 4, 3) := by decide +kernel
theorem dX7_missing_55 : decode cX7_missing 55 = .ok (.iconst 0, 1) := by decide +kernel
theorem dX7_missing_56 : decode cX7_missing 56 = .ok (.iadd, 1) := by decide +kernel
theorem dX7_missing_57 : decode cX7_missing 57 = .ok (.istore_n 3, 1) := by decide +kernel
theorem dX7_missing_58 : decode cX7_missing 58 = .ok (.iinc 4 1, 3) := by decide +kernel
theorem dX7_missing_61 : decode cX7_missing 61 = .ok (.goto (-33), 3) := by decide +kernel
theorem dX7_missing_64 : decode cX7_missing 64 = .ok (.iload_n 3, 1) := by decide +kernel
theorem dX7_missing_65 : decode cX7_missing 65 = .ok (.ireturn, 1) := by decide +kernel
theorem dX7_answers_0 : decode cX7_answers 0 = .ok (.aload_n 0, 1) := by decide +kernel
theorem dX7_answers_1 : decode cX7_answers 1 = .ok (.iload_n 1, 1) := by decide +kernel
theorem dX7_answers_2 : decode cX7_answers 2 = .ok (.invokevirtual 52, 3) := by decide +kernel
theorem dX7_answers_5 : decode cX7_answers 5 = .ok (.ifCond .ne 7, 3) := by decide +kernel
theorem dX7_answers_8 : decode cX7_answers 8 = .ok (.iconst (-1), 1) := by decide +kernel
theorem dX7_answers_9 : decode cX7_answers 9 = .ok (.goto 24, 3) := by decide +kernel
theorem dX7_answers_12 : decode cX7_answers 12 = .ok (.iload_n 1, 1) := by decide +kernel
theorem dX7_answers_13 : decode cX7_answers 13 = .ok (.bipush 9, 2) := by decide +kernel
theorem dX7_answers_15 : decode cX7_answers 15 = .ok (.if_icmp .ne 12, 3) := by decide +kernel
theorem dX7_answers_18 : decode cX7_answers 18 = .ok (.aload_n 0, 1) := by decide +kernel
theorem dX7_answers_19 : decode cX7_answers 19 = .ok (.getfield 7, 3) := by decide +kernel
theorem dX7_answers_22 : decode cX7_answers 22 = .ok (.iconst 4, 1) := by decide +kernel
theorem dX7_answers_23 : decode cX7_answers 23 = .ok (.iaload, 1) := by decide +kernel
theorem dX7_answers_24 : decode cX7_answers 24 = .ok (.goto 9, 3) := by decide +kernel
theorem dX7_answers_27 : decode cX7_answers 27 = .ok (.aload_n 0, 1) := by decide +kernel
theorem dX7_answers_28 : decode cX7_answers 28 = .ok (.iload_n 1, 1) := by decide +kernel
theorem dX7_answers_29 : decode cX7_answers 29 = .ok (.iconst 4, 1) := by decide +kernel
theorem dX7_answers_30 : decode cX7_answers 30 = .ok (.invokevirtual 30, 3) := by decide +kernel
theorem dX7_answers_33 : decode cX7_answers 33 = .ok (.ireturn, 1) := by decide +kernel
theorem dX7_open_0 : decode cX7_open 0 = .ok (.aload_n 0, 1) := by decide +kernel
theorem dX7_open_1 : decode cX7_open 1 = .ok (.iload_n 1, 1) := by decide +kernel
theorem dX7_open_2 : decode cX7_open 2 = .ok (.invokevirtual 52, 3) := by decide +kernel
theorem dX7_open_5 : decode cX7_open 5 = .ok (.ifCond .ne 5, 3) := by decide +kernel
theorem dX7_open_8 : decode cX7_open 8 = .ok (.iconst (-1), 1) := by decide +kernel
theorem dX7_open_9 : decode cX7_open 9 = .ok (.ireturn, 1) := by decide +kernel
theorem dX7_open_10 : decode cX7_open 10 = .ok (.iload_n 2, 1) := by decide +kernel
theorem dX7_open_11 : decode cX7_open 11 = .ok (.iconst 0, 1) := by decide +kernel
theorem dX7_open_12 : decode cX7_open 12 = .ok (.bipush 15, 2) := by decide +kernel
theorem dX7_open_14 : decode cX7_open 14 = .ok (.invokestatic 26, 3) := by decide +kernel
theorem dX7_open_17 : decode cX7_open 17 = .ok (.ifCond .eq 13, 3) := by decide +kernel
theorem dX7_open_20 : decode cX7_open 20 = .ok (.iload_n 3, 1) := by decide +kernel
theorem dX7_open_21 : decode cX7_open 21 = .ok (.iconst 0, 1) := by decide +kernel
theorem dX7_open_22 : decode cX7_open 22 = .ok (.bipush 20, 2) := by decide +kernel
theorem dX7_open_24 : decode cX7_open 24 = .ok (.invokestatic 26, 3) := by decide +kernel
theorem dX7_open_27 : decode cX7_open 27 = .ok (.ifCond .ne 6, 3) := by decide +kernel
theorem dX7_open_30 : decode cX7_open 30 = .ok (.bipush (-2), 2) := by decide +kernel
theorem dX7_open_32 : decode cX7_open 32 = .ok (.ireturn, 1) := by decide +kernel
theorem dX7_open_33 : decode cX7_open 33 = .ok (.iconst 0, 1) := by decide +kernel
theorem dX7_open_34 : decode cX7_open 34 = .ok (.istore 4, 2) := by decide +kernel
theorem dX7_open_36 : decode cX7_open 36 = .ok (.iload 4, 2) := by decide +kernel
theorem dX7_open_38 : decode cX7_open 38 = .ok (.bipush 8, 2) := by decide +kernel
theorem dX7_open_40 : decode cX7_open 40 = .ok (.if_icmp .ge 20, 3) := by decide +kernel
theorem dX7_open_43 : decode cX7_open 43 = .ok (.aload_n 0, 1) := by decide +kernel
theorem dX7_open_44 : decode cX7_open 44 = .ok (.iload 4, 2) := by decide +kernel
theorem dX7_open_46 : decode cX7_open 46 = .ok (.iconst 0, 1) := by decide +kernel
theorem dX7_open_47 : decode cX7_open 47 = .ok (.invokevirtual 38, 3) := by decide +kernel
theorem dX7_open_50 : decode cX7_open 50 = .ok (.iconst 1, 1) := by decide +kernel
theorem dX7_open_51 : decode cX7_open 51 = .ok (.if_icmp .ne 9, 3) := by decide +kernel
theorem dX7_open_54 : decode cX7_open 54 = .ok (.iinc 4 1, 3) := by decide +kernel
theorem dX7_open_57 : decode cX7_open 57 = .ok (.goto (-21), 3) := by decide +kernel
theorem dX7_open_60 : decode cX7_open 60 = .ok (.iload 4, 2) := by decide +kernel
theorem dX7_open_62 : decode cX7_open 62 = .ok (.bipush 8, 2) := by decide +kernel
theorem dX7_open_64 : decode cX7_open 64 = .ok (.if_icmp .ne 6, 3) := by decide +kernel
theorem dX7_open_67 : decode cX7_open 67 = .ok (.bipush (-4), 2) := by decide +kernel
theorem dX7_open_69 : decode cX7_open 69 = .ok (.ireturn, 1) := by decide +kernel
theorem dX7_open_70 : decode cX7_open 70 = .ok (.aload_n 0, 1) := by decide +kernel
theorem dX7_open_71 : decode cX7_open 71 = .ok (.invokevirtual 49, 3) := by decide +kernel
theorem dX7_open_74 : decode cX7_open 74 = .ok (.iconst 0, 1) := by decide +kernel
theorem dX7_open_75 : decode cX7_open 75 = .ok (.istore 5, 2) := by decide +kernel
theorem dX7_open_77 : decode cX7_open 77 = .ok (.iload 5, 2) := by decide +kernel
theorem dX7_open_79 : decode cX7_open 79 = .ok (.bipush 33, 2) := by decide +kernel
theorem dX7_open_81 : decode cX7_open 81 = .ok (.if_icmp .ge 18, 3) := by decide +kernel
theorem dX7_open_84 : decode cX7_open 84 = .ok (.aload_n 0, 1) := by decide +kernel
theorem dX7_open_85 : decode cX7_open 85 = .ok (.iload 4, 2) := by decide +kernel
theorem dX7_open_87 : decode cX7_open 87 = .ok (.iload 5, 2) := by decide +kernel
theorem dX7_open_89 : decode cX7_open 89 = .ok (.iconst 0, 1) := by decide +kernel
theorem dX7_open_90 : decode cX7_open 90 = .ok (.invokevirtual 66, 3) := by decide +kernel
theorem dX7_open_93 : decode cX7_open 93 = .ok (.iinc 5 1, 3) := by decide +kernel
theorem dX7_open_96 : decode cX7_open 96 = .ok (.goto (-19), 3) := by decide +kernel
theorem dX7_open_99 : decode cX7_open 99 = .ok (.aload_n 0, 1) := by decide +kernel
theorem dX7_open_100 : decode cX7_open 100 = .ok (.iload 4, 2) := by decide +kernel
theorem dX7_open_102 : decode cX7_open 102 = .ok (.iconst 0, 1) := by decide +kernel
theorem dX7_open_103 : decode cX7_open 103 = .ok (.iconst 1, 1) := by decide +kernel
theorem dX7_open_104 : decode cX7_open 104 = .ok (.invokevirtual 66, 3) := by decide +kernel
theorem dX7_open_107 : decode cX7_open 107 = .ok (.aload_n 0, 1) := by decide +kernel
theorem dX7_open_108 : decode cX7_open 108 = .ok (.iload 4, 2) := by decide +kernel
theorem dX7_open_110 : decode cX7_open 110 = .ok (.iconst 1, 1) := by decide +kernel
theorem dX7_open_111 : decode cX7_open 111 = .ok (.iload_n 1, 1) := by decide +kernel
theorem dX7_open_112 : decode cX7_open 112 = .ok (.invokevirtual 66, 3) := by decide +kernel
theorem dX7_open_115 : decode cX7_open 115 = .ok (.aload_n 0, 1) := by decide +kernel
theorem dX7_open_116 : decode cX7_open 116 = .ok (.iload 4, 2) := by decide +kernel
theorem dX7_open_118 : decode cX7_open 118 = .ok (.iconst 2, 1) := by decide +kernel
theorem dX7_open_119 : decode cX7_open 119 = .ok (.iload_n 2, 1) := by decide +kernel
theorem dX7_open_120 : decode cX7_open 120 = .ok (.invokevirtual 66, 3) := by decide +kernel
theorem dX7_open_123 : decode cX7_open 123 = .ok (.aload_n 0, 1) := by decide +kernel
theorem dX7_open_124 : decode cX7_open 124 = .ok (.iload 4, 2) := by decide +kernel
theorem dX7_open_126 : decode cX7_open 126 = .ok (.iconst 3, 1) := by decide +kernel
theorem dX7_open_127 : decode cX7_open 127 = .ok (.iload_n 3, 1) := by decide +kernel
theorem dX7_open_128 : decode cX7_open 128 = .ok (.invokevirtual 66, 3) := by decide +kernel
theorem dX7_open_131 : decode cX7_open 131 = .ok (.iload 4, 2) := by decide +kernel
theorem dX7_open_133 : decode cX7_open 133 = .ok (.ireturn, 1) := by decide +kernel
theorem dX7_close_0 : decode cX7_close 0 = .ok (.aload_n 0, 1) := by decide +kernel
theorem dX7_close_1 : decode cX7_close 1 = .ok (.iload_n 1, 1) := by decide +kernel
theorem dX7_close_2 : decode cX7_close 2 = .ok (.invokevirtual 94, 3) := by decide +kernel
theorem dX7_close_5 : decode cX7_close 5 = .ok (.ifCond .ne 5, 3) := by decide +kernel
theorem dX7_close_8 : decode cX7_close 8 = .ok (.iconst (-1), 1) := by decide +kernel
theorem dX7_close_9 : decode cX7_close 9 = .ok (.ireturn, 1) := by decide +kernel
theorem dX7_close_10 : decode cX7_close 10 = .ok (.aload_n 0, 1) := by decide +kernel
theorem dX7_close_11 : decode cX7_close 11 = .ok (.invokevirtual 49, 3) := by decide +kernel
theorem dX7_close_14 : decode cX7_close 14 = .ok (.aload_n 0, 1) := by decide +kernel
theorem dX7_close_15 : decode cX7_close 15 = .ok (.iload_n 1, 1) := by decide +kernel
theorem dX7_close_16 : decode cX7_close 16 = .ok (.iconst 0, 1) := by decide +kernel
theorem dX7_close_17 : decode cX7_close 17 = .ok (.iconst 0, 1) := by decide +kernel
theorem dX7_close_18 : decode cX7_close 18 = .ok (.invokevirtual 66, 3) := by decide +kernel
theorem dX7_close_21 : decode cX7_close 21 = .ok (.aload_n 0, 1) := by decide +kernel
theorem dX7_close_22 : decode cX7_close 22 = .ok (.iload_n 1, 1) := by decide +kernel
theorem dX7_close_23 : decode cX7_close 23 = .ok (.iconst 5, 1) := by decide +kernel
theorem dX7_close_24 : decode cX7_close 24 = .ok (.invokevirtual 38, 3) := by decide +kernel
theorem dX7_close_27 : decode cX7_close 27 = .ok (.ireturn, 1) := by decide +kernel
theorem dX7_moves_0 : decode cX7_moves 0 = .ok (.aload_n 0, 1) := by decide +kernel
theorem dX7_moves_1 : decode cX7_moves 1 = .ok (.iload_n 1, 1) := by decide +kernel
theorem dX7_moves_2 : decode cX7_moves 2 = .ok (.iconst 1, 1) := by decide +kernel
theorem dX7_moves_3 : decode cX7_moves 3 = .ok (.invokevirtual 38, 3) := by decide +kernel
theorem dX7_moves_6 : decode cX7_moves 6 = .ok (.istore_n 3, 1) := by decide +kernel
theorem dX7_moves_7 : decode cX7_moves 7 = .ok (.aload_n 0, 1) := by decide +kernel
theorem dX7_moves_8 : decode cX7_moves 8 = .ok (.iload_n 1, 1) := by decide +kernel
theorem dX7_moves_9 : decode cX7_moves 9 = .ok (.iconst 1, 1) := by decide +kernel
theorem dX7_moves_10 : decode cX7_moves 10 = .ok (.iload_n 2, 1) := by decide +kernel
theorem dX7_moves_11 : decode cX7_moves 11 = .ok (.invokevirtual 66, 3) := by decide +kernel
theorem dX7_moves_14 : decode cX7_moves 14 = .ok (.iload_n 3, 1) := by decide +kernel
theorem dX7_moves_15 : decode cX7_moves 15 = .ok (.ireturn, 1) := by decide +kernel
theorem dX7_move_0 : decode cX7_move 0 = .ok (.aload_n 0, 1) := by decide +kernel
theorem dX7_move_1 : decode cX7_move 1 = .ok (.iload_n 1, 1) := by decide +kernel
theorem dX7_move_2 : decode cX7_move 2 = .ok (.invokevirtual 94, 3) := by decide +kernel
theorem dX7_move_5 : decode cX7_move 5 = .ok (.ifCond .eq 11, 3) := by decide +kernel
theorem dX7_move_8 : decode cX7_move 8 = .ok (.aload_n 0, 1) := by decide +kernel
theorem dX7_move_9 : decode cX7_move 9 = .ok (.iload_n 2, 1) := by decide +kernel
theorem dX7_move_10 : decode cX7_move 10 = .ok (.invokevirtual 52, 3) := by decide +kernel
theorem dX7_move_13 : decode cX7_move 13 = .ok (.ifCond .ne 5, 3) := by decide +kernel
theorem dX7_move_16 : decode cX7_move 16 = .ok (.iconst (-1), 1) := by decide +kernel
theorem dX7_move_17 : decode cX7_move 17 = .ok (.ireturn, 1) := by decide +kernel
theorem dX7_move_18 : decode cX7_move 18 = .ok (.aload_n 0, 1) := by decide +kernel
theorem dX7_move_19 : decode cX7_move 19 = .ok (.invokevirtual 49, 3) := by decide +kernel
theorem dX7_move_22 : decode cX7_move 22 = .ok (.aload_n 0, 1) := by decide +kernel
theorem dX7_move_23 : decode cX7_move 23 = .ok (.iload_n 1, 1) := by decide +kernel
theorem dX7_move_24 : decode cX7_move 24 = .ok (.iload_n 2, 1) := by decide +kernel
theorem dX7_move_25 : decode cX7_move 25 = .ok (.invokevirtual 97, 3) := by decide +kernel
theorem dX7_move_28 : decode cX7_move 28 = .ok (.ireturn, 1) := by decide +kernel
theorem dX7_change_0 : decode cX7_change 0 = .ok (.aload_n 0, 1) := by decide +kernel
theorem dX7_change_1 : decode cX7_change 1 = .ok (.iload_n 1, 1) := by decide +kernel
theorem dX7_change_2 : decode cX7_change 2 = .ok (.invokevirtual 94, 3) := by decide +kernel
theorem dX7_change_5 : decode cX7_change 5 = .ok (.ifCond .ne 5, 3) := by decide +kernel
theorem dX7_change_8 : decode cX7_change 8 = .ok (.iconst (-1), 1) := by decide +kernel
theorem dX7_change_9 : decode cX7_change 9 = .ok (.ireturn, 1) := by decide +kernel
theorem dX7_change_10 : decode cX7_change 10 = .ok (.iload_n 2, 1) := by decide +kernel
theorem dX7_change_11 : decode cX7_change 11 = .ok (.iconst 0, 1) := by decide +kernel
theorem dX7_change_12 : decode cX7_change 12 = .ok (.bipush 15, 2) := by decide +kernel
theorem dX7_change_14 : decode cX7_change 14 = .ok (.invokestatic 26, 3) := by decide +kernel
theorem dX7_change_17 : decode cX7_change 17 = .ok (.ifCond .eq 13, 3) := by decide +kernel
theorem dX7_change_20 : decode cX7_change 20 = .ok (.iload_n 3, 1) := by decide +kernel
theorem dX7_change_21 : decode cX7_change 21 = .ok (.iconst 0, 1) := by decide +kernel
theorem dX7_change_22 : decode cX7_change 22 = .ok (.bipush 20, 2) := by decide +kernel
theorem dX7_change_24 : decode cX7_change 24 = .ok (.invokestatic 26, 3) := by decide +kernel
theorem dX7_change_27 : decode cX7_change 27 = .ok (.ifCond .ne 6, 3) := by decide +kernel
theorem dX7_change_30 : decode cX7_change 30 = .ok (.bipush (-2), 2) := by decide +kernel
theorem dX7_change_32 : decode cX7_change 32 = .ok (.ireturn, 1) := by decide +kernel
theorem dX7_change_33 : decode cX7_change 33 = .ok (.aload_n 0, 1) := by decide +kernel
theorem dX7_change_34 : decode cX7_change 34 = .ok (.invokevirtual 49, 3) := by decide +kernel
theorem dX7_change_37 : decode cX7_change 37 = .ok (.aload_n 0, 1) := by decide +kernel
theorem dX7_change_38 : decode cX7_change 38 = .ok (.iload_n 1, 1) := by decide +kernel
theorem dX7_change_39 : decode cX7_change 39 = .ok (.iconst 2, 1) := by decide +kernel
theorem dX7_change_40 : decode cX7_change 40 = .ok (.invokevirtual 38, 3) := by decide +kernel
theorem dX7_change_43 : decode cX7_change 43 = .ok (.istore 4, 2) := by decide +kernel
theorem dX7_change_45 : decode cX7_change 45 = .ok (.aload_n 0, 1) := by decide +kernel
theorem dX7_change_46 : decode cX7_change 46 = .ok (.iload_n 1, 1) := by decide +kernel
theorem dX7_change_47 : decode cX7_change 47 = .ok (.iconst 2, 1) := by decide +kernel
theorem dX7_change_48 : decode cX7_change 48 = .ok (.iload_n 2, 1) := by decide +kernel
theorem dX7_change_49 : decode cX7_change 49 = .ok (.invokevirtual 66, 3) := by decide +kernel
theorem dX7_change_52 : decode cX7_change 52 = .ok (.aload_n 0, 1) := by decide +kernel
theorem dX7_change_53 : decode cX7_change 53 = .ok (.iload_n 1, 1) := by decide +kernel
theorem dX7_change_54 : decode cX7_change 54 = .ok (.iconst 3, 1) := by decide +kernel
theorem dX7_change_55 : decode cX7_change 55 = .ok (.iload_n 3, 1) := by decide +kernel
theorem dX7_change_56 : decode cX7_change 56 = .ok (.invokevirtual 66, 3) := by decide +kernel
theorem dX7_change_59 : decode cX7_change 59 = .ok (.iload 4, 2) := by decide +kernel
theorem dX7_change_61 : decode cX7_change 61 = .ok (.ireturn, 1) := by decide +kernel
theorem dX7_more_0 : decode cX7_more 0 = .ok (.iload_n 0, 1) := by decide +kernel
theorem dX7_more_1 : decode cX7_more 1 = .ok (.iload_n 1, 1) := by decide +kernel
theorem dX7_more_2 : decode cX7_more 2 = .ok (.if_icmp .le 7, 3) := by decide +kernel
theorem dX7_more_5 : decode cX7_more 5 = .ok (.iload_n 0, 1) := by decide +kernel
theorem dX7_more_6 : decode cX7_more 6 = .ok (.goto 4, 3) := by decide +kernel
theorem dX7_more_9 : decode cX7_more 9 = .ok (.iload_n 1, 1) := by decide +kernel
theorem dX7_more_10 : decode cX7_more 10 = .ok (.ireturn, 1) := by decide +kernel
theorem dX7_whyNotHand_0 : decode cX7_whyNotHand 0 = .ok (.aload_n 0, 1) := by decide +kernel
theorem dX7_whyNotHand_1 : decode cX7_whyNotHand 1 = .ok (.iload_n 1, 1) := by decide +kernel
theorem dX7_whyNotHand_2 : decode cX7_whyNotHand 2 = .ok (.invokevirtual 94, 3) := by decide +kernel
theorem dX7_whyNotHand_5 : decode cX7_whyNotHand 5 = .ok (.ifCond .eq 11, 3) := by decide +kernel
theorem dX7_whyNotHand_8 : decode cX7_whyNotHand 8 = .ok (.aload_n 0, 1) := by decide +kernel
theorem dX7_whyNotHand_9 : decode cX7_whyNotHand 9 = .ok (.iload_n 2, 1) := by decide +kernel
theorem dX7_whyNotHand_10 : decode cX7_whyNotHand 10 = .ok (.invokevirtual 94, 3) := by decide +kernel
theorem dX7_whyNotHand_13 : decode cX7_whyNotHand 13 = .ok (.ifCond .ne 7, 3) := by decide +kernel
theorem dX7_whyNotHand_16 : decode cX7_whyNotHand 16 = .ok (.iconst (-1), 1) := by decide +kernel
theorem dX7_whyNotHand_17 : decode cX7_whyNotHand 17 = .ok (.goto 14, 3) := by decide +kernel
theorem dX7_whyNotHand_20 : decode cX7_whyNotHand 20 = .ok (.iload_n 1, 1) := by decide +kernel
theorem dX7_whyNotHand_21 : decode cX7_whyNotHand 21 = .ok (.iload_n 2, 1) := by decide +kernel
theorem dX7_whyNotHand_22 : decode cX7_whyNotHand 22 = .ok (.if_icmp .ne 8, 3) := by decide +kernel
theorem dX7_whyNotHand_25 : decode cX7_whyNotHand 25 = .ok (.bipush (-2), 2) := by decide +kernel
theorem dX7_whyNotHand_27 : decode cX7_whyNotHand 27 = .ok (.goto 4, 3) := by decide +kernel
theorem dX7_whyNotHand_30 : decode cX7_whyNotHand 30 = .ok (.iconst 0, 1) := by decide +kernel
theorem dX7_whyNotHand_31 : decode cX7_whyNotHand 31 = .ok (.ireturn, 1) := by decide +kernel
theorem dX7_hands_0 : decode cX7_hands 0 = .ok (.aload_n 0, 1) := by decide +kernel
theorem dX7_hands_1 : decode cX7_hands 1 = .ok (.iload_n 2, 1) := by decide +kernel
theorem dX7_hands_2 : decode cX7_hands 2 = .ok (.iconst 5, 1) := by decide +kernel
theorem dX7_hands_3 : decode cX7_hands 3 = .ok (.aload_n 0, 1) := by decide +kernel
theorem dX7_hands_4 : decode cX7_hands 4 = .ok (.iload_n 2, 1) := by decide +kernel
theorem dX7_hands_5 : decode cX7_hands 5 = .ok (.iconst 5, 1) := by decide +kernel
theorem dX7_hands_6 : decode cX7_hands 6 = .ok (.invokevirtual 38, 3) := by decide +kernel
theorem dX7_hands_9 : decode cX7_hands 9 = .ok (.aload_n 0, 1) := by decide +kernel
theorem dX7_hands_10 : decode cX7_hands 10 = .ok (.iload_n 1, 1) := by decide +kernel
theorem dX7_hands_11 : decode cX7_hands 11 = .ok (.iconst 5, 1) := by decide +kernel
theorem dX7_hands_12 : decode cX7_hands 12 = .ok (.invokevirtual 38, 3) := by decide +kernel
theorem dX7_hands_15 : decode cX7_hands 15 = .ok (.aload_n 0, 1) := by decide +kernel
theorem dX7_hands_16 : decode cX7_hands 16 = .ok (.iload_n 1, 1) := by decide +kernel
theorem dX7_hands_17 : decode cX7_hands 17 = .ok (.iconst 4, 1) := by decide +kernel
theorem dX7_hands_18 : decode cX7_hands 18 = .ok (.invokevirtual 38, 3) := by decide +kernel
theorem dX7_hands_21 : decode cX7_hands 21 = .ok (.invokestatic 100, 3) := by decide +kernel
theorem dX7_hands_24 : decode cX7_hands 24 = .ok (.invokestatic 100, 3) := by decide +kernel
theorem dX7_hands_27 : decode cX7_hands 27 = .ok (.invokevirtual 66, 3) := by decide +kernel
theorem dX7_hands_30 : decode cX7_hands 30 = .ok (.aload_n 0, 1) := by decide +kernel
theorem dX7_hands_31 : decode cX7_hands 31 = .ok (.iload_n 2, 1) := by decide +kernel
theorem dX7_hands_32 : decode cX7_hands 32 = .ok (.iconst 5, 1) := by decide +kernel
theorem dX7_hands_33 : decode cX7_hands 33 = .ok (.invokevirtual 38, 3) := by decide +kernel
theorem dX7_hands_36 : decode cX7_hands 36 = .ok (.ireturn, 1) := by decide +kernel
theorem dX7_hand_0 : decode cX7_hand 0 = .ok (.aload_n 0, 1) := by decide +kernel
theorem dX7_hand_1 : decode cX7_hand 1 = .ok (.iload_n 1, 1) := by decide +kernel
theorem dX7_hand_2 : decode cX7_hand 2 = .ok (.iload_n 2, 1) := by decide +kernel
theorem dX7_hand_3 : decode cX7_hand 3 = .ok (.invokevirtual 103, 3) := by decide +kernel
theorem dX7_hand_6 : decode cX7_hand 6 = .ok (.istore_n 3, 1) := by decide +kernel
theorem dX7_hand_7 : decode cX7_hand 7 = .ok (.iload_n 3, 1) := by decide +kernel
theorem dX7_hand_8 : decode cX7_hand 8 = .ok (.ifCond .ge 5, 3) := by decide +kernel
theorem dX7_hand_11 : decode cX7_hand 11 = .ok (.iload_n 3, 1) := by decide +kernel
theorem dX7_hand_12 : decode cX7_hand 12 = .ok (.ireturn, 1) := by decide +kernel
theorem dX7_hand_13 : decode cX7_hand 13 = .ok (.aload_n 0, 1) := by decide +kernel
theorem dX7_hand_14 : decode cX7_hand 14 = .ok (.invokevirtual 49, 3) := by decide +kernel
theorem dX7_hand_17 : decode cX7_hand 17 = .ok (.aload_n 0, 1) := by decide +kernel
theorem dX7_hand_18 : decode cX7_hand 18 = .ok (.iload_n 1, 1) := by decide +kernel
theorem dX7_hand_19 : decode cX7_hand 19 = .ok (.iload_n 2, 1) := by decide +kernel
theorem dX7_hand_20 : decode cX7_hand 20 = .ok (.invokevirtual 106, 3) := by decide +kernel
theorem dX7_hand_23 : decode cX7_hand 23 = .ok (.ireturn, 1) := by decide +kernel
theorem dX7_sessions_0 : decode cX7_sessions 0 = .ok (.iconst 0, 1) := by decide +kernel
theorem dX7_sessions_1 : decode cX7_sessions 1 = .ok (.istore_n 1, 1) := by decide +kernel
theorem dX7_sessions_2 : decode cX7_sessions 2 = .ok (.iconst 0, 1) := by decide +kernel
theorem dX7_sessions_3 : decode cX7_sessions 3 = .ok (.istore_n 2, 1) := by decide +kernel
theorem dX7_sessions_4 : decode cX7_sessions 4 = .ok (.iload_n 2, 1) := by decide +kernel
theorem dX7_sessions_5 : decode cX7_sessions 5 = .ok (.bipush 8, 2) := by decide +kernel
theorem dX7_sessions_7 : decode cX7_sessions 7 = .ok (.if_icmp .ge 20, 3) := by decide +kernel
theorem dX7_sessions_10 : decode cX7_sessions 10 = .ok (.iload_n 1, 1) := by decide +kernel
theorem dX7_sessions_11 : decode cX7_sessions 11 = .ok (.aload_n 0, 1) := by decide +kernel
theorem dX7_sessions_12 : decode cX7_sessions 12 = .ok (.iload_n 2, 1) := by decide +kernel
theorem dX7_sessions_13 : decode cX7_sessions 13 = .ok (.iconst 0, 1) := by decide +kernel
theorem dX7_sessions_14 : decode cX7_sessions 14 = .ok (.invokevirtual 38, 3) := by decide +kernel
theorem dX7_sessions_17 : decode cX7_sessions 17 = .ok (.iload_n 2, 1) := by decide +kernel
theorem dX7_sessions_18 : decode cX7_sessions 18 = .ok (.ishl, 1) := by decide +kernel
theorem dX7_sessions_19 : decode cX7_sessions 19 = .ok (.ior, 1) := by decide +kernel
theorem dX7_sessions_20 : decode cX7_sessions 20 = .ok (.istore_n 1, 1) := by decide +kernel
theorem dX7_sessions_21 : decode cX7_sessions 21 = .ok (.iinc 2 1, 3) := by decide +kernel
theorem dX7_sessions_24 : decode cX7_sessions 24 = .ok (.goto (-20), 3) := by decide +kernel
theorem dX7_sessions_27 : decode cX7_sessions 27 = .ok (.iload_n 1, 1) := by decide +kernel
theorem dX7_sessions_28 : decode cX7_sessions 28 = .ok (.ireturn, 1) := by decide +kernel
theorem dX7_has_0 : decode cX7_has 0 = .ok (.aload_n 0, 1) := by decide +kernel
theorem dX7_has_1 : decode cX7_has 1 = .ok (.iload_n 1, 1) := by decide +kernel
theorem dX7_has_2 : decode cX7_has 2 = .ok (.iconst 2, 1) := by decide +kernel
theorem dX7_has_3 : decode cX7_has 3 = .ok (.invokevirtual 38, 3) := by decide +kernel
theorem dX7_has_6 : decode cX7_has 6 = .ok (.iload_n 2, 1) := by decide +kernel
theorem dX7_has_7 : decode cX7_has 7 = .ok (.iand, 1) := by decide +kernel
theorem dX7_has_8 : decode cX7_has 8 = .ok (.ifCond .eq 7, 3) := by decide +kernel
theorem dX7_has_11 : decode cX7_has 11 = .ok (.iconst 1, 1) := by decide +kernel
theorem dX7_has_12 : decode cX7_has 12 = .ok (.goto 4, 3) := by decide +kernel
theorem dX7_has_15 : decode cX7_has 15 = .ok (.iconst 0, 1) := by decide +kernel
theorem dX7_has_16 : decode cX7_has 16 = .ok (.ireturn, 1) := by decide +kernel
theorem dX7_need_0 : decode cX7_need 0 = .ok (.aload_n 0, 1) := by decide +kernel
theorem dX7_need_1 : decode cX7_need 1 = .ok (.iload_n 1, 1) := by decide +kernel
theorem dX7_need_2 : decode cX7_need 2 = .ok (.iconst 1, 1) := by decide +kernel
theorem dX7_need_3 : decode cX7_need 3 = .ok (.invokevirtual 109, 3) := by decide +kernel
theorem dX7_need_6 : decode cX7_need 6 = .ok (.ifCond .eq 12, 3) := by decide +kernel
theorem dX7_need_9 : decode cX7_need 9 = .ok (.aload_n 0, 1) := by decide +kernel
theorem dX7_need_10 : decode cX7_need 10 = .ok (.iload_n 1, 1) := by decide +kernel
theorem dX7_need_11 : decode cX7_need 11 = .ok (.iconst 4, 1) := by decide +kernel
theorem dX7_need_12 : decode cX7_need 12 = .ok (.invokevirtual 38, 3) := by decide +kernel
theorem dX7_need_15 : decode cX7_need 15 = .ok (.goto 4, 3) := by decide +kernel
theorem dX7_need_18 : decode cX7_need 18 = .ok (.iconst 0, 1) := by decide +kernel
theorem dX7_need_19 : decode cX7_need 19 = .ok (.aload_n 0, 1) := by decide +kernel
theorem dX7_need_20 : decode cX7_need 20 = .ok (.iload_n 1, 1) := by decide +kernel
theorem dX7_need_21 : decode cX7_need 21 = .ok (.iconst 2, 1) := by decide +kernel
theorem dX7_need_22 : decode cX7_need 22 = .ok (.invokevirtual 109, 3) := by decide +kernel
theorem dX7_need_25 : decode cX7_need 25 = .ok (.ifCond .eq 12, 3) := by decide +kernel
theorem dX7_need_28 : decode cX7_need 28 = .ok (.aload_n 0, 1) := by decide +kernel
theorem dX7_need_29 : decode cX7_need 29 = .ok (.iload_n 1, 1) := by decide +kernel
theorem dX7_need_30 : decode cX7_need 30 = .ok (.iconst 5, 1) := by decide +kernel
theorem dX7_need_31 : decode cX7_need 31 = .ok (.invokevirtual 38, 3) := by decide +kernel
theorem dX7_need_34 : decode cX7_need 34 = .ok (.goto 4, 3) := by decide +kernel
theorem dX7_need_37 : decode cX7_need 37 = .ok (.iconst 0, 1) := by decide +kernel
theorem dX7_need_38 : decode cX7_need 38 = .ok (.invokestatic 100, 3) := by decide +kernel
theorem dX7_need_41 : decode cX7_need 41 = .ok (.ireturn, 1) := by decide +kernel
theorem dX7_session_0 : decode cX7_session 0 = .ok (.aload_n 0, 1) := by decide +kernel
theorem dX7_session_1 : decode cX7_session 1 = .ok (.iload_n 1, 1) := by decide +kernel
theorem dX7_session_2 : decode cX7_session 2 = .ok (.invokevirtual 94, 3) := by decide +kernel
theorem dX7_session_5 : decode cX7_session 5 = .ok (.ifCond .ne 5, 3) := by decide +kernel
theorem dX7_session_8 : decode cX7_session 8 = .ok (.iconst (-1), 1) := by decide +kernel
theorem dX7_session_9 : decode cX7_session 9 = .ok (.ireturn, 1) := by decide +kernel
theorem dX7_session_10 : decode cX7_session 10 = .ok (.iload_n 2, 1) := by decide +kernel
theorem dX7_session_11 : decode cX7_session 11 = .ok (.iconst 0, 1) := by decide +kernel
theorem dX7_session_12 : decode cX7_session 12 = .ok (.bipush 8, 2) := by decide +kernel
theorem dX7_session_14 : decode cX7_session 14 = .ok (.invokestatic 26, 3) := by decide +kernel
theorem dX7_session_17 : decode cX7_session 17 = .ok (.ifCond .ne 6, 3) := by decide +kernel
theorem dX7_session_20 : decode cX7_session 20 = .ok (.bipush (-2), 2) := by decide +kernel
theorem dX7_session_22 : decode cX7_session 22 = .ok (.ireturn, 1) := by decide +kernel
theorem dX7_session_23 : decode cX7_session 23 = .ok (.iload_n 2, 1) := by decide +kernel
theorem dX7_session_24 : decode cX7_session 24 = .ok (.iconst 5, 1) := by decide +kernel
theorem dX7_session_25 : decode cX7_session 25 = .ok (.if_icmp .ge 14, 3) := by decide +kernel
theorem dX7_session_28 : decode cX7_session 28 = .ok (.aload_n 0, 1) := by decide +kernel
theorem dX7_session_29 : decode cX7_session 29 = .ok (.iload_n 1, 1) := by decide +kernel
theorem dX7_session_30 : decode cX7_session 30 = .ok (.iconst 1, 1) := by decide +kernel
theorem dX7_session_31 : decode cX7_session 31 = .ok (.iload_n 2, 1) := by decide +kernel
theorem dX7_session_32 : decode cX7_session 32 = .ok (.iadd, 1) := by decide +kernel
theorem dX7_session_33 : decode cX7_session 33 = .ok (.invokevirtual 38, 3) := by decide +kernel
theorem dX7_session_36 : decode cX7_session 36 = .ok (.goto 22, 3) := by decide +kernel
theorem dX7_session_39 : decode cX7_session 39 = .ok (.iload_n 2, 1) := by decide +kernel
theorem dX7_session_40 : decode cX7_session 40 = .ok (.iconst 5, 1) := by decide +kernel
theorem dX7_session_41 : decode cX7_session 41 = .ok (.if_icmp .ne 11, 3) := by decide +kernel
theorem dX7_session_44 : decode cX7_session 44 = .ok (.aload_n 0, 1) := by decide +kernel
theorem dX7_session_45 : decode cX7_session 45 = .ok (.iload_n 1, 1) := by decide +kernel
theorem dX7_session_46 : decode cX7_session 46 = .ok (.invokevirtual 113, 3) := by decide +kernel
theorem dX7_session_49 : decode cX7_session 49 = .ok (.goto 9, 3) := by decide +kernel
theorem dX7_session_52 : decode cX7_session 52 = .ok (.aload_n 0, 1) := by decide +kernel
theorem dX7_session_53 : decode cX7_session 53 = .ok (.iload_n 1, 1) := by decide +kernel
theorem dX7_session_54 : decode cX7_session 54 = .ok (.iload_n 2, 1) := by decide +kernel
theorem dX7_session_55 : decode cX7_session 55 = .ok (.invokevirtual 38, 3) := by decide +kernel
theorem dX7_session_58 : decode cX7_session 58 = .ok (.ireturn, 1) := by decide +kernel
theorem dX7_whyNotWrite_0 : decode cX7_whyNotWrite 0 = .ok (.aload_n 0, 1) := by decide +kernel
theorem dX7_whyNotWrite_1 : decode cX7_whyNotWrite 1 = .ok (.iload_n 1, 1) := by decide +kernel
theorem dX7_whyNotWrite_2 : decode cX7_whyNotWrite 2 = .ok (.invokevirtual 94, 3) := by decide +kernel
theorem dX7_whyNotWrite_5 : decode cX7_whyNotWrite 5 = .ok (.ifCond .eq 10, 3) := by decide +kernel
theorem dX7_whyNotWrite_8 : decode cX7_whyNotWrite 8 = .ok (.iload_n 2, 1) := by decide +kernel
theorem dX7_whyNotWrite_9 : decode cX7_whyNotWrite 9 = .ok (.invokestatic 85, 3) := by decide +kernel
theorem dX7_whyNotWrite_12 : decode cX7_whyNotWrite 12 = .ok (.ifCond .ne 5, 3) := by decide +kernel
theorem dX7_whyNotWrite_15 : decode cX7_whyNotWrite 15 = .ok (.iconst (-1), 1) := by decide +kernel
theorem dX7_whyNotWrite_16 : decode cX7_whyNotWrite 16 = .ok (.ireturn, 1) := by decide +kernel
theorem dX7_whyNotWrite_17 : decode cX7_whyNotWrite 17 = .ok (.iload_n 3, 1) := by decide +kernel
theorem dX7_whyNotWrite_18 : decode cX7_whyNotWrite 18 = .ok (.iconst 0, 1) := by decide +kernel
theorem dX7_whyNotWrite_19 : decode cX7_whyNotWrite 19 = .ok (.sipush 999, 3) := by decide +kernel
theorem dX7_whyNotWrite_22 : decode cX7_whyNotWrite 22 = .ok (.invokestatic 26, 3) := by decide +kernel
theorem dX7_whyNotWrite_25 : decode cX7_whyNotWrite 25 = .ok (.ifCond .ne 8, 3) := by decide +kernel
theorem dX7_whyNotWrite_28 : decode cX7_whyNotWrite 28 = .ok (.bipush (-2), 2) := by decide +kernel
theorem dX7_whyNotWrite_30 : decode cX7_whyNotWrite 30 = .ok (.goto 21, 3) := by decide +kernel
theorem dX7_whyNotWrite_33 : decode cX7_whyNotWrite 33 = .ok (.aload_n 0, 1) := by decide +kernel
theorem dX7_whyNotWrite_34 : decode cX7_whyNotWrite 34 = .ok (.getfield 7, 3) := by decide +kernel
theorem dX7_whyNotWrite_37 : decode cX7_whyNotWrite 37 = .ok (.iconst 0, 1) := by decide +kernel
theorem dX7_whyNotWrite_38 : decode cX7_whyNotWrite 38 = .ok (.iaload, 1) := by decide +kernel
theorem dX7_whyNotWrite_39 : decode cX7_whyNotWrite 39 = .ok (.sipush 200, 3) := by decide +kernel
theorem dX7_whyNotWrite_42 : decode cX7_whyNotWrite 42 = .ok (.if_icmp .ne 8, 3) := by decide +kernel
theorem dX7_whyNotWrite_45 : decode cX7_whyNotWrite 45 = .ok (.bipush (-4), 2) := by decide +kernel
theorem dX7_whyNotWrite_47 : decode cX7_whyNotWrite 47 = .ok (.goto 4, 3) := by decide +kernel
theorem dX7_whyNotWrite_50 : decode cX7_whyNotWrite 50 = .ok (.iconst 0, 1) := by decide +kernel
theorem dX7_whyNotWrite_51 : decode cX7_whyNotWrite 51 = .ok (.ireturn, 1) := by decide +kernel
theorem dX7_writes_0 : decode cX7_writes 0 = .ok (.sipush 294, 3) := by decide +kernel
theorem dX7_writes_3 : decode cX7_writes 3 = .ok (.iconst 3, 1) := by decide +kernel
theorem dX7_writes_4 : decode cX7_writes 4 = .ok (.aload_n 0, 1) := by decide +kernel
theorem dX7_writes_5 : decode cX7_writes 5 = .ok (.getfield 7, 3) := by decide +kernel
theorem dX7_writes_8 : decode cX7_writes 8 = .ok (.iconst 0, 1) := by decide +kernel
theorem dX7_writes_9 : decode cX7_writes 9 = .ok (.iaload, 1) := by decide +kernel
theorem dX7_writes_10 : decode cX7_writes 10 = .ok (.imul, 1) := by decide +kernel
theorem dX7_writes_11 : decode cX7_writes 11 = .ok (.iadd, 1) := by decide +kernel
theorem dX7_writes_12 : decode cX7_writes 12 = .ok (.istore 4, 2) := by decide +kernel
theorem dX7_writes_14 : decode cX7_writes 14 = .ok (.aload_n 0, 1) := by decide +kernel
theorem dX7_writes_15 : decode cX7_writes 15 = .ok (.getfield 7, 3) := by decide +kernel
theorem dX7_writes_18 : decode cX7_writes 18 = .ok (.iload 4, 2) := by decide +kernel
theorem dX7_writes_20 : decode cX7_writes 20 = .ok (.iload_n 2, 1) := by decide +kernel
theorem dX7_writes_21 : decode cX7_writes 21 = .ok (.iastore, 1) := by decide +kernel
theorem dX7_writes_22 : decode cX7_writes 22 = .ok (.aload_n 0, 1) := by decide +kernel
end
section
theorem dX7_writes_23 : decode cX7_writes 23 = .ok (.getfield 7, 3) := by decide +kernel
theorem dX7_writes_26 : decode cX7_writes 26 = .ok (.iload 4, 2) := by decide +kernel
theorem dX7_writes_28 : decode cX7_writes 28 = .ok (.iconst 1, 1) := by decide +kernel
theorem dX7_writes_29 : decode cX7_writes 29 = .ok (.iadd, 1) := by decide +kernel
theorem dX7_writes_30 : decode cX7_writes 30 = .ok (.iload_n 3, 1) := by decide +kernel
theorem dX7_writes_31 : decode cX7_writes 31 = .ok (.iastore, 1) := by decide +kernel
theorem dX7_writes_32 : decode cX7_writes 32 = .ok (.aload_n 0, 1) := by decide +kernel
theorem dX7_writes_33 : decode cX7_writes 33 = .ok (.getfield 7, 3) := by decide +kernel
theorem dX7_writes_36 : decode cX7_writes 36 = .ok (.iload 4, 2) := by decide +kernel
theorem dX7_writes_38 : decode cX7_writes 38 = .ok (.iconst 2, 1) := by decide +kernel
theorem dX7_writes_39 : decode cX7_writes 39 = .ok (.iadd, 1) := by decide +kernel
theorem dX7_writes_40 : decode cX7_writes 40 = .ok (.iload_n 1, 1) := by decide +kernel
theorem dX7_writes_41 : decode cX7_writes 41 = .ok (.iastore, 1) := by decide +kernel
theorem dX7_writes_42 : decode cX7_writes 42 = .ok (.aload_n 0, 1) := by decide +kernel
theorem dX7_writes_43 : decode cX7_writes 43 = .ok (.getfield 7, 3) := by decide +kernel
theorem dX7_writes_46 : decode cX7_writes 46 = .ok (.iconst 0, 1) := by decide +kernel
theorem dX7_writes_47 : decode cX7_writes 47 = .ok (.dup2, 1) := by decide +kernel
theorem dX7_writes_48 : decode cX7_writes 48 = .ok (.iaload, 1) := by decide +kernel
theorem dX7_writes_49 : decode cX7_writes 49 = .ok (.iconst 1, 1) := by decide +kernel
theorem dX7_writes_50 : decode cX7_writes 50 = .ok (.iadd, 1) := by decide +kernel
theorem dX7_writes_51 : decode cX7_writes 51 = .ok (.iastore, 1) := by decide +kernel
theorem dX7_writes_52 : decode cX7_writes 52 = .ok (.aload_n 0, 1) := by decide +kernel
theorem dX7_writes_53 : decode cX7_writes 53 = .ok (.iload_n 1, 1) := by decide +kernel
theorem dX7_writes_54 : decode cX7_writes 54 = .ok (.iconst 4, 1) := by decide +kernel
theorem dX7_writes_55 : decode cX7_writes 55 = .ok (.aload_n 0, 1) := by decide +kernel
theorem dX7_writes_56 : decode cX7_writes 56 = .ok (.getfield 7, 3) := by decide +kernel
theorem dX7_writes_59 : decode cX7_writes 59 = .ok (.iconst 0, 1) := by decide +kernel
theorem dX7_writes_60 : decode cX7_writes 60 = .ok (.iaload, 1) := by decide +kernel
theorem dX7_writes_61 : decode cX7_writes 61 = .ok (.invokevirtual 66, 3) := by decide +kernel
theorem dX7_writes_64 : decode cX7_writes 64 = .ok (.aload_n 0, 1) := by decide +kernel
theorem dX7_writes_65 : decode cX7_writes 65 = .ok (.iload_n 1, 1) := by decide +kernel
theorem dX7_writes_66 : decode cX7_writes 66 = .ok (.bipush 9, 2) := by decide +kernel
theorem dX7_writes_68 : decode cX7_writes 68 = .ok (.iload_n 2, 1) := by decide +kernel
theorem dX7_writes_69 : decode cX7_writes 69 = .ok (.iadd, 1) := by decide +kernel
theorem dX7_writes_70 : decode cX7_writes 70 = .ok (.aload_n 0, 1) := by decide +kernel
theorem dX7_writes_71 : decode cX7_writes 71 = .ok (.getfield 7, 3) := by decide +kernel
theorem dX7_writes_74 : decode cX7_writes 74 = .ok (.iconst 0, 1) := by decide +kernel
theorem dX7_writes_75 : decode cX7_writes 75 = .ok (.iaload, 1) := by decide +kernel
theorem dX7_writes_76 : decode cX7_writes 76 = .ok (.invokevirtual 66, 3) := by decide +kernel
theorem dX7_writes_79 : decode cX7_writes 79 = .ok (.aload_n 0, 1) := by decide +kernel
theorem dX7_writes_80 : decode cX7_writes 80 = .ok (.getfield 7, 3) := by decide +kernel
theorem dX7_writes_83 : decode cX7_writes 83 = .ok (.iconst 0, 1) := by decide +kernel
theorem dX7_writes_84 : decode cX7_writes 84 = .ok (.iaload, 1) := by decide +kernel
theorem dX7_writes_85 : decode cX7_writes 85 = .ok (.ireturn, 1) := by decide +kernel
theorem dX7_write_0 : decode cX7_write 0 = .ok (.aload_n 0, 1) := by decide +kernel
theorem dX7_write_1 : decode cX7_write 1 = .ok (.iload_n 1, 1) := by decide +kernel
theorem dX7_write_2 : decode cX7_write 2 = .ok (.iload_n 2, 1) := by decide +kernel
theorem dX7_write_3 : decode cX7_write 3 = .ok (.iload_n 3, 1) := by decide +kernel
theorem dX7_write_4 : decode cX7_write 4 = .ok (.invokevirtual 116, 3) := by decide +kernel
theorem dX7_write_7 : decode cX7_write 7 = .ok (.istore 4, 2) := by decide +kernel
theorem dX7_write_9 : decode cX7_write 9 = .ok (.iload 4, 2) := by decide +kernel
theorem dX7_write_11 : decode cX7_write 11 = .ok (.ifCond .ge 6, 3) := by decide +kernel
theorem dX7_write_14 : decode cX7_write 14 = .ok (.iload 4, 2) := by decide +kernel
theorem dX7_write_16 : decode cX7_write 16 = .ok (.ireturn, 1) := by decide +kernel
theorem dX7_write_17 : decode cX7_write 17 = .ok (.aload_n 0, 1) := by decide +kernel
theorem dX7_write_18 : decode cX7_write 18 = .ok (.invokevirtual 49, 3) := by decide +kernel
theorem dX7_write_21 : decode cX7_write 21 = .ok (.aload_n 0, 1) := by decide +kernel
theorem dX7_write_22 : decode cX7_write 22 = .ok (.iload_n 1, 1) := by decide +kernel
theorem dX7_write_23 : decode cX7_write 23 = .ok (.iload_n 2, 1) := by decide +kernel
theorem dX7_write_24 : decode cX7_write 24 = .ok (.iload_n 3, 1) := by decide +kernel
theorem dX7_write_25 : decode cX7_write 25 = .ok (.invokevirtual 120, 3) := by decide +kernel
theorem dX7_write_28 : decode cX7_write 28 = .ok (.ireturn, 1) := by decide +kernel
theorem dX7_needed_0 : decode cX7_needed 0 = .ok (.aload_n 0, 1) := by decide +kernel
theorem dX7_needed_1 : decode cX7_needed 1 = .ok (.iload_n 1, 1) := by decide +kernel
theorem dX7_needed_2 : decode cX7_needed 2 = .ok (.invokevirtual 113, 3) := by decide +kernel
theorem dX7_needed_5 : decode cX7_needed 5 = .ok (.istore_n 3, 1) := by decide +kernel
theorem dX7_needed_6 : decode cX7_needed 6 = .ok (.aload_n 0, 1) := by decide +kernel
theorem dX7_needed_7 : decode cX7_needed 7 = .ok (.iload_n 1, 1) := by decide +kernel
theorem dX7_needed_8 : decode cX7_needed 8 = .ok (.iconst 4, 1) := by decide +kernel
theorem dX7_needed_9 : decode cX7_needed 9 = .ok (.invokevirtual 109, 3) := by decide +kernel
theorem dX7_needed_12 : decode cX7_needed 12 = .ok (.ifCond .eq 12, 3) := by decide +kernel
theorem dX7_needed_15 : decode cX7_needed 15 = .ok (.aload_n 0, 1) := by decide +kernel
theorem dX7_needed_16 : decode cX7_needed 16 = .ok (.iload_n 3, 1) := by decide +kernel
theorem dX7_needed_17 : decode cX7_needed 17 = .ok (.iload_n 2, 1) := by decide +kernel
theorem dX7_needed_18 : decode cX7_needed 18 = .ok (.invokevirtual 88, 3) := by decide +kernel
theorem dX7_needed_21 : decode cX7_needed 21 = .ok (.goto 4, 3) := by decide +kernel
theorem dX7_needed_24 : decode cX7_needed 24 = .ok (.iload_n 3, 1) := by decide +kernel
theorem dX7_needed_25 : decode cX7_needed 25 = .ok (.ireturn, 1) := by decide +kernel
theorem dX7_waitOf_0 : decode cX7_waitOf 0 = .ok (.aload_n 0, 1) := by decide +kernel
theorem dX7_waitOf_1 : decode cX7_waitOf 1 = .ok (.iload_n 1, 1) := by decide +kernel
theorem dX7_waitOf_2 : decode cX7_waitOf 2 = .ok (.iload_n 2, 1) := by decide +kernel
theorem dX7_waitOf_3 : decode cX7_waitOf 3 = .ok (.invokevirtual 123, 3) := by decide +kernel
theorem dX7_waitOf_6 : decode cX7_waitOf 6 = .ok (.aload_n 0, 1) := by decide +kernel
theorem dX7_waitOf_7 : decode cX7_waitOf 7 = .ok (.iload_n 3, 1) := by decide +kernel
theorem dX7_waitOf_8 : decode cX7_waitOf 8 = .ok (.invokevirtual 59, 3) := by decide +kernel
theorem dX7_waitOf_11 : decode cX7_waitOf 11 = .ok (.isub, 1) := by decide +kernel
theorem dX7_waitOf_12 : decode cX7_waitOf 12 = .ok (.istore 4, 2) := by decide +kernel
theorem dX7_waitOf_14 : decode cX7_waitOf 14 = .ok (.iload 4, 2) := by decide +kernel
theorem dX7_waitOf_16 : decode cX7_waitOf 16 = .ok (.ifCond .gt 5, 3) := by decide +kernel
theorem dX7_waitOf_19 : decode cX7_waitOf 19 = .ok (.iconst 0, 1) := by decide +kernel
theorem dX7_waitOf_20 : decode cX7_waitOf 20 = .ok (.ireturn, 1) := by decide +kernel
theorem dX7_waitOf_21 : decode cX7_waitOf 21 = .ok (.aload_n 0, 1) := by decide +kernel
theorem dX7_waitOf_22 : decode cX7_waitOf 22 = .ok (.iload_n 3, 1) := by decide +kernel
theorem dX7_waitOf_23 : decode cX7_waitOf 23 = .ok (.iconst 3, 1) := by decide +kernel
theorem dX7_waitOf_24 : decode cX7_waitOf 24 = .ok (.invokevirtual 30, 3) := by decide +kernel
theorem dX7_waitOf_27 : decode cX7_waitOf 27 = .ok (.iconst 1, 1) := by decide +kernel
theorem dX7_waitOf_28 : decode cX7_waitOf 28 = .ok (.if_icmp .ne 7, 3) := by decide +kernel
theorem dX7_waitOf_31 : decode cX7_waitOf 31 = .ok (.iconst 0, 1) := by decide +kernel
theorem dX7_waitOf_32 : decode cX7_waitOf 32 = .ok (.goto 9, 3) := by decide +kernel
theorem dX7_waitOf_35 : decode cX7_waitOf 35 = .ok (.aload_n 0, 1) := by decide +kernel
theorem dX7_waitOf_36 : decode cX7_waitOf 36 = .ok (.iload_n 3, 1) := by decide +kernel
theorem dX7_waitOf_37 : decode cX7_waitOf 37 = .ok (.iconst 2, 1) := by decide +kernel
theorem dX7_waitOf_38 : decode cX7_waitOf 38 = .ok (.invokevirtual 30, 3) := by decide +kernel
theorem dX7_waitOf_41 : decode cX7_waitOf 41 = .ok (.istore 5, 2) := by decide +kernel
theorem dX7_waitOf_43 : decode cX7_waitOf 43 = .ok (.iload 5, 2) := by decide +kernel
theorem dX7_waitOf_45 : decode cX7_waitOf 45 = .ok (.ifCond .ne 8, 3) := by decide +kernel
theorem dX7_waitOf_48 : decode cX7_waitOf 48 = .ok (.bipush (-6), 2) := by decide +kernel
theorem dX7_waitOf_50 : decode cX7_waitOf 50 = .ok (.goto 13, 3) := by decide +kernel
theorem dX7_waitOf_53 : decode cX7_waitOf 53 = .ok (.iload 4, 2) := by decide +kernel
theorem dX7_waitOf_55 : decode cX7_waitOf 55 = .ok (.iload 5, 2) := by decide +kernel
theorem dX7_waitOf_57 : decode cX7_waitOf 57 = .ok (.iadd, 1) := by decide +kernel
theorem dX7_waitOf_58 : decode cX7_waitOf 58 = .ok (.iconst 1, 1) := by decide +kernel
theorem dX7_waitOf_59 : decode cX7_waitOf 59 = .ok (.isub, 1) := by decide +kernel
theorem dX7_waitOf_60 : decode cX7_waitOf 60 = .ok (.iload 5, 2) := by decide +kernel
theorem dX7_waitOf_62 : decode cX7_waitOf 62 = .ok (.idiv, 1) := by decide +kernel
theorem dX7_waitOf_63 : decode cX7_waitOf 63 = .ok (.ireturn, 1) := by decide +kernel
theorem dX7_answer_0 : decode cX7_answer 0 = .ok (.aload_n 0, 1) := by decide +kernel
theorem dX7_answer_1 : decode cX7_answer 1 = .ok (.aload_n 0, 1) := by decide +kernel
theorem dX7_answer_2 : decode cX7_answer 2 = .ok (.iload_n 3, 1) := by decide +kernel
theorem dX7_answer_3 : decode cX7_answer 3 = .ok (.invokevirtual 59, 3) := by decide +kernel
theorem dX7_answer_6 : decode cX7_answer 6 = .ok (.iload_n 2, 1) := by decide +kernel
theorem dX7_answer_7 : decode cX7_answer 7 = .ok (.invokevirtual 88, 3) := by decide +kernel
theorem dX7_answer_10 : decode cX7_answer 10 = .ok (.istore 5, 2) := by decide +kernel
theorem dX7_answer_12 : decode cX7_answer 12 = .ok (.aload_n 0, 1) := by decide +kernel
theorem dX7_answer_13 : decode cX7_answer 13 = .ok (.iload_n 1, 1) := by decide +kernel
theorem dX7_answer_14 : decode cX7_answer 14 = .ok (.bipush 6, 2) := by decide +kernel
theorem dX7_answer_16 : decode cX7_answer 16 = .ok (.aload_n 0, 1) := by decide +kernel
theorem dX7_answer_17 : decode cX7_answer 17 = .ok (.iload_n 1, 1) := by decide +kernel
theorem dX7_answer_18 : decode cX7_answer 18 = .ok (.bipush 6, 2) := by decide +kernel
theorem dX7_answer_20 : decode cX7_answer 20 = .ok (.invokevirtual 38, 3) := by decide +kernel
theorem dX7_answer_23 : decode cX7_answer 23 = .ok (.iconst 1, 1) := by decide +kernel
theorem dX7_answer_24 : decode cX7_answer 24 = .ok (.iadd, 1) := by decide +kernel
theorem dX7_answer_25 : decode cX7_answer 25 = .ok (.invokevirtual 66, 3) := by decide +kernel
theorem dX7_answer_28 : decode cX7_answer 28 = .ok (.aload_n 0, 1) := by decide +kernel
theorem dX7_answer_29 : decode cX7_answer 29 = .ok (.iload_n 1, 1) := by decide +kernel
theorem dX7_answer_30 : decode cX7_answer 30 = .ok (.bipush 7, 2) := by decide +kernel
theorem dX7_answer_32 : decode cX7_answer 32 = .ok (.aload_n 0, 1) := by decide +kernel
theorem dX7_answer_33 : decode cX7_answer 33 = .ok (.iload_n 1, 1) := by decide +kernel
theorem dX7_answer_34 : decode cX7_answer 34 = .ok (.bipush 7, 2) := by decide +kernel
theorem dX7_answer_36 : decode cX7_answer 36 = .ok (.invokevirtual 38, 3) := by decide +kernel
theorem dX7_answer_39 : decode cX7_answer 39 = .ok (.aload_n 0, 1) := by decide +kernel
theorem dX7_answer_40 : decode cX7_answer 40 = .ok (.iload_n 1, 1) := by decide +kernel
theorem dX7_answer_41 : decode cX7_answer 41 = .ok (.bipush 9, 2) := by decide +kernel
theorem dX7_answer_43 : decode cX7_answer 43 = .ok (.iload_n 2, 1) := by decide +kernel
theorem dX7_answer_44 : decode cX7_answer 44 = .ok (.iadd, 1) := by decide +kernel
theorem dX7_answer_45 : decode cX7_answer 45 = .ok (.invokevirtual 38, 3) := by decide +kernel
theorem dX7_answer_48 : decode cX7_answer 48 = .ok (.iload 5, 2) := by decide +kernel
theorem dX7_answer_50 : decode cX7_answer 50 = .ok (.if_icmp .le 7, 3) := by decide +kernel
theorem dX7_answer_53 : decode cX7_answer 53 = .ok (.iconst 1, 1) := by decide +kernel
theorem dX7_answer_54 : decode cX7_answer 54 = .ok (.goto 4, 3) := by decide +kernel
theorem dX7_answer_57 : decode cX7_answer 57 = .ok (.iconst 0, 1) := by decide +kernel
theorem dX7_answer_58 : decode cX7_answer 58 = .ok (.iadd, 1) := by decide +kernel
theorem dX7_answer_59 : decode cX7_answer 59 = .ok (.invokevirtual 66, 3) := by decide +kernel
theorem dX7_answer_62 : decode cX7_answer 62 = .ok (.aload_n 0, 1) := by decide +kernel
theorem dX7_answer_63 : decode cX7_answer 63 = .ok (.iload_n 1, 1) := by decide +kernel
theorem dX7_answer_64 : decode cX7_answer 64 = .ok (.bipush 8, 2) := by decide +kernel
theorem dX7_answer_66 : decode cX7_answer 66 = .ok (.aload_n 0, 1) := by decide +kernel
theorem dX7_answer_67 : decode cX7_answer 67 = .ok (.iload_n 1, 1) := by decide +kernel
theorem dX7_answer_68 : decode cX7_answer 68 = .ok (.bipush 8, 2) := by decide +kernel
theorem dX7_answer_70 : decode cX7_answer 70 = .ok (.invokevirtual 38, 3) := by decide +kernel
theorem dX7_answer_73 : decode cX7_answer 73 = .ok (.aload_n 0, 1) := by decide +kernel
theorem dX7_answer_74 : decode cX7_answer 74 = .ok (.iload_n 1, 1) := by decide +kernel
theorem dX7_answer_75 : decode cX7_answer 75 = .ok (.bipush 21, 2) := by decide +kernel
theorem dX7_answer_77 : decode cX7_answer 77 = .ok (.iload_n 2, 1) := by decide +kernel
theorem dX7_answer_78 : decode cX7_answer 78 = .ok (.iadd, 1) := by decide +kernel
theorem dX7_answer_79 : decode cX7_answer 79 = .ok (.invokevirtual 38, 3) := by decide +kernel
theorem dX7_answer_82 : decode cX7_answer 82 = .ok (.iload 5, 2) := by decide +kernel
theorem dX7_answer_84 : decode cX7_answer 84 = .ok (.if_icmp .le 7, 3) := by decide +kernel
theorem dX7_answer_87 : decode cX7_answer 87 = .ok (.iconst 1, 1) := by decide +kernel
theorem dX7_answer_88 : decode cX7_answer 88 = .ok (.goto 4, 3) := by decide +kernel
theorem dX7_answer_91 : decode cX7_answer 91 = .ok (.iconst 0, 1) := by decide +kernel
theorem dX7_answer_92 : decode cX7_answer 92 = .ok (.iadd, 1) := by decide +kernel
theorem dX7_answer_93 : decode cX7_answer 93 = .ok (.invokevirtual 66, 3) := by decide +kernel
theorem dX7_answer_96 : decode cX7_answer 96 = .ok (.aload_n 0, 1) := by decide +kernel
theorem dX7_answer_97 : decode cX7_answer 97 = .ok (.iload_n 1, 1) := by decide +kernel
theorem dX7_answer_98 : decode cX7_answer 98 = .ok (.bipush 21, 2) := by decide +kernel
theorem dX7_answer_100 : decode cX7_answer 100 = .ok (.iload_n 2, 1) := by decide +kernel
theorem dX7_answer_101 : decode cX7_answer 101 = .ok (.iadd, 1) := by decide +kernel
theorem dX7_answer_102 : decode cX7_answer 102 = .ok (.aload_n 0, 1) := by decide +kernel
theorem dX7_answer_103 : decode cX7_answer 103 = .ok (.iload_n 1, 1) := by decide +kernel
theorem dX7_answer_104 : decode cX7_answer 104 = .ok (.bipush 21, 2) := by decide +kernel
theorem dX7_answer_106 : decode cX7_answer 106 = .ok (.iload_n 2, 1) := by decide +kernel
theorem dX7_answer_107 : decode cX7_answer 107 = .ok (.iadd, 1) := by decide +kernel
theorem dX7_answer_108 : decode cX7_answer 108 = .ok (.invokevirtual 38, 3) := by decide +kernel
theorem dX7_answer_111 : decode cX7_answer 111 = .ok (.iload 5, 2) := by decide +kernel
theorem dX7_answer_113 : decode cX7_answer 113 = .ok (.invokestatic 100, 3) := by decide +kernel
theorem dX7_answer_116 : decode cX7_answer 116 = .ok (.invokevirtual 66, 3) := by decide +kernel
theorem dX7_answer_119 : decode cX7_answer 119 = .ok (.aload_n 0, 1) := by decide +kernel
theorem dX7_answer_120 : decode cX7_answer 120 = .ok (.iload_n 1, 1) := by decide +kernel
theorem dX7_answer_121 : decode cX7_answer 121 = .ok (.iconst 5, 1) := by decide +kernel
theorem dX7_answer_122 : decode cX7_answer 122 = .ok (.aload_n 0, 1) := by decide +kernel
theorem dX7_answer_123 : decode cX7_answer 123 = .ok (.iload_n 1, 1) := by decide +kernel
theorem dX7_answer_124 : decode cX7_answer 124 = .ok (.iconst 5, 1) := by decide +kernel
theorem dX7_answer_125 : decode cX7_answer 125 = .ok (.invokevirtual 38, 3) := by decide +kernel
theorem dX7_answer_128 : decode cX7_answer 128 = .ok (.aload_n 0, 1) := by decide +kernel
theorem dX7_answer_129 : decode cX7_answer 129 = .ok (.iload_n 3, 1) := by decide +kernel
theorem dX7_answer_130 : decode cX7_answer 130 = .ok (.invokevirtual 59, 3) := by decide +kernel
theorem dX7_answer_133 : decode cX7_answer 133 = .ok (.invokestatic 100, 3) := by decide +kernel
theorem dX7_answer_136 : decode cX7_answer 136 = .ok (.invokevirtual 66, 3) := by decide +kernel
theorem dX7_answer_139 : decode cX7_answer 139 = .ok (.iload_n 3, 1) := by decide +kernel
theorem dX7_answer_140 : decode cX7_answer 140 = .ok (.bipush 9, 2) := by decide +kernel
theorem dX7_answer_142 : decode cX7_answer 142 = .ok (.if_icmp .ne 16, 3) := by decide +kernel
theorem dX7_answer_145 : decode cX7_answer 145 = .ok (.aload_n 0, 1) := by decide +kernel
theorem dX7_answer_146 : decode cX7_answer 146 = .ok (.getfield 7, 3) := by decide +kernel
theorem dX7_answer_149 : decode cX7_answer 149 = .ok (.iconst 4, 1) := by decide +kernel
theorem dX7_answer_150 : decode cX7_answer 150 = .ok (.dup2, 1) := by decide +kernel
theorem dX7_answer_151 : decode cX7_answer 151 = .ok (.iaload, 1) := by decide +kernel
theorem dX7_answer_152 : decode cX7_answer 152 = .ok (.iconst 1, 1) := by decide +kernel
theorem dX7_answer_153 : decode cX7_answer 153 = .ok (.iadd, 1) := by decide +kernel
theorem dX7_answer_154 : decode cX7_answer 154 = .ok (.iastore, 1) := by decide +kernel
theorem dX7_answer_155 : decode cX7_answer 155 = .ok (.goto 17, 3) := by decide +kernel
theorem dX7_answer_158 : decode cX7_answer 158 = .ok (.aload_n 0, 1) := by decide +kernel
theorem dX7_answer_159 : decode cX7_answer 159 = .ok (.iload_n 3, 1) := by decide +kernel
theorem dX7_answer_160 : decode cX7_answer 160 = .ok (.iconst 4, 1) := by decide +kernel
theorem dX7_answer_161 : decode cX7_answer 161 = .ok (.aload_n 0, 1) := by decide +kernel
theorem dX7_answer_162 : decode cX7_answer 162 = .ok (.iload_n 3, 1) := by decide +kernel
theorem dX7_answer_163 : decode cX7_answer 163 = .ok (.iconst 4, 1) := by decide +kernel
theorem dX7_answer_164 : decode cX7_answer 164 = .ok (.invokevirtual 30, 3) := by decide +kernel
theorem dX7_answer_167 : decode cX7_answer 167 = .ok (.iconst 1, 1) := by decide +kernel
theorem dX7_answer_168 : decode cX7_answer 168 = .ok (.iadd, 1) := by decide +kernel
theorem dX7_answer_169 : decode cX7_answer 169 = .ok (.invokevirtual 55, 3) := by decide +kernel
theorem dX7_answer_172 : decode cX7_answer 172 = .ok (.aload_n 0, 1) := by decide +kernel
theorem dX7_answer_173 : decode cX7_answer 173 = .ok (.getfield 7, 3) := by decide +kernel
theorem dX7_answer_176 : decode cX7_answer 176 = .ok (.iconst 1, 1) := by decide +kernel
theorem dX7_answer_177 : decode cX7_answer 177 = .ok (.iload_n 3, 1) := by decide +kernel
theorem dX7_answer_178 : decode cX7_answer 178 = .ok (.iastore, 1) := by decide +kernel
theorem dX7_answer_179 : decode cX7_answer 179 = .ok (.aload_n 0, 1) := by decide +kernel
theorem dX7_answer_180 : decode cX7_answer 180 = .ok (.getfield 7, 3) := by decide +kernel
theorem dX7_answer_183 : decode cX7_answer 183 = .ok (.iconst 2, 1) := by decide +kernel
theorem dX7_answer_184 : decode cX7_answer 184 = .ok (.iload 5, 2) := by decide +kernel
theorem dX7_answer_186 : decode cX7_answer 186 = .ok (.iastore, 1) := by decide +kernel
theorem dX7_answer_187 : decode cX7_answer 187 = .ok (.aload_n 0, 1) := by decide +kernel
theorem dX7_answer_188 : decode cX7_answer 188 = .ok (.getfield 7, 3) := by decide +kernel
theorem dX7_answer_191 : decode cX7_answer 191 = .ok (.iconst 3, 1) := by decide +kernel
theorem dX7_answer_192 : decode cX7_answer 192 = .ok (.iload 4, 2) := by decide +kernel
theorem dX7_answer_194 : decode cX7_answer 194 = .ok (.iastore, 1) := by decide +kernel
theorem dX7_answer_195 : decode cX7_answer 195 = .ok (.aload_n 0, 1) := by decide +kernel
theorem dX7_answer_196 : decode cX7_answer 196 = .ok (.iload 5, 2) := by decide +kernel
theorem dX7_answer_198 : decode cX7_answer 198 = .ok (.invokevirtual 91, 3) := by decide +kernel
theorem dX7_answer_201 : decode cX7_answer 201 = .ok (.ireturn, 1) := by decide +kernel
theorem dX7_waitsAtHome_0 : decode cX7_waitsAtHome 0 = .ok (.aload_n 0, 1) := by decide +kernel
theorem dX7_waitsAtHome_1 : decode cX7_waitsAtHome 1 = .ok (.iload_n 1, 1) := by decide +kernel
theorem dX7_waitsAtHome_2 : decode cX7_waitsAtHome 2 = .ok (.iload_n 2, 1) := by decide +kernel
theorem dX7_waitsAtHome_3 : decode cX7_waitsAtHome 3 = .ok (.aload_n 0, 1) := by decide +kernel
theorem dX7_waitsAtHome_4 : decode cX7_waitsAtHome 4 = .ok (.iload_n 1, 1) := by decide +kernel
theorem dX7_waitsAtHome_5 : decode cX7_waitsAtHome 5 = .ok (.iconst 1, 1) := by decide +kernel
theorem dX7_waitsAtHome_6 : decode cX7_waitsAtHome 6 = .ok (.invokevirtual 38, 3) := by decide +kernel
theorem dX7_waitsAtHome_9 : decode cX7_waitsAtHome 9 = .ok (.invokevirtual 126, 3) := by decide +kernel
theorem dX7_waitsAtHome_12 : decode cX7_waitsAtHome 12 = .ok (.istore_n 3, 1) := by decide +kernel
theorem dX7_waitsAtHome_13 : decode cX7_waitsAtHome 13 = .ok (.iload_n 3, 1) := by decide +kernel
theorem dX7_waitsAtHome_14 : decode cX7_waitsAtHome 14 = .ok (.bipush (-6), 2) := by decide +kernel
theorem dX7_waitsAtHome_16 : decode cX7_waitsAtHome 16 = .ok (.if_icmp .eq 13, 3) := by decide +kernel
theorem dX7_waitsAtHome_19 : decode cX7_waitsAtHome 19 = .ok (.iload_n 3, 1) := by decide +kernel
theorem dX7_waitsAtHome_20 : decode cX7_waitsAtHome 20 = .ok (.aload_n 0, 1) := by decide +kernel
theorem dX7_waitsAtHome_21 : decode cX7_waitsAtHome 21 = .ok (.iload_n 1, 1) := by decide +kernel
theorem dX7_waitsAtHome_22 : decode cX7_waitsAtHome 22 = .ok (.iconst 3, 1) := by decide +kernel
theorem dX7_waitsAtHome_23 : decode cX7_waitsAtHome 23 = .ok (.invokevirtual 38, 3) := by decide +kernel
theorem dX7_waitsAtHome_26 : decode cX7_waitsAtHome 26 = .ok (.if_icmp .le 8, 3) := by decide +kernel
theorem dX7_waitsAtHome_29 : decode cX7_waitsAtHome 29 = .ok (.bipush (-6), 2) := by decide +kernel
theorem dX7_waitsAtHome_31 : decode cX7_waitsAtHome 31 = .ok (.goto 4, 3) := by decide +kernel
theorem dX7_waitsAtHome_34 : decode cX7_waitsAtHome 34 = .ok (.iload_n 3, 1) := by decide +kernel
theorem dX7_waitsAtHome_35 : decode cX7_waitsAtHome 35 = .ok (.ireturn, 1) := by decide +kernel
theorem dX7_whyNotRead_0 : decode cX7_whyNotRead 0 = .ok (.aload_n 0, 1) := by decide +kernel
theorem dX7_whyNotRead_1 : decode cX7_whyNotRead 1 = .ok (.iload_n 1, 1) := by decide +kernel
theorem dX7_whyNotRead_2 : decode cX7_whyNotRead 2 = .ok (.invokevirtual 94, 3) := by decide +kernel
theorem dX7_whyNotRead_5 : decode cX7_whyNotRead 5 = .ok (.ifCond .eq 10, 3) := by decide +kernel
theorem dX7_whyNotRead_8 : decode cX7_whyNotRead 8 = .ok (.iload_n 2, 1) := by decide +kernel
theorem dX7_whyNotRead_9 : decode cX7_whyNotRead 9 = .ok (.invokestatic 85, 3) := by decide +kernel
theorem dX7_whyNotRead_12 : decode cX7_whyNotRead 12 = .ok (.ifCond .ne 5, 3) := by decide +kernel
theorem dX7_whyNotRead_15 : decode cX7_whyNotRead 15 = .ok (.iconst (-1), 1) := by decide +kernel
theorem dX7_whyNotRead_16 : decode cX7_whyNotRead 16 = .ok (.ireturn, 1) := by decide +kernel
theorem dX7_whyNotRead_17 : decode cX7_whyNotRead 17 = .ok (.aload_n 0, 1) := by decide +kernel
theorem dX7_whyNotRead_18 : decode cX7_whyNotRead 18 = .ok (.iload_n 1, 1) := by decide +kernel
theorem dX7_whyNotRead_19 : decode cX7_whyNotRead 19 = .ok (.iload_n 2, 1) := by decide +kernel
theorem dX7_whyNotRead_20 : decode cX7_whyNotRead 20 = .ok (.invokevirtual 129, 3) := by decide +kernel
theorem dX7_whyNotRead_23 : decode cX7_whyNotRead 23 = .ok (.bipush (-6), 2) := by decide +kernel
theorem dX7_whyNotRead_25 : decode cX7_whyNotRead 25 = .ok (.if_icmp .ne 18, 3) := by decide +kernel
theorem dX7_whyNotRead_28 : decode cX7_whyNotRead 28 = .ok (.aload_n 0, 1) := by decide +kernel
theorem dX7_whyNotRead_29 : decode cX7_whyNotRead 29 = .ok (.iload_n 1, 1) := by decide +kernel
theorem dX7_whyNotRead_30 : decode cX7_whyNotRead 30 = .ok (.bipush 8, 2) := by decide +kernel
theorem dX7_whyNotRead_32 : decode cX7_whyNotRead 32 = .ok (.invokevirtual 109, 3) := by decide +kernel
theorem dX7_whyNotRead_35 : decode cX7_whyNotRead 35 = .ok (.ifCond .ne 8, 3) := by decide +kernel
theorem dX7_whyNotRead_38 : decode cX7_whyNotRead 38 = .ok (.bipush (-3), 2) := by decide +kernel
theorem dX7_whyNotRead_40 : decode cX7_whyNotRead 40 = .ok (.goto 4, 3) := by decide +kernel
theorem dX7_whyNotRead_43 : decode cX7_whyNotRead 43 = .ok (.iconst 0, 1) := by decide +kernel
theorem dX7_whyNotRead_44 : decode cX7_whyNotRead 44 = .ok (.ireturn, 1) := by decide +kernel
theorem dX7_reads_0 : decode cX7_reads 0 = .ok (.aload_n 0, 1) := by decide +kernel
theorem dX7_reads_1 : decode cX7_reads 1 = .ok (.iload_n 1, 1) := by decide +kernel
theorem dX7_reads_2 : decode cX7_reads 2 = .ok (.iload_n 2, 1) := by decide +kernel
theorem dX7_reads_3 : decode cX7_reads 3 = .ok (.invokevirtual 129, 3) := by decide +kernel
theorem dX7_reads_6 : decode cX7_reads 6 = .ok (.istore_n 3, 1) := by decide +kernel
theorem dX7_reads_7 : decode cX7_reads 7 = .ok (.iload_n 3, 1) := by decide +kernel
theorem dX7_reads_8 : decode cX7_reads 8 = .ok (.bipush (-6), 2) := by decide +kernel
theorem dX7_reads_10 : decode cX7_reads 10 = .ok (.if_icmp .ne 13, 3) := by decide +kernel
theorem dX7_reads_13 : decode cX7_reads 13 = .ok (.aload_n 0, 1) := by decide +kernel
theorem dX7_reads_14 : decode cX7_reads 14 = .ok (.iload_n 1, 1) := by decide +kernel
theorem dX7_reads_15 : decode cX7_reads 15 = .ok (.iload_n 2, 1) := by decide +kernel
theorem dX7_reads_16 : decode cX7_reads 16 = .ok (.bipush 9, 2) := by decide +kernel
theorem dX7_reads_18 : decode cX7_reads 18 = .ok (.iconst 0, 1) := by decide +kernel
theorem dX7_reads_19 : decode cX7_reads 19 = .ok (.invokevirtual 132, 3) := by decide +kernel
theorem dX7_reads_22 : decode cX7_reads 22 = .ok (.ireturn, 1) := by decide +kernel
theorem dX7_reads_23 : decode cX7_reads 23 = .ok (.aload_n 0, 1) := by decide +kernel
theorem dX7_reads_24 : decode cX7_reads 24 = .ok (.iload_n 3, 1) := by decide +kernel
theorem dX7_reads_25 : decode cX7_reads 25 = .ok (.invokevirtual 78, 3) := by decide +kernel
theorem dX7_reads_28 : decode cX7_reads 28 = .ok (.aload_n 0, 1) := by decide +kernel
theorem dX7_reads_29 : decode cX7_reads 29 = .ok (.iload_n 1, 1) := by decide +kernel
theorem dX7_reads_30 : decode cX7_reads 30 = .ok (.iload_n 2, 1) := by decide +kernel
theorem dX7_reads_31 : decode cX7_reads 31 = .ok (.aload_n 0, 1) := by decide +kernel
theorem dX7_reads_32 : decode cX7_reads 32 = .ok (.iload_n 1, 1) := by decide +kernel
theorem dX7_reads_33 : decode cX7_reads 33 = .ok (.iconst 1, 1) := by decide +kernel
theorem dX7_reads_34 : decode cX7_reads 34 = .ok (.invokevirtual 38, 3) := by decide +kernel
theorem dX7_reads_37 : decode cX7_reads 37 = .ok (.iload_n 3, 1) := by decide +kernel
theorem dX7_reads_38 : decode cX7_reads 38 = .ok (.invokevirtual 132, 3) := by decide +kernel
theorem dX7_reads_41 : decode cX7_reads 41 = .ok (.ireturn, 1) := by decide +kernel
theorem dX7_read_0 : decode cX7_read 0 = .ok (.aload_n 0, 1) := by decide +kernel
theorem dX7_read_1 : decode cX7_read 1 = .ok (.iload_n 1, 1) := by decide +kernel
theorem dX7_read_2 : decode cX7_read 2 = .ok (.iload_n 2, 1) := by decide +kernel
theorem dX7_read_3 : decode cX7_read 3 = .ok (.invokevirtual 136, 3) := by decide +kernel
theorem dX7_read_6 : decode cX7_read 6 = .ok (.istore_n 3, 1) := by decide +kernel
theorem dX7_read_7 : decode cX7_read 7 = .ok (.iload_n 3, 1) := by decide +kernel
theorem dX7_read_8 : decode cX7_read 8 = .ok (.ifCond .ge 5, 3) := by decide +kernel
theorem dX7_read_11 : decode cX7_read 11 = .ok (.iload_n 3, 1) := by decide +kernel
theorem dX7_read_12 : decode cX7_read 12 = .ok (.ireturn, 1) := by decide +kernel
theorem dX7_read_13 : decode cX7_read 13 = .ok (.aload_n 0, 1) := by decide +kernel
theorem dX7_read_14 : decode cX7_read 14 = .ok (.invokevirtual 49, 3) := by decide +kernel
theorem dX7_read_17 : decode cX7_read 17 = .ok (.aload_n 0, 1) := by decide +kernel
theorem dX7_read_18 : decode cX7_read 18 = .ok (.iload_n 1, 1) := by decide +kernel
theorem dX7_read_19 : decode cX7_read 19 = .ok (.iload_n 2, 1) := by decide +kernel
theorem dX7_read_20 : decode cX7_read 20 = .ok (.invokevirtual 139, 3) := by decide +kernel
theorem dX7_read_23 : decode cX7_read 23 = .ok (.ireturn, 1) := by decide +kernel
theorem dX7_readAt_0 : decode cX7_readAt 0 = .ok (.aload_n 0, 1) := by decide +kernel
theorem dX7_readAt_1 : decode cX7_readAt 1 = .ok (.iload_n 1, 1) := by decide +kernel
theorem dX7_readAt_2 : decode cX7_readAt 2 = .ok (.invokevirtual 94, 3) := by decide +kernel
theorem dX7_readAt_5 : decode cX7_readAt 5 = .ok (.ifCond .eq 18, 3) := by decide +kernel
theorem dX7_readAt_8 : decode cX7_readAt 8 = .ok (.iload_n 2, 1) := by decide +kernel
theorem dX7_readAt_9 : decode cX7_readAt 9 = .ok (.invokestatic 85, 3) := by decide +kernel
theorem dX7_readAt_12 : decode cX7_readAt 12 = .ok (.ifCond .eq 11, 3) := by decide +kernel
theorem dX7_readAt_15 : decode cX7_readAt 15 = .ok (.aload_n 0, 1) := by decide +kernel
theorem dX7_readAt_16 : decode cX7_readAt 16 = .ok (.iload_n 3, 1) := by decide +kernel
theorem dX7_readAt_17 : decode cX7_readAt 17 = .ok (.invokevirtual 52, 3) := by decide +kernel
theorem dX7_readAt_20 : decode cX7_readAt 20 = .ok (.ifCond .ne 5, 3) := by decide +kernel
theorem dX7_readAt_23 : decode cX7_readAt 23 = .ok (.iconst (-1), 1) := by decide +kernel
theorem dX7_readAt_24 : decode cX7_readAt 24 = .ok (.ireturn, 1) := by decide +kernel
theorem dX7_readAt_25 : decode cX7_readAt 25 = .ok (.aload_n 0, 1) := by decide +kernel
theorem dX7_readAt_26 : decode cX7_readAt 26 = .ok (.iload_n 1, 1) := by decide +kernel
theorem dX7_readAt_27 : decode cX7_readAt 27 = .ok (.iload_n 2, 1) := by decide +kernel
theorem dX7_readAt_28 : decode cX7_readAt 28 = .ok (.iload_n 3, 1) := by decide +kernel
theorem dX7_readAt_29 : decode cX7_readAt 29 = .ok (.invokevirtual 126, 3) := by decide +kernel
theorem dX7_readAt_32 : decode cX7_readAt 32 = .ok (.ifCond .eq 6, 3) := by decide +kernel
theorem dX7_readAt_35 : decode cX7_readAt 35 = .ok (.bipush (-3), 2) := by decide +kernel
theorem dX7_readAt_37 : decode cX7_readAt 37 = .ok (.ireturn, 1) := by decide +kernel
theorem dX7_readAt_38 : decode cX7_readAt 38 = .ok (.aload_n 0, 1) := by decide +kernel
theorem dX7_readAt_39 : decode cX7_readAt 39 = .ok (.invokevirtual 49, 3) := by decide +kernel
theorem dX7_readAt_42 : decode cX7_readAt 42 = .ok (.aload_n 0, 1) := by decide +kernel
theorem dX7_readAt_43 : decode cX7_readAt 43 = .ok (.iload_n 1, 1) := by decide +kernel
theorem dX7_readAt_44 : decode cX7_readAt 44 = .ok (.iload_n 2, 1) := by decide +kernel
theorem dX7_readAt_45 : decode cX7_readAt 45 = .ok (.iload_n 3, 1) := by decide +kernel
theorem dX7_readAt_46 : decode cX7_readAt 46 = .ok (.iconst 0, 1) := by decide +kernel
theorem dX7_readAt_47 : decode cX7_readAt 47 = .ok (.invokevirtual 132, 3) := by decide +kernel
theorem dX7_readAt_50 : decode cX7_readAt 50 = .ok (.ireturn, 1) := by decide +kernel
theorem dX7_latest_0 : decode cX7_latest 0 = .ok (.iload_n 1, 1) := by decide +kernel
theorem dX7_latest_1 : decode cX7_latest 1 = .ok (.iconst 0, 1) := by decide +kernel
theorem dX7_latest_2 : decode cX7_latest 2 = .ok (.iconst 2, 1) := by decide +kernel
theorem dX7_latest_3 : decode cX7_latest 3 = .ok (.invokestatic 26, 3) := by decide +kernel
theorem dX7_latest_6 : decode cX7_latest 6 = .ok (.ifCond .eq 14, 3) := by decide +kernel
theorem dX7_latest_9 : decode cX7_latest 9 = .ok (.aload_n 0, 1) := by decide +kernel
theorem dX7_latest_10 : decode cX7_latest 10 = .ok (.getfield 7, 3) := by decide +kernel
theorem dX7_latest_13 : decode cX7_latest 13 = .ok (.iconst 1, 1) := by decide +kernel
theorem dX7_latest_14 : decode cX7_latest 14 = .ok (.iload_n 1, 1) := by decide +kernel
theorem dX7_latest_15 : decode cX7_latest 15 = .ok (.iadd, 1) := by decide +kernel
theorem dX7_latest_16 : decode cX7_latest 16 = .ok (.iaload, 1) := by decide +kernel
theorem dX7_latest_17 : decode cX7_latest 17 = .ok (.goto 5, 3) := by decide +kernel
theorem dX7_latest_20 : decode cX7_latest 20 = .ok (.bipush (-2), 2) := by decide +kernel
theorem dX7_latest_22 : decode cX7_latest 22 = .ok (.ireturn, 1) := by decide +kernel
theorem dX7_waitFor_0 : decode cX7_waitFor 0 = .ok (.aload_n 0, 1) := by decide +kernel
theorem dX7_waitFor_1 : decode cX7_waitFor 1 = .ok (.iload_n 1, 1) := by decide +kernel
theorem dX7_waitFor_2 : decode cX7_waitFor 2 = .ok (.invokevirtual 94, 3) := by decide +kernel
theorem dX7_waitFor_5 : decode cX7_waitFor 5 = .ok (.ifCond .eq 28, 3) := by decide +kernel
theorem dX7_waitFor_8 : decode cX7_waitFor 8 = .ok (.iload_n 2, 1) := by decide +kernel
theorem dX7_waitFor_9 : decode cX7_waitFor 9 = .ok (.invokestatic 85, 3) := by decide +kernel
theorem dX7_waitFor_12 : decode cX7_waitFor 12 = .ok (.ifCond .eq 21, 3) := by decide +kernel
theorem dX7_waitFor_15 : decode cX7_waitFor 15 = .ok (.aload_n 0, 1) := by decide +kernel
theorem dX7_waitFor_16 : decode cX7_waitFor 16 = .ok (.iload_n 3, 1) := by decide +kernel
theorem dX7_waitFor_17 : decode cX7_waitFor 17 = .ok (.invokevirtual 52, 3) := by decide +kernel
theorem dX7_waitFor_20 : decode cX7_waitFor 20 = .ok (.ifCond .eq 13, 3) := by decide +kernel
theorem dX7_waitFor_23 : decode cX7_waitFor 23 = .ok (.aload_n 0, 1) := by decide +kernel
theorem dX7_waitFor_24 : decode cX7_waitFor 24 = .ok (.iload_n 1, 1) := by decide +kernel
theorem dX7_waitFor_25 : decode cX7_waitFor 25 = .ok (.iload_n 2, 1) := by decide +kernel
theorem dX7_waitFor_26 : decode cX7_waitFor 26 = .ok (.iload_n 3, 1) := by decide +kernel
theorem dX7_waitFor_27 : decode cX7_waitFor 27 = .ok (.invokevirtual 126, 3) := by decide +kernel
theorem dX7_waitFor_30 : decode cX7_waitFor 30 = .ok (.goto 4, 3) := by decide +kernel
theorem dX7_waitFor_33 : decode cX7_waitFor 33 = .ok (.iconst (-1), 1) := by decide +kernel
theorem dX7_waitFor_34 : decode cX7_waitFor 34 = .ok (.ireturn, 1) := by decide +kernel
theorem dX7_bestReplica_0 : decode cX7_bestReplica 0 = .ok (.aload_n 0, 1) := by decide +kernel
theorem dX7_bestReplica_1 : decode cX7_bestReplica 1 = .ok (.iload_n 1, 1) := by decide +kernel
theorem dX7_bestReplica_2 : decode cX7_bestReplica 2 = .ok (.invokevirtual 94, 3) := by decide +kernel
theorem dX7_bestReplica_5 : decode cX7_bestReplica 5 = .ok (.ifCond .eq 10, 3) := by decide +kernel
theorem dX7_bestReplica_8 : decode cX7_bestReplica 8 = .ok (.iload_n 2, 1) := by decide +kernel
theorem dX7_bestReplica_9 : decode cX7_bestReplica 9 = .ok (.invokestatic 85, 3) := by decide +kernel
theorem dX7_bestReplica_12 : decode cX7_bestReplica 12 = .ok (.ifCond .ne 5, 3) := by decide +kernel
theorem dX7_bestReplica_15 : decode cX7_bestReplica 15 = .ok (.iconst (-1), 1) := by decide +kernel
theorem dX7_bestReplica_16 : decode cX7_bestReplica 16 = .ok (.ireturn, 1) := by decide +kernel
theorem dX7_bestReplica_17 : decode cX7_bestReplica 17 = .ok (.bipush (-6), 2) := by decide +kernel
theorem dX7_bestReplica_19 : decode cX7_bestReplica 19 = .ok (.istore_n 3, 1) := by decide +kernel
theorem dX7_bestReplica_20 : decode cX7_bestReplica 20 = .ok (.iconst 0, 1) := by decide +kernel
theorem dX7_bestReplica_21 : decode cX7_bestReplica 21 = .ok (.istore 4, 2) := by decide +kernel
theorem dX7_bestReplica_23 : decode cX7_bestReplica 23 = .ok (.iconst 0, 1) := by decide +kernel
theorem dX7_bestReplica_24 : decode cX7_bestReplica 24 = .ok (.istore 5, 2) := by decide +kernel
theorem dX7_bestReplica_26 : decode cX7_bestReplica 26 = .ok (.iload 5, 2) := by decide +kernel
theorem dX7_bestReplica_28 : decode cX7_bestReplica 28 = .ok (.iconst 5, 1) := by decide +kernel
theorem dX7_bestReplica_29 : decode cX7_bestReplica 29 = .ok (.if_icmp .ge 88, 3) := by decide +kernel
theorem dX7_bestReplica_32 : decode cX7_bestReplica 32 = .ok (.aload_n 0, 1) := by decide +kernel
theorem dX7_bestReplica_33 : decode cX7_bestReplica 33 = .ok (.iload 5, 2) := by decide +kernel
theorem dX7_bestReplica_35 : decode cX7_bestReplica 35 = .ok (.iconst 0, 1) := by decide +kernel
theorem dX7_bestReplica_36 : decode cX7_bestReplica 36 = .ok (.invokevirtual 30, 3) := by decide +kernel
theorem dX7_bestReplica_39 : decode cX7_bestReplica 39 = .ok (.iconst 1, 1) := by decide +kernel
theorem dX7_bestReplica_40 : decode cX7_bestReplica 40 = .ok (.if_icmp .ne 14, 3) := by decide +kernel
theorem dX7_bestReplica_43 : decode cX7_bestReplica 43 = .ok (.aload_n 0, 1) := by decide +kernel
theorem dX7_bestReplica_44 : decode cX7_bestReplica 44 = .ok (.iload_n 1, 1) := by decide +kernel
theorem dX7_bestReplica_45 : decode cX7_bestReplica 45 = .ok (.iload_n 2, 1) := by decide +kernel
theorem dX7_bestReplica_46 : decode cX7_bestReplica 46 = .ok (.iload 5, 2) := by decide +kernel
theorem dX7_bestReplica_48 : decode cX7_bestReplica 48 = .ok (.invokevirtual 126, 3) := by decide +kernel
theorem dX7_bestReplica_51 : decode cX7_bestReplica 51 = .ok (.goto 5, 3) := by decide +kernel
theorem dX7_bestReplica_54 : decode cX7_bestReplica 54 = .ok (.bipush (-6), 2) := by decide +kernel
theorem dX7_bestReplica_56 : decode cX7_bestReplica 56 = .ok (.istore 6, 2) := by decide +kernel
theorem dX7_bestReplica_58 : decode cX7_bestReplica 58 = .ok (.iload 6, 2) := by decide +kernel
theorem dX7_bestReplica_60 : decode cX7_bestReplica 60 = .ok (.bipush (-6), 2) := by decide +kernel
theorem dX7_bestReplica_62 : decode cX7_bestReplica 62 = .ok (.if_icmp .eq 20, 3) := by decide +kernel
theorem dX7_bestReplica_65 : decode cX7_bestReplica 65 = .ok (.iload_n 3, 1) := by decide +kernel
theorem dX7_bestReplica_66 : decode cX7_bestReplica 66 = .ok (.bipush (-6), 2) := by decide +kernel
theorem dX7_bestReplica_68 : decode cX7_bestReplica 68 = .ok (.if_icmp .eq 10, 3) := by decide +kernel
theorem dX7_bestReplica_71 : decode cX7_bestReplica 71 = .ok (.iload 6, 2) := by decide +kernel
theorem dX7_bestReplica_73 : decode cX7_bestReplica 73 = .ok (.iload 4, 2) := by decide +kernel
theorem dX7_bestReplica_75 : decode cX7_bestReplica 75 = .ok (.if_icmp .ge 7, 3) := by decide +kernel
theorem dX7_bestReplica_78 : decode cX7_bestReplica 78 = .ok (.iconst 1, 1) := by decide +kernel
theorem dX7_bestReplica_79 : decode cX7_bestReplica 79 = .ok (.goto 4, 3) := by decide +kernel
theorem dX7_bestReplica_82 : decode cX7_bestReplica 82 = .ok (.iconst 0, 1) := by decide +kernel
theorem dX7_bestReplica_83 : decode cX7_bestReplica 83 = .ok (.istore 7, 2) := by decide +kernel
theorem dX7_bestReplica_85 : decode cX7_bestReplica 85 = .ok (.iload 7, 2) := by decide +kernel
theorem dX7_bestReplica_87 : decode cX7_bestReplica 87 = .ok (.ifCond .eq 8, 3) := by decide +kernel
theorem dX7_bestReplica_90 : decode cX7_bestReplica 90 = .ok (.iload 5, 2) := by decide +kernel
theorem dX7_bestReplica_92 : decode cX7_bestReplica 92 = .ok (.goto 4, 3) := by decide +kernel
theorem dX7_bestReplica_95 : decode cX7_bestReplica 95 = .ok (.iload_n 3, 1) := by decide +kernel
theorem dX7_bestReplica_96 : decode cX7_bestReplica 96 = .ok (.istore_n 3, 1) := by decide +kernel
theorem dX7_bestReplica_97 : decode cX7_bestReplica 97 = .ok (.iload 7, 2) := by decide +kernel
theorem dX7_bestReplica_99 : decode cX7_bestReplica 99 = .ok (.ifCond .eq 8, 3) := by decide +kernel
theorem dX7_bestReplica_102 : decode cX7_bestReplica 102 = .ok (.iload 6, 2) := by decide +kernel
theorem dX7_bestReplica_104 : decode cX7_bestReplica 104 = .ok (.goto 5, 3) := by decide +kernel
theorem dX7_bestReplica_107 : decode cX7_bestReplica 107 = .ok (.iload 4, 2) := by decide +kernel
theorem dX7_bestReplica_109 : decode cX7_bestReplica 109 = .ok (.istore 4, 2) := by decide +kernel
theorem dX7_bestReplica_111 : decode cX7_bestReplica 111 = .ok (.iinc 5 1, 3) := by decide +kernel
theorem dX7_bestReplica_114 : decode cX7_bestReplica 114 = .ok (.goto (-88), 3) := by decide +kernel
theorem dX7_bestReplica_117 : decode cX7_bestReplica 117 = .ok (.iload_n 3, 1) := by decide +kernel
theorem dX7_bestReplica_118 : decode cX7_bestReplica 118 = .ok (.ireturn, 1) := by decide +kernel
theorem dX7_keysAfter_0 : decode cX7_keysAfter 0 = .ok (.aload_n 0, 1) := by decide +kernel
theorem dX7_keysAfter_1 : decode cX7_keysAfter 1 = .ok (.iload_n 1, 1) := by decide +kernel
theorem dX7_keysAfter_2 : decode cX7_keysAfter 2 = .ok (.invokevirtual 94, 3) := by decide +kernel
theorem dX7_keysAfter_5 : decode cX7_keysAfter 5 = .ok (.ifCond .eq 11, 3) := by decide +kernel
theorem dX7_keysAfter_8 : decode cX7_keysAfter 8 = .ok (.aload_n 0, 1) := by decide +kernel
theorem dX7_keysAfter_9 : decode cX7_keysAfter 9 = .ok (.iload_n 2, 1) := by decide +kernel
theorem dX7_keysAfter_10 : decode cX7_keysAfter 10 = .ok (.invokevirtual 52, 3) := by decide +kernel
theorem dX7_keysAfter_13 : decode cX7_keysAfter 13 = .ok (.ifCond .ne 5, 3) := by decide +kernel
theorem dX7_keysAfter_16 : decode cX7_keysAfter 16 = .ok (.iconst (-1), 1) := by decide +kernel
theorem dX7_keysAfter_17 : decode cX7_keysAfter 17 = .ok (.ireturn, 1) := by decide +kernel
theorem dX7_keysAfter_18 : decode cX7_keysAfter 18 = .ok (.iload_n 3, 1) := by decide +kernel
theorem dX7_keysAfter_19 : decode cX7_keysAfter 19 = .ok (.iconst 0, 1) := by decide +kernel
theorem dX7_keysAfter_20 : decode cX7_keysAfter 20 = .ok (.bipush 99, 2) := by decide +kernel
theorem dX7_keysAfter_22 : decode cX7_keysAfter 22 = .ok (.invokestatic 26, 3) := by decide +kernel
theorem dX7_keysAfter_25 : decode cX7_keysAfter 25 = .ok (.ifCond .ne 6, 3) := by decide +kernel
theorem dX7_keysAfter_28 : decode cX7_keysAfter 28 = .ok (.bipush (-2), 2) := by decide +kernel
theorem dX7_keysAfter_30 : decode cX7_keysAfter 30 = .ok (.ireturn, 1) := by decide +kernel
theorem dX7_keysAfter_31 : decode cX7_keysAfter 31 = .ok (.iconst 0, 1) := by decide +kernel
theorem dX7_keysAfter_32 : decode cX7_keysAfter 32 = .ok (.istore 4, 2) := by decide +kernel
theorem dX7_keysAfter_34 : decode cX7_keysAfter 34 = .ok (.iconst 0, 1) := by decide +kernel
theorem dX7_keysAfter_35 : decode cX7_keysAfter 35 = .ok (.istore 5, 2) := by decide +kernel
theorem dX7_keysAfter_37 : decode cX7_keysAfter 37 = .ok (.iload 5, 2) := by decide +kernel
theorem dX7_keysAfter_39 : decode cX7_keysAfter 39 = .ok (.bipush 12, 2) := by decide +kernel
theorem dX7_keysAfter_41 : decode cX7_keysAfter 41 = .ok (.if_icmp .ge 35, 3) := by decide +kernel
theorem dX7_keysAfter_44 : decode cX7_keysAfter 44 = .ok (.iload 4, 2) := by decide +kernel
theorem dX7_keysAfter_46 : decode cX7_keysAfter 46 = .ok (.aload_n 0, 1) := by decide +kernel
theorem dX7_keysAfter_47 : decode cX7_keysAfter 47 = .ok (.iload_n 2, 1) := by decide +kernel
theorem dX7_keysAfter_48 : decode cX7_keysAfter 48 = .ok (.iload_n 3, 1) := by decide +kernel
theorem dX7_keysAfter_49 : decode cX7_keysAfter 49 = .ok (.invokevirtual 75, 3) := by decide +kernel
theorem dX7_keysAfter_52 : decode cX7_keysAfter 52 = .ok (.aload_n 0, 1) := by decide +kernel
theorem dX7_keysAfter_53 : decode cX7_keysAfter 53 = .ok (.iload_n 1, 1) := by decide +kernel
theorem dX7_keysAfter_54 : decode cX7_keysAfter 54 = .ok (.iload 5, 2) := by decide +kernel
theorem dX7_keysAfter_56 : decode cX7_keysAfter 56 = .ok (.invokevirtual 123, 3) := by decide +kernel
theorem dX7_keysAfter_59 : decode cX7_keysAfter 59 = .ok (.if_icmp .lt 7, 3) := by decide +kernel
theorem dX7_keysAfter_62 : decode cX7_keysAfter 62 = .ok (.iconst 1, 1) := by decide +kernel
theorem dX7_keysAfter_63 : decode cX7_keysAfter 63 = .ok (.goto 4, 3) := by decide +kernel
theorem dX7_keysAfter_66 : decode cX7_keysAfter 66 = .ok (.iconst 0, 1) := by decide +kernel
theorem dX7_keysAfter_67 : decode cX7_keysAfter 67 = .ok (.iadd, 1) := by decide +kernel
theorem dX7_keysAfter_68 : decode cX7_keysAfter 68 = .ok (.istore 4, 2) := by decide +kernel
theorem dX7_keysAfter_70 : decode cX7_keysAfter 70 = .ok (.iinc 5 1, 3) := by decide +kernel
theorem dX7_keysAfter_73 : decode cX7_keysAfter 73 = .ok (.goto (-36), 3) := by decide +kernel
theorem dX7_keysAfter_76 : decode cX7_keysAfter 76 = .ok (.iload 4, 2) := by decide +kernel
theorem dX7_keysAfter_78 : decode cX7_keysAfter 78 = .ok (.ireturn, 1) := by decide +kernel
theorem dX7_catchUp_0 : decode cX7_catchUp 0 = .ok (.iconst 0, 1) := by decide +kernel
theorem dX7_catchUp_1 : decode cX7_catchUp 1 = .ok (.istore_n 1, 1) := by decide +kernel
theorem dX7_catchUp_2 : decode cX7_catchUp 2 = .ok (.iconst 0, 1) := by decide +kernel
theorem dX7_catchUp_3 : decode cX7_catchUp 3 = .ok (.istore_n 2, 1) := by decide +kernel
theorem dX7_catchUp_4 : decode cX7_catchUp 4 = .ok (.iload_n 2, 1) := by decide +kernel
theorem dX7_catchUp_5 : decode cX7_catchUp 5 = .ok (.iconst 5, 1) := by decide +kernel
theorem dX7_catchUp_6 : decode cX7_catchUp 6 = .ok (.if_icmp .ge 93, 3) := by decide +kernel
theorem dX7_catchUp_9 : decode cX7_catchUp 9 = .ok (.aload_n 0, 1) := by decide +kernel
theorem dX7_catchUp_10 : decode cX7_catchUp 10 = .ok (.iload_n 2, 1) := by decide +kernel
theorem dX7_catchUp_11 : decode cX7_catchUp 11 = .ok (.iconst 0, 1) := by decide +kernel
theorem dX7_catchUp_12 : decode cX7_catchUp 12 = .ok (.invokevirtual 30, 3) := by decide +kernel
theorem dX7_catchUp_15 : decode cX7_catchUp 15 = .ok (.iconst 1, 1) := by decide +kernel
theorem dX7_catchUp_16 : decode cX7_catchUp 16 = .ok (.if_icmp .ne 19, 3) := by decide +kernel
theorem dX7_catchUp_19 : decode cX7_catchUp 19 = .ok (.aload_n 0, 1) := by decide +kernel
theorem dX7_catchUp_20 : decode cX7_catchUp 20 = .ok (.getfield 7, 3) := by decide +kernel
theorem dX7_catchUp_23 : decode cX7_catchUp 23 = .ok (.iconst 0, 1) := by decide +kernel
theorem dX7_catchUp_24 : decode cX7_catchUp 24 = .ok (.iaload, 1) := by decide +kernel
theorem dX7_catchUp_25 : decode cX7_catchUp 25 = .ok (.aload_n 0, 1) := by decide +kernel
theorem dX7_catchUp_26 : decode cX7_catchUp 26 = .ok (.iload_n 2, 1) := by decide +kernel
theorem dX7_catchUp_27 : decode cX7_catchUp 27 = .ok (.iconst 1, 1) := by decide +kernel
theorem dX7_catchUp_28 : decode cX7_catchUp 28 = .ok (.invokevirtual 30, 3) := by decide +kernel
theorem dX7_catchUp_31 : decode cX7_catchUp 31 = .ok (.isub, 1) := by decide +kernel
theorem dX7_catchUp_32 : decode cX7_catchUp 32 = .ok (.goto 4, 3) := by decide +kernel
theorem dX7_catchUp_35 : decode cX7_catchUp 35 = .ok (.iconst 0, 1) := by decide +kernel
theorem dX7_catchUp_36 : decode cX7_catchUp 36 = .ok (.istore_n 3, 1) := by decide +kernel
theorem dX7_catchUp_37 : decode cX7_catchUp 37 = .ok (.aload_n 0, 1) := by decide +kernel
theorem dX7_catchUp_38 : decode cX7_catchUp 38 = .ok (.iload_n 2, 1) := by decide +kernel
theorem dX7_catchUp_39 : decode cX7_catchUp 39 = .ok (.iconst 3, 1) := by decide +kernel
theorem dX7_catchUp_40 : decode cX7_catchUp 40 = .ok (.invokevirtual 30, 3) := by decide +kernel
theorem dX7_catchUp_43 : decode cX7_catchUp 43 = .ok (.iconst 1, 1) := by decide +kernel
theorem dX7_catchUp_44 : decode cX7_catchUp 44 = .ok (.if_icmp .ne 7, 3) := by decide +kernel
theorem dX7_catchUp_47 : decode cX7_catchUp 47 = .ok (.iconst 0, 1) := by decide +kernel
theorem dX7_catchUp_48 : decode cX7_catchUp 48 = .ok (.goto 9, 3) := by decide +kernel
theorem dX7_catchUp_51 : decode cX7_catchUp 51 = .ok (.aload_n 0, 1) := by decide +kernel
theorem dX7_catchUp_52 : decode cX7_catchUp 52 = .ok (.iload_n 2, 1) := by decide +kernel
theorem dX7_catchUp_53 : decode cX7_catchUp 53 = .ok (.iconst 2, 1) := by decide +kernel
theorem dX7_catchUp_54 : decode cX7_catchUp 54 = .ok (.invokevirtual 30, 3) := by decide +kernel
theorem dX7_catchUp_57 : decode cX7_catchUp 57 = .ok (.istore 4, 2) := by decide +kernel
theorem dX7_catchUp_59 : decode cX7_catchUp 59 = .ok (.iload_n 3, 1) := by decide +kernel
theorem dX7_catchUp_60 : decode cX7_catchUp 60 = .ok (.ifCond .le 11, 3) := by decide +kernel
theorem dX7_catchUp_63 : decode cX7_catchUp 63 = .ok (.iload 4, 2) := by decide +kernel
theorem dX7_catchUp_65 : decode cX7_catchUp 65 = .ok (.ifCond .ne 6, 3) := by decide +kernel
theorem dX7_catchUp_68 : decode cX7_catchUp 68 = .ok (.bipush (-6), 2) := by decide +kernel
theorem dX7_catchUp_70 : decode cX7_catchUp 70 = .ok (.ireturn, 1) := by decide +kernel
theorem dX7_catchUp_71 : decode cX7_catchUp 71 = .ok (.iload_n 3, 1) := by decide +kernel
theorem dX7_catchUp_72 : decode cX7_catchUp 72 = .ok (.ifCond .le 19, 3) := by decide +kernel
theorem dX7_catchUp_75 : decode cX7_catchUp 75 = .ok (.iload_n 1, 1) := by decide +kernel
theorem dX7_catchUp_76 : decode cX7_catchUp 76 = .ok (.iload_n 3, 1) := by decide +kernel
theorem dX7_catchUp_77 : decode cX7_catchUp 77 = .ok (.iload 4, 2) := by decide +kernel
theorem dX7_catchUp_79 : decode cX7_catchUp 79 = .ok (.iadd, 1) := by decide +kernel
theorem dX7_catchUp_80 : decode cX7_catchUp 80 = .ok (.iconst 1, 1) := by decide +kernel
theorem dX7_catchUp_81 : decode cX7_catchUp 81 = .ok (.isub, 1) := by decide +kernel
theorem dX7_catchUp_82 : decode cX7_catchUp 82 = .ok (.iload 4, 2) := by decide +kernel
theorem dX7_catchUp_84 : decode cX7_catchUp 84 = .ok (.idiv, 1) := by decide +kernel
theorem dX7_catchUp_85 : decode cX7_catchUp 85 = .ok (.invokestatic 100, 3) := by decide +kernel
theorem dX7_catchUp_88 : decode cX7_catchUp 88 = .ok (.goto 4, 3) := by decide +kernel
theorem dX7_catchUp_91 : decode cX7_catchUp 91 = .ok (.iload_n 1, 1) := by decide +kernel
theorem dX7_catchUp_92 : decode cX7_catchUp 92 = .ok (.istore_n 1, 1) := by decide +kernel
theorem dX7_catchUp_93 : decode cX7_catchUp 93 = .ok (.iinc 2 1, 3) := by decide +kernel
theorem dX7_catchUp_96 : decode cX7_catchUp 96 = .ok (.goto (-92), 3) := by decide +kernel
theorem dX7_catchUp_99 : decode cX7_catchUp 99 = .ok (.iload_n 1, 1) := by decide +kernel
theorem dX7_catchUp_100 : decode cX7_catchUp 100 = .ok (.ireturn, 1) := by decide +kernel
theorem dX7_append_0 : decode cX7_append 0 = .ok (.iload_n 1, 1) := by decide +kernel
theorem dX7_append_1 : decode cX7_append 1 = .ok (.bipush 33, 2) := by decide +kernel
theorem dX7_append_3 : decode cX7_append 3 = .ok (.bipush 126, 2) := by decide +kernel
theorem dX7_append_5 : decode cX7_append 5 = .ok (.invokestatic 26, 3) := by decide +kernel
theorem dX7_append_8 : decode cX7_append 8 = .ok (.ifCond .ne 6, 3) := by decide +kernel
theorem dX7_append_11 : decode cX7_append 11 = .ok (.bipush (-2), 2) := by decide +kernel
theorem dX7_append_13 : decode cX7_append 13 = .ok (.ireturn, 1) := by decide +kernel
theorem dX7_append_14 : decode cX7_append 14 = .ok (.aload_n 0, 1) := by decide +kernel
theorem dX7_append_15 : decode cX7_append 15 = .ok (.getfield 142, 3) := by decide +kernel
theorem dX7_append_18 : decode cX7_append 18 = .ok (.bipush 80, 2) := by decide +kernel
theorem dX7_append_20 : decode cX7_append 20 = .ok (.if_icmp .ne 6, 3) := by decide +kernel
theorem dX7_append_23 : decode cX7_append 23 = .ok (.bipush (-4), 2) := by decide +kernel
theorem dX7_append_25 : decode cX7_append 25 = .ok (.ireturn, 1) := by decide +kernel
theorem dX7_append_26 : decode cX7_append 26 = .ok (.aload_n 0, 1) := by decide +kernel
theorem dX7_append_27 : decode cX7_append 27 = .ok (.getfield 19, 3) := by decide +kernel
theorem dX7_append_30 : decode cX7_append 30 = .ok (.aload_n 0, 1) := by decide +kernel
theorem dX7_append_31 : decode cX7_append 31 = .ok (.getfield 142, 3) := by decide +kernel
theorem dX7_append_34 : decode cX7_append 34 = .ok (.iload_n 1, 1) := by decide +kernel
theorem dX7_append_35 : decode cX7_append 35 = .ok (.i2c, 1) := by decide +kernel
theorem dX7_append_36 : decode cX7_append 36 = .ok (.castore, 1) := by decide +kernel
theorem dX7_append_37 : decode cX7_append 37 = .ok (.aload_n 0, 1) := by decide +kernel
theorem dX7_append_38 : decode cX7_append 38 = .ok (.dup, 1) := by decide +kernel
theorem dX7_append_39 : decode cX7_append 39 = .ok (.getfield 142, 3) := by decide +kernel
theorem dX7_append_42 : decode cX7_append 42 = .ok (.iconst 1, 1) := by decide +kernel
theorem dX7_append_43 : decode cX7_append 43 = .ok (.iadd, 1) := by decide +kernel
theorem dX7_append_44 : decode cX7_append 44 = .ok (.putfield 142, 3) := by decide +kernel
theorem dX7_append_47 : decode cX7_append 47 = .ok (.aload_n 0, 1) := by decide +kernel
theorem dX7_append_48 : decode cX7_append 48 = .ok (.getfield 142, 3) := by decide +kernel
theorem dX7_append_51 : decode cX7_append 51 = .ok (.ireturn, 1) := by decide +kernel
theorem dX7_clearText_0 : decode cX7_clearText 0 = .ok (.aload_n 0, 1) := by decide +kernel
theorem dX7_clearText_1 : decode cX7_clearText 1 = .ok (.getfield 142, 3) := by decide +kernel
theorem dX7_clearText_4 : decode cX7_clearText 4 = .ok (.istore_n 1, 1) := by decide +kernel
theorem dX7_clearText_5 : decode cX7_clearText 5 = .ok (.aload_n 0, 1) := by decide +kernel
theorem dX7_clearText_6 : decode cX7_clearText 6 = .ok (.iconst 0, 1) := by decide +kernel
theorem dX7_clearText_7 : decode cX7_clearText 7 = .ok (.putfield 142, 3) := by decide +kernel
theorem dX7_clearText_10 : decode cX7_clearText 10 = .ok (.iload_n 1, 1) := by decide +kernel
theorem dX7_clearText_11 : decode cX7_clearText 11 = .ok (.ireturn, 1) := by decide +kernel
theorem dX7_letter_0 : decode cX7_letter 0 = .ok (.aload_n 0, 1) := by decide +kernel
theorem dX7_letter_1 : decode cX7_letter 1 = .ok (.getfield 145, 3) := by decide +kernel
theorem dX7_letter_4 : decode cX7_letter 4 = .ok (.aload_n 0, 1) := by decide +kernel
theorem dX7_letter_5 : decode cX7_letter 5 = .ok (.getfield 142, 3) := by decide +kernel
theorem dX7_letter_8 : decode cX7_letter 8 = .ok (.if_icmp .ge 15, 3) := by decide +kernel
theorem dX7_letter_11 : decode cX7_letter 11 = .ok (.aload_n 0, 1) := by decide +kernel
theorem dX7_letter_12 : decode cX7_letter 12 = .ok (.getfield 19, 3) := by decide +kernel
theorem dX7_letter_15 : decode cX7_letter 15 = .ok (.aload_n 0, 1) := by decide +kernel
theorem dX7_letter_16 : decode cX7_letter 16 = .ok (.getfield 145, 3) := by decide +kernel
theorem dX7_letter_19 : decode cX7_letter 19 = .ok (.caload, 1) := by decide +kernel
theorem dX7_letter_20 : decode cX7_letter 20 = .ok (.goto 5, 3) := by decide +kernel
theorem dX7_letter_23 : decode cX7_letter 23 = .ok (.bipush (-6), 2) := by decide +kernel
theorem dX7_letter_25 : decode cX7_letter 25 = .ok (.ireturn, 1) := by decide +kernel
theorem dX7_wants_0 : decode cX7_wants 0 = .ok (.aload_n 0, 1) := by decide +kernel
theorem dX7_wants_1 : decode cX7_wants 1 = .ok (.getfield 148, 3) := by decide +kernel
theorem dX7_wants_4 : decode cX7_wants 4 = .ok (.bipush (-6), 2) := by decide +kernel
theorem dX7_wants_6 : decode cX7_wants 6 = .ok (.if_icmp .ne 30, 3) := by decide +kernel
theorem dX7_wants_9 : decode cX7_wants 9 = .ok (.aload_n 0, 1) := by decide +kernel
theorem dX7_wants_10 : decode cX7_wants 10 = .ok (.iload_n 1, 1) := by decide +kernel
theorem dX7_wants_11 : decode cX7_wants 11 = .ok (.ifCond .eq 8, 3) := by decide +kernel
theorem dX7_wants_14 : decode cX7_wants 14 = .ok (.bipush (-6), 2) := by decide +kernel
theorem dX7_wants_16 : decode cX7_wants 16 = .ok (.goto 7, 3) := by decide +kernel
theorem dX7_wants_19 : decode cX7_wants 19 = .ok (.aload_n 0, 1) := by decide +kernel
theorem dX7_wants_20 : decode cX7_wants 20 = .ok (.getfield 145, 3) := by decide +kernel
theorem dX7_wants_23 : decode cX7_wants 23 = .ok (.putfield 148, 3) := by decide +kernel
theorem dX7_wants_26 : decode cX7_wants 26 = .ok (.aload_n 0, 1) := by decide +kernel
theorem dX7_wants_27 : decode cX7_wants 27 = .ok (.dup, 1) := by decide +kernel
theorem dX7_wants_28 : decode cX7_wants 28 = .ok (.getfield 145, 3) := by decide +kernel
theorem dX7_wants_31 : decode cX7_wants 31 = .ok (.iconst 1, 1) := by decide +kernel
theorem dX7_wants_32 : decode cX7_wants 32 = .ok (.iadd, 1) := by decide +kernel
theorem dX7_wants_33 : decode cX7_wants 33 = .ok (.putfield 145, 3) := by decide +kernel
theorem dX7_wants_36 : decode cX7_wants 36 = .ok (.return_, 1) := by decide +kernel
theorem dX7_digit_0 : decode cX7_digit 0 = .ok (.aload_n 0, 1) := by decide +kernel
theorem dX7_digit_1 : decode cX7_digit 1 = .ok (.invokevirtual 151, 3) := by decide +kernel
theorem dX7_digit_4 : decode cX7_digit 4 = .ok (.bipush 48, 2) := by decide +kernel
theorem dX7_digit_6 : decode cX7_digit 6 = .ok (.isub, 1) := by decide +kernel
theorem dX7_digit_7 : decode cX7_digit 7 = .ok (.istore_n 1, 1) := by decide +kernel
theorem dX7_digit_8 : decode cX7_digit 8 = .ok (.aload_n 0, 1) := by decide +kernel
theorem dX7_digit_9 : decode cX7_digit 9 = .ok (.iload_n 1, 1) := by decide +kernel
theorem dX7_digit_10 : decode cX7_digit 10 = .ok (.iconst 0, 1) := by decide +kernel
theorem dX7_digit_11 : decode cX7_digit 11 = .ok (.bipush 9, 2) := by decide +kernel
theorem dX7_digit_13 : decode cX7_digit 13 = .ok (.invokestatic 26, 3) := by decide +kernel
theorem dX7_digit_16 : decode cX7_digit 16 = .ok (.invokevirtual 155, 3) := by decide +kernel
theorem dX7_digit_19 : decode cX7_digit 19 = .ok (.iload_n 1, 1) := by decide +kernel
theorem dX7_digit_20 : decode cX7_digit 20 = .ok (.ireturn, 1) := by decide +kernel
theorem dX7_number_0 : decode cX7_number 0 = .ok (.aload_n 0, 1) := by decide +kernel
theorem dX7_number_1 : decode cX7_number 1 = .ok (.invokevirtual 159, 3) := by decide +kernel
theorem dX7_number_4 : decode cX7_number 4 = .ok (.istore_n 1, 1) := by decide +kernel
theorem dX7_number_5 : decode cX7_number 5 = .ok (.aload_n 0, 1) := by decide +kernel
theorem dX7_number_6 : decode cX7_number 6 = .ok (.invokevirtual 151, 3) := by decide +kernel
theorem dX7_number_9 : decode cX7_number 9 = .ok (.bipush 48, 2) := by decide +kernel
theorem dX7_number_11 : decode cX7_number 11 = .ok (.isub, 1) := by decide +kernel
theorem dX7_number_12 : decode cX7_number 12 = .ok (.istore_n 2, 1) := by decide +kernel
theorem dX7_number_13 : decode cX7_number 13 = .ok (.aload_n 0, 1) := by decide +kernel
theorem dX7_number_14 : decode cX7_number 14 = .ok (.getfield 148, 3) := by decide +kernel
theorem dX7_number_17 : decode cX7_number 17 = .ok (.bipush (-6), 2) := by decide +kernel
theorem dX7_number_19 : decode cX7_number 19 = .ok (.if_icmp .ne 57, 3) := by decide +kernel
theorem dX7_number_22 : decode cX7_number 22 = .ok (.iload_n 1, 1) := by decide +kernel
theorem dX7_number_23 : decode cX7_number 23 = .ok (.ifCond .le 53, 3) := by decide +kernel
theorem dX7_number_26 : decode cX7_number 26 = .ok (.iload_n 2, 1) := by decide +kernel
theorem dX7_number_27 : decode cX7_number 27 = .ok (.iconst 0, 1) := by decide +kernel
theorem dX7_number_28 : decode cX7_number 28 = .ok (.bipush 9, 2) := by decide +kernel
theorem dX7_number_30 : decode cX7_number 30 = .ok (.invokestatic 26, 3) := by decide +kernel
theorem dX7_number_33 : decode cX7_number 33 = .ok (.ifCond .eq 43, 3) := by decide +kernel
theorem dX7_number_36 : decode cX7_number 36 = .ok (.bipush 10, 2) := by decide +kernel
theorem dX7_number_38 : decode cX7_number 38 = .ok (.iload_n 1, 1) := by decide +kernel
theorem dX7_number_39 : decode cX7_number 39 = .ok (.imul, 1) := by decide +kernel
theorem dX7_number_40 : decode cX7_number 40 = .ok (.iload_n 2, 1) := by decide +kernel
theorem dX7_number_41 : decode cX7_number 41 = .ok (.iadd, 1) := by decide +kernel
theorem dX7_number_42 : decode cX7_number 42 = .ok (.sipush 999, 3) := by decide +kernel
theorem dX7_number_45 : decode cX7_number 45 = .ok (.if_icmp .gt 31, 3) := by decide +kernel
theorem dX7_number_48 : decode cX7_number 48 = .ok (.bipush 10, 2) := by decide +kernel
theorem dX7_number_50 : decode cX7_number 50 = .ok (.iload_n 1, 1) := by decide +kernel
theorem dX7_number_51 : decode cX7_number 51 = .ok (.imul, 1) := by decide +kernel
theorem dX7_number_52 : decode cX7_number 52 = .ok (.iload_n 2, 1) := by decide +kernel
theorem dX7_number_53 : decode cX7_number 53 = .ok (.iadd, 1) := by decide +kernel
theorem dX7_number_54 : decode cX7_number 54 = .ok (.istore_n 1, 1) := by decide +kernel
theorem dX7_number_55 : decode cX7_number 55 = .ok (.aload_n 0, 1) := by decide +kernel
theorem dX7_number_56 : decode cX7_number 56 = .ok (.dup, 1) := by decide +kernel
theorem dX7_number_57 : decode cX7_number 57 = .ok (.getfield 145, 3) := by decide +kernel
theorem dX7_number_60 : decode cX7_number 60 = .ok (.iconst 1, 1) := by decide +kernel
theorem dX7_number_61 : decode cX7_number 61 = .ok (.iadd, 1) := by decide +kernel
theorem dX7_number_62 : decode cX7_number 62 = .ok (.putfield 145, 3) := by decide +kernel
theorem dX7_number_65 : decode cX7_number 65 = .ok (.aload_n 0, 1) := by decide +kernel
theorem dX7_number_66 : decode cX7_number 66 = .ok (.invokevirtual 151, 3) := by decide +kernel
theorem dX7_number_69 : decode cX7_number 69 = .ok (.bipush 48, 2) := by decide +kernel
theorem dX7_number_71 : decode cX7_number 71 = .ok (.isub, 1) := by decide +kernel
theorem dX7_number_72 : decode cX7_number 72 = .ok (.istore_n 2, 1) := by decide +kernel
theorem dX7_number_73 : decode cX7_number 73 = .ok (.goto (-60), 3) := by decide +kernel
theorem dX7_number_76 : decode cX7_number 76 = .ok (.iload_n 1, 1) := by decide +kernel
theorem dX7_number_77 : decode cX7_number 77 = .ok (.ireturn, 1) := by decide +kernel
theorem dX7_place_0 : decode cX7_place 0 = .ok (.aload_n 0, 1) := by decide +kernel
theorem dX7_place_1 : decode cX7_place 1 = .ok (.invokevirtual 151, 3) := by decide +kernel
theorem dX7_place_4 : decode cX7_place 4 = .ok (.istore_n 1, 1) := by decide +kernel
theorem dX7_place_5 : decode cX7_place 5 = .ok (.aload_n 0, 1) := by decide +kernel
theorem dX7_place_6 : decode cX7_place 6 = .ok (.iload_n 1, 1) := by decide +kernel
theorem dX7_place_7 : decode cX7_place 7 = .ok (.bipush 112, 2) := by decide +kernel
theorem dX7_place_9 : decode cX7_place 9 = .ok (.if_icmp .eq 14, 3) := by decide +kernel
theorem dX7_place_12 : decode cX7_place 12 = .ok (.iload_n 1, 1) := by decide +kernel
theorem dX7_place_13 : decode cX7_place 13 = .ok (.bipush 48, 2) := by decide +kernel
theorem dX7_place_15 : decode cX7_place 15 = .ok (.bipush 52, 2) := by decide +kernel
theorem dX7_place_17 : decode cX7_place 17 = .ok (.invokestatic 26, 3) := by decide +kernel
theorem dX7_place_20 : decode cX7_place 20 = .ok (.ifCond .eq 7, 3) := by decide +kernel
theorem dX7_place_23 : decode cX7_place 23 = .ok (.iconst 1, 1) := by decide +kernel
theorem dX7_place_24 : decode cX7_place 24 = .ok (.goto 4, 3) := by decide +kernel
theorem dX7_place_27 : decode cX7_place 27 = .ok (.iconst 0, 1) := by decide +kernel
theorem dX7_place_28 : decode cX7_place 28 = .ok (.invokevirtual 155, 3) := by decide +kernel
theorem dX7_place_31 : decode cX7_place 31 = .ok (.iload_n 1, 1) := by decide +kernel
theorem dX7_place_32 : decode cX7_place 32 = .ok (.bipush 112, 2) := by decide +kernel
theorem dX7_place_34 : decode cX7_place 34 = .ok (.if_icmp .ne 8, 3) := by decide +kernel
theorem dX7_place_37 : decode cX7_place 37 = .ok (.bipush 9, 2) := by decide +kernel
theorem dX7_place_39 : decode cX7_place 39 = .ok (.goto 7, 3) := by decide +kernel
theorem dX7_place_42 : decode cX7_place 42 = .ok (.iload_n 1, 1) := by decide +kernel
theorem dX7_place_43 : decode cX7_place 43 = .ok (.bipush 48, 2) := by decide +kernel
theorem dX7_place_45 : decode cX7_place 45 = .ok (.isub, 1) := by decide +kernel
theorem dX7_place_46 : decode cX7_place 46 = .ok (.ireturn, 1) := by decide +kernel
theorem dX7_readCommand_0 : decode cX7_readCommand 0 = .ok (.iconst 4, 1) := by decide +kernel
theorem dX7_readCommand_1 : decode cX7_readCommand 1 = .ok (.aload_n 0, 1) := by decide +kernel
theorem dX7_readCommand_2 : decode cX7_readCommand 2 = .ok (.getfield 162, 3) := by decide +kernel
theorem dX7_readCommand_5 : decode cX7_readCommand 5 = .ok (.imul, 1) := by decide +kernel
theorem dX7_readCommand_6 : decode cX7_readCommand 6 = .ok (.istore_n 1, 1) := by decide +kernel
theorem dX7_readCommand_7 : decode cX7_readCommand 7 = .ok (.aload_n 0, 1) := by decide +kernel
theorem dX7_readCommand_8 : decode cX7_readCommand 8 = .ok (.invokevirtual 151, 3) := by decide +kernel
theorem dX7_readCommand_11 : decode cX7_readCommand 11 = .ok (.istore_n 2, 1) := by decide +kernel
theorem dX7_readCommand_12 : decode cX7_readCommand 12 = .ok (.aload_n 0, 1) := by decide +kernel
theorem dX7_readCommand_13 : decode cX7_readCommand 13 = .ok (.iload_n 2, 1) := by decide +kernel
theorem dX7_readCommand_14 : decode cX7_readCommand 14 = .ok (.bipush 119, 2) := by decide +kernel
theorem dX7_readCommand_16 : decode cX7_readCommand 16 = .ok (.if_icmp .eq 33, 3) := by decide +kernel
theorem dX7_readCommand_19 : decode cX7_readCommand 19 = .ok (.iload_n 2, 1) := by decide +kernel
theorem dX7_readCommand_20 : decode cX7_readCommand 20 = .ok (.bipush 114, 2) := by decide +kernel
theorem dX7_readCommand_22 : decode cX7_readCommand 22 = .ok (.if_icmp .eq 27, 3) := by decide +kernel
theorem dX7_readCommand_25 : decode cX7_readCommand 25 = .ok (.iload_n 2, 1) := by decide +kernel
theorem dX7_readCommand_26 : decode cX7_readCommand 26 = .ok (.bipush 116, 2) := by decide +kernel
theorem dX7_readCommand_28 : decode cX7_readCommand 28 = .ok (.if_icmp .eq 21, 3) := by decide +kernel
theorem dX7_readCommand_31 : decode cX7_readCommand 31 = .ok (.iload_n 2, 1) := by decide +kernel
theorem dX7_readCommand_32 : decode cX7_readCommand 32 = .ok (.bipush 109, 2) := by decide +kernel
theorem dX7_readCommand_34 : decode cX7_readCommand 34 = .ok (.if_icmp .eq 15, 3) := by decide +kernel
theorem dX7_readCommand_37 : decode cX7_readCommand 37 = .ok (.iload_n 2, 1) := by decide +kernel
theorem dX7_readCommand_38 : decode cX7_readCommand 38 = .ok (.bipush 104, 2) := by decide +kernel
theorem dX7_readCommand_40 : decode cX7_readCommand 40 = .ok (.if_icmp .eq 9, 3) := by decide +kernel
theorem dX7_readCommand_43 : decode cX7_readCommand 43 = .ok (.iload_n 2, 1) := by decide +kernel
theorem dX7_readCommand_44 : decode cX7_readCommand 44 = .ok (.bipush 106, 2) := by decide +kernel
theorem dX7_readCommand_46 : decode cX7_readCommand 46 = .ok (.if_icmp .ne 7, 3) := by decide +kernel
theorem dX7_readCommand_49 : decode cX7_readCommand 49 = .ok (.iconst 1, 1) := by decide +kernel
theorem dX7_readCommand_50 : decode cX7_readCommand 50 = .ok (.goto 4, 3) := by decide +kernel
theorem dX7_readCommand_53 : decode cX7_readCommand 53 = .ok (.iconst 0, 1) := by decide +kernel
theorem dX7_readCommand_54 : decode cX7_readCommand 54 = .ok (.invokevirtual 155, 3) := by decide +kernel
theorem dX7_readCommand_57 : decode cX7_readCommand 57 = .ok (.aload_n 0, 1) := by decide +kernel
theorem dX7_readCommand_58 : decode cX7_readCommand 58 = .ok (.getfield 23, 3) := by decide +kernel
theorem dX7_readCommand_61 : decode cX7_readCommand 61 = .ok (.iload_n 1, 1) := by decide +kernel
theorem dX7_readCommand_62 : decode cX7_readCommand 62 = .ok (.iload_n 2, 1) := by decide +kernel
theorem dX7_readCommand_63 : decode cX7_readCommand 63 = .ok (.iastore, 1) := by decide +kernel
theorem dX7_readCommand_64 : decode cX7_readCommand 64 = .ok (.aload_n 0, 1) := by decide +kernel
theorem dX7_readCommand_65 : decode cX7_readCommand 65 = .ok (.getfield 23, 3) := by decide +kernel
theorem dX7_readCommand_68 : decode cX7_readCommand 68 = .ok (.iload_n 1, 1) := by decide +kernel
theorem dX7_readCommand_69 : decode cX7_readCommand 69 = .ok (.iconst 1, 1) := by decide +kernel
theorem dX7_readCommand_70 : decode cX7_readCommand 70 = .ok (.iadd, 1) := by decide +kernel
theorem dX7_readCommand_71 : decode cX7_readCommand 71 = .ok (.iload_n 2, 1) := by decide +kernel
theorem dX7_readCommand_72 : decode cX7_readCommand 72 = .ok (.bipush 116, 2) := by decide +kernel
theorem dX7_readCommand_74 : decode cX7_readCommand 74 = .ok (.if_icmp .ne 10, 3) := by decide +kernel
theorem dX7_readCommand_77 : decode cX7_readCommand 77 = .ok (.aload_n 0, 1) := by decide +kernel
theorem dX7_readCommand_78 : decode cX7_readCommand 78 = .ok (.invokevirtual 165, 3) := by decide +kernel
theorem dX7_readCommand_81 : decode cX7_readCommand 81 = .ok (.goto 7, 3) := by decide +kernel
theorem dX7_readCommand_84 : decode cX7_readCommand 84 = .ok (.aload_n 0, 1) := by decide +kernel
theorem dX7_readCommand_85 : decode cX7_readCommand 85 = .ok (.invokevirtual 159, 3) := by decide +kernel
theorem dX7_readCommand_88 : decode cX7_readCommand 88 = .ok (.iastore, 1) := by decide +kernel
theorem dX7_readCommand_89 : decode cX7_readCommand 89 = .ok (.iload_n 2, 1) := by decide +kernel
theorem dX7_readCommand_90 : decode cX7_readCommand 90 = .ok (.bipush 119, 2) := by decide +kernel
theorem dX7_readCommand_92 : decode cX7_readCommand 92 = .ok (.if_icmp .eq 9, 3) := by decide +kernel
theorem dX7_readCommand_95 : decode cX7_readCommand 95 = .ok (.iload_n 2, 1) := by decide +kernel
theorem dX7_readCommand_96 : decode cX7_readCommand 96 = .ok (.bipush 114, 2) := by decide +kernel
theorem dX7_readCommand_98 : decode cX7_readCommand 98 = .ok (.if_icmp .ne 33, 3) := by decide +kernel
theorem dX7_readCommand_101 : decode cX7_readCommand 101 = .ok (.aload_n 0, 1) := by decide +kernel
theorem dX7_readCommand_102 : decode cX7_readCommand 102 = .ok (.aload_n 0, 1) := by decide +kernel
theorem dX7_readCommand_103 : decode cX7_readCommand 103 = .ok (.invokevirtual 151, 3) := by decide +kernel
theorem dX7_readCommand_106 : decode cX7_readCommand 106 = .ok (.bipush 58, 2) := by decide +kernel
theorem dX7_readCommand_108 : decode cX7_readCommand 108 = .ok (.if_icmp .ne 7, 3) := by decide +kernel
theorem dX7_readCommand_111 : decode cX7_readCommand 111 = .ok (.iconst 1, 1) := by decide +kernel
theorem dX7_readCommand_112 : decode cX7_readCommand 112 = .ok (.goto 4, 3) := by decide +kernel
theorem dX7_readCommand_115 : decode cX7_readCommand 115 = .ok (.iconst 0, 1) := by decide +kernel
theorem dX7_readCommand_116 : decode cX7_readCommand 116 = .ok (.invokevirtual 155, 3) := by decide +kernel
theorem dX7_readCommand_119 : decode cX7_readCommand 119 = .ok (.aload_n 0, 1) := by decide +kernel
theorem dX7_readCommand_120 : decode cX7_readCommand 120 = .ok (.getfield 23, 3) := by decide +kernel
theorem dX7_readCommand_123 : decode cX7_readCommand 123 = .ok (.iload_n 1, 1) := by decide +kernel
theorem dX7_readCommand_124 : decode cX7_readCommand 124 = .ok (.iconst 2, 1) := by decide +kernel
theorem dX7_readCommand_125 : decode cX7_readCommand 125 = .ok (.iadd, 1) := by decide +kernel
theorem dX7_readCommand_126 : decode cX7_readCommand 126 = .ok (.aload_n 0, 1) := by decide +kernel
theorem dX7_readCommand_127 : decode cX7_readCommand 127 = .ok (.invokevirtual 165, 3) := by decide +kernel
theorem dX7_readCommand_130 : decode cX7_readCommand 130 = .ok (.iastore, 1) := by decide +kernel
theorem dX7_readCommand_131 : decode cX7_readCommand 131 = .ok (.iload_n 2, 1) := by decide +kernel
theorem dX7_readCommand_132 : decode cX7_readCommand 132 = .ok (.bipush 119, 2) := by decide +kernel
theorem dX7_readCommand_134 : decode cX7_readCommand 134 = .ok (.if_icmp .ne 33, 3) := by decide +kernel
theorem dX7_readCommand_137 : decode cX7_readCommand 137 = .ok (.aload_n 0, 1) := by decide +kernel
theorem dX7_readCommand_138 : decode cX7_readCommand 138 = .ok (.aload_n 0, 1) := by decide +kernel
theorem dX7_readCommand_139 : decode cX7_readCommand 139 = .ok (.invokevirtual 151, 3) := by decide +kernel
theorem dX7_readCommand_142 : decode cX7_readCommand 142 = .ok (.bipush 61, 2) := by decide +kernel
theorem dX7_readCommand_144 : decode cX7_readCommand 144 = .ok (.if_icmp .ne 7, 3) := by decide +kernel
theorem dX7_readCommand_147 : decode cX7_readCommand 147 = .ok (.iconst 1, 1) := by decide +kernel
theorem dX7_readCommand_148 : decode cX7_readCommand 148 = .ok (.goto 4, 3) := by decide +kernel
theorem dX7_readCommand_151 : decode cX7_readCommand 151 = .ok (.iconst 0, 1) := by decide +kernel
theorem dX7_readCommand_152 : decode cX7_readCommand 152 = .ok (.invokevirtual 155, 3) := by decide +kernel
theorem dX7_readCommand_155 : decode cX7_readCommand 155 = .ok (.aload_n 0, 1) := by decide +kernel
theorem dX7_readCommand_156 : decode cX7_readCommand 156 = .ok (.getfield 23, 3) := by decide +kernel
theorem dX7_readCommand_159 : decode cX7_readCommand 159 = .ok (.iload_n 1, 1) := by decide +kernel
theorem dX7_readCommand_160 : decode cX7_readCommand 160 = .ok (.iconst 3, 1) := by decide +kernel
theorem dX7_readCommand_161 : decode cX7_readCommand 161 = .ok (.iadd, 1) := by decide +kernel
theorem dX7_readCommand_162 : decode cX7_readCommand 162 = .ok (.aload_n 0, 1) := by decide +kernel
theorem dX7_readCommand_163 : decode cX7_readCommand 163 = .ok (.invokevirtual 165, 3) := by decide +kernel
theorem dX7_readCommand_166 : decode cX7_readCommand 166 = .ok (.iastore, 1) := by decide +kernel
theorem dX7_readCommand_167 : decode cX7_readCommand 167 = .ok (.iload_n 2, 1) := by decide +kernel
theorem dX7_readCommand_168 : decode cX7_readCommand 168 = .ok (.bipush 109, 2) := by decide +kernel
theorem dX7_readCommand_170 : decode cX7_readCommand 170 = .ok (.if_icmp .eq 9, 3) := by decide +kernel
theorem dX7_readCommand_173 : decode cX7_readCommand 173 = .ok (.iload_n 2, 1) := by decide +kernel
theorem dX7_readCommand_174 : decode cX7_readCommand 174 = .ok (.bipush 104, 2) := by decide +kernel
theorem dX7_readCommand_176 : decode cX7_readCommand 176 = .ok (.if_icmp .ne 46, 3) := by decide +kernel
theorem dX7_readCommand_179 : decode cX7_readCommand 179 = .ok (.aload_n 0, 1) := by decide +kernel
theorem dX7_readCommand_180 : decode cX7_readCommand 180 = .ok (.aload_n 0, 1) := by decide +kernel
theorem dX7_readCommand_181 : decode cX7_readCommand 181 = .ok (.invokevirtual 151, 3) := by decide +kernel
theorem dX7_readCommand_184 : decode cX7_readCommand 184 = .ok (.bipush 62, 2) := by decide +kernel
theorem dX7_readCommand_186 : decode cX7_readCommand 186 = .ok (.if_icmp .ne 7, 3) := by decide +kernel
theorem dX7_readCommand_189 : decode cX7_readCommand 189 = .ok (.iconst 1, 1) := by decide +kernel
theorem dX7_readCommand_190 : decode cX7_readCommand 190 = .ok (.goto 4, 3) := by decide +kernel
theorem dX7_readCommand_193 : decode cX7_readCommand 193 = .ok (.iconst 0, 1) := by decide +kernel
theorem dX7_readCommand_194 : decode cX7_readCommand 194 = .ok (.invokevirtual 155, 3) := by decide +kernel
theorem dX7_readCommand_197 : decode cX7_readCommand 197 = .ok (.aload_n 0, 1) := by decide +kernel
theorem dX7_readCommand_198 : decode cX7_readCommand 198 = .ok (.getfield 23, 3) := by decide +kernel
theorem dX7_readCommand_201 : decode cX7_readCommand 201 = .ok (.iload_n 1, 1) := by decide +kernel
theorem dX7_readCommand_202 : decode cX7_readCommand 202 = .ok (.iconst 2, 1) := by decide +kernel
theorem dX7_readCommand_203 : decode cX7_readCommand 203 = .ok (.iadd, 1) := by decide +kernel
theorem dX7_readCommand_204 : decode cX7_readCommand 204 = .ok (.iload_n 2, 1) := by decide +kernel
theorem dX7_readCommand_205 : decode cX7_readCommand 205 = .ok (.bipush 109, 2) := by decide +kernel
theorem dX7_readCommand_207 : decode cX7_readCommand 207 = .ok (.if_icmp .ne 10, 3) := by decide +kernel
theorem dX7_readCommand_210 : decode cX7_readCommand 210 = .ok (.aload_n 0, 1) := by decide +kernel
theorem dX7_readCommand_211 : decode cX7_readCommand 211 = .ok (.invokevirtual 168, 3) := by decide +kernel
theorem dX7_readCommand_214 : decode cX7_readCommand 214 = .ok (.goto 7, 3) := by decide +kernel
theorem dX7_readCommand_217 : decode cX7_readCommand 217 = .ok (.aload_n 0, 1) := by decide +kernel
theorem dX7_readCommand_218 : decode cX7_readCommand 218 = .ok (.invokevirtual 159, 3) := by decide +kernel
theorem dX7_readCommand_221 : decode cX7_readCommand 221 = .ok (.iastore, 1) := by decide +kernel
theorem dX7_readCommand_222 : decode cX7_readCommand 222 = .ok (.iload_n 2, 1) := by decide +kernel
theorem dX7_readCommand_223 : decode cX7_readCommand 223 = .ok (.bipush 106, 2) := by decide +kernel
theorem dX7_readCommand_225 : decode cX7_readCommand 225 = .ok (.if_icmp .ne 33, 3) := by decide +kernel
theorem dX7_readCommand_228 : decode cX7_readCommand 228 = .ok (.aload_n 0, 1) := by decide +kernel
theorem dX7_readCommand_229 : decode cX7_readCommand 229 = .ok (.aload_n 0, 1) := by decide +kernel
theorem dX7_readCommand_230 : decode cX7_readCommand 230 = .ok (.invokevirtual 151, 3) := by decide +kernel
theorem dX7_readCommand_233 : decode cX7_readCommand 233 = .ok (.bipush 64, 2) := by decide +kernel
theorem dX7_readCommand_235 : decode cX7_readCommand 235 = .ok (.if_icmp .ne 7, 3) := by decide +kernel
theorem dX7_readCommand_238 : decode cX7_readCommand 238 = .ok (.iconst 1, 1) := by decide +kernel
theorem dX7_readCommand_239 : decode cX7_readCommand 239 = .ok (.goto 4, 3) := by decide +kernel
theorem dX7_readCommand_242 : decode cX7_readCommand 242 = .ok (.iconst 0, 1) := by decide +kernel
theorem dX7_readCommand_243 : decode cX7_readCommand 243 = .ok (.invokevirtual 155, 3) := by decide +kernel
theorem dX7_readCommand_246 : decode cX7_readCommand 246 = .ok (.aload_n 0, 1) := by decide +kernel
theorem dX7_readCommand_247 : decode cX7_readCommand 247 = .ok (.getfield 23, 3) := by decide +kernel
theorem dX7_readCommand_250 : decode cX7_readCommand 250 = .ok (.iload_n 1, 1) := by decide +kernel
theorem dX7_readCommand_251 : decode cX7_readCommand 251 = .ok (.iconst 2, 1) := by decide +kernel
theorem dX7_readCommand_252 : decode cX7_readCommand 252 = .ok (.iadd, 1) := by decide +kernel
theorem dX7_readCommand_253 : decode cX7_readCommand 253 = .ok (.aload_n 0, 1) := by decide +kernel
theorem dX7_readCommand_254 : decode cX7_readCommand 254 = .ok (.invokevirtual 165, 3) := by decide +kernel
theorem dX7_readCommand_257 : decode cX7_readCommand 257 = .ok (.iastore, 1) := by decide +kernel
theorem dX7_readCommand_258 : decode cX7_readCommand 258 = .ok (.aload_n 0, 1) := by decide +kernel
theorem dX7_readCommand_259 : decode cX7_readCommand 259 = .ok (.dup, 1) := by decide +kernel
theorem dX7_readCommand_260 : decode cX7_readCommand 260 = .ok (.getfield 162, 3) := by decide +kernel
theorem dX7_readCommand_263 : decode cX7_readCommand 263 = .ok (.iconst 1, 1) := by decide +kernel
theorem dX7_readCommand_264 : decode cX7_readCommand 264 = .ok (.iadd, 1) := by decide +kernel
theorem dX7_readCommand_265 : decode cX7_readCommand 265 = .ok (.putfield 162, 3) := by decide +kernel
theorem dX7_readCommand_268 : decode cX7_readCommand 268 = .ok (.return_, 1) := by decide +kernel
theorem dX7_errorPosition_0 : decode cX7_errorPosition 0 = .ok (.aload_n 0, 1) := by decide +kernel
theorem dX7_errorPosition_1 : decode cX7_errorPosition 1 = .ok (.iconst 0, 1) := by decide +kernel
theorem dX7_errorPosition_2 : decode cX7_errorPosition 2 = .ok (.putfield 162, 3) := by decide +kernel
theorem dX7_errorPosition_5 : decode cX7_errorPosition 5 = .ok (.aload_n 0, 1) := by decide +kernel
theorem dX7_errorPosition_6 : decode cX7_errorPosition 6 = .ok (.iconst 0, 1) := by decide +kernel
theorem dX7_errorPosition_7 : decode cX7_errorPosition 7 = .ok (.putfield 145, 3) := by decide +kernel
theorem dX7_errorPosition_10 : decode cX7_errorPosition 10 = .ok (.aload_n 0, 1) := by decide +kernel
theorem dX7_errorPosition_11 : decode cX7_errorPosition 11 = .ok (.bipush (-6), 2) := by decide +kernel
theorem dX7_errorPosition_13 : decode cX7_errorPosition 13 = .ok (.putfield 148, 3) := by decide +kernel
theorem dX7_errorPosition_16 : decode cX7_errorPosition 16 = .ok (.iconst 1, 1) := by decide +kernel
theorem dX7_errorPosition_17 : decode cX7_errorPosition 17 = .ok (.istore_n 1, 1) := by decide +kernel
theorem dX7_errorPosition_18 : decode cX7_errorPosition 18 = .ok (.iload_n 1, 1) := by decide +kernel
theorem dX7_errorPosition_19 : decode cX7_errorPosition 19 = .ok (.ifCond .eq 73, 3) := by decide +kernel
theorem dX7_errorPosition_22 : decode cX7_errorPosition 22 = .ok (.aload_n 0, 1) := by decide +kernel
theorem dX7_errorPosition_23 : decode cX7_errorPosition 23 = .ok (.invokevirtual 171, 3) := by decide +kernel
theorem dX7_errorPosition_26 : decode cX7_errorPosition 26 = .ok (.aload_n 0, 1) := by decide +kernel
theorem dX7_errorPosition_27 : decode cX7_errorPosition 27 = .ok (.getfield 148, 3) := by decide +kernel
theorem dX7_errorPosition_30 : decode cX7_errorPosition 30 = .ok (.bipush (-6), 2) := by decide +kernel
theorem dX7_errorPosition_32 : decode cX7_errorPosition 32 = .ok (.if_icmp .ne 18, 3) := by decide +kernel
theorem dX7_errorPosition_35 : decode cX7_errorPosition 35 = .ok (.aload_n 0, 1) := by decide +kernel
theorem dX7_errorPosition_36 : decode cX7_errorPosition 36 = .ok (.getfield 145, 3) := by decide +kernel
theorem dX7_errorPosition_39 : decode cX7_errorPosition 39 = .ok (.aload_n 0, 1) := by decide +kernel
theorem dX7_errorPosition_40 : decode cX7_errorPosition 40 = .ok (.getfield 142, 3) := by decide +kernel
theorem dX7_errorPosition_43 : decode cX7_errorPosition 43 = .ok (.if_icmp .ge 7, 3) := by decide +kernel
theorem dX7_errorPosition_46 : decode cX7_errorPosition 46 = .ok (.iconst 1, 1) := by decide +kernel
theorem dX7_errorPosition_47 : decode cX7_errorPosition 47 = .ok (.goto 4, 3) := by decide +kernel
theorem dX7_errorPosition_50 : decode cX7_errorPosition 50 = .ok (.iconst 0, 1) := by decide +kernel
theorem dX7_errorPosition_51 : decode cX7_errorPosition 51 = .ok (.istore_n 1, 1) := by decide +kernel
theorem dX7_errorPosition_52 : decode cX7_errorPosition 52 = .ok (.iload_n 1, 1) := by decide +kernel
theorem dX7_errorPosition_53 : decode cX7_errorPosition 53 = .ok (.ifCond .eq (-35), 3) := by decide +kernel
theorem dX7_errorPosition_56 : decode cX7_errorPosition 56 = .ok (.aload_n 0, 1) := by decide +kernel
theorem dX7_errorPosition_57 : decode cX7_errorPosition 57 = .ok (.aload_n 0, 1) := by decide +kernel
theorem dX7_errorPosition_58 : decode cX7_errorPosition 58 = .ok (.invokevirtual 151, 3) := by decide +kernel
theorem dX7_errorPosition_61 : decode cX7_errorPosition 61 = .ok (.bipush 59, 2) := by decide +kernel
theorem dX7_errorPosition_63 : decode cX7_errorPosition 63 = .ok (.if_icmp .ne 7, 3) := by decide +kernel
theorem dX7_errorPosition_66 : decode cX7_errorPosition 66 = .ok (.iconst 1, 1) := by decide +kernel
theorem dX7_errorPosition_67 : decode cX7_errorPosition 67 = .ok (.goto 4, 3) := by decide +kernel
theorem dX7_errorPosition_70 : decode cX7_errorPosition 70 = .ok (.iconst 0, 1) := by decide +kernel
theorem dX7_errorPosition_71 : decode cX7_errorPosition 71 = .ok (.invokevirtual 155, 3) := by decide +kernel
theorem dX7_errorPosition_74 : decode cX7_errorPosition 74 = .ok (.aload_n 0, 1) := by decide +kernel
theorem dX7_errorPosition_75 : decode cX7_errorPosition 75 = .ok (.getfield 148, 3) := by decide +kernel
theorem dX7_errorPosition_78 : decode cX7_errorPosition 78 = .ok (.bipush (-6), 2) := by decide +kernel
theorem dX7_errorPosition_80 : decode cX7_errorPosition 80 = .ok (.if_icmp .ne 7, 3) := by decide +kernel
theorem dX7_errorPosition_83 : decode cX7_errorPosition 83 = .ok (.iconst 1, 1) := by decide +kernel
theorem dX7_errorPosition_84 : decode cX7_errorPosition 84 = .ok (.goto 4, 3) := by decide +kernel
theorem dX7_errorPosition_87 : decode cX7_errorPosition 87 = .ok (.iconst 0, 1) := by decide +kernel
theorem dX7_errorPosition_88 : decode cX7_errorPosition 88 = .ok (.istore_n 1, 1) := by decide +kernel
theorem dX7_errorPosition_89 : decode cX7_errorPosition 89 = .ok (.goto (-71), 3) := by decide +kernel
theorem dX7_errorPosition_92 : decode cX7_errorPosition 92 = .ok (.aload_n 0, 1) := by decide +kernel
theorem dX7_errorPosition_93 : decode cX7_errorPosition 93 = .ok (.getfield 148, 3) := by decide +kernel
theorem dX7_errorPosition_96 : decode cX7_errorPosition 96 = .ok (.ireturn, 1) := by decide +kernel
theorem dX7_executeOne_0 : decode cX7_executeOne 0 = .ok (.aload_n 0, 1) := by decide +kernel
theorem dX7_executeOne_1 : decode cX7_executeOne 1 = .ok (.getfield 23, 3) := by decide +kernel
theorem dX7_executeOne_4 : decode cX7_executeOne 4 = .ok (.iload_n 1, 1) := by decide +kernel
theorem dX7_executeOne_5 : decode cX7_executeOne 5 = .ok (.iconst 1, 1) := by decide +kernel
theorem dX7_executeOne_6 : decode cX7_executeOne 6 = .ok (.iadd, 1) := by decide +kernel
theorem dX7_executeOne_7 : decode cX7_executeOne 7 = .ok (.iaload, 1) := by decide +kernel
theorem dX7_executeOne_8 : decode cX7_executeOne 8 = .ok (.istore_n 2, 1) := by decide +kernel
theorem dX7_executeOne_9 : decode cX7_executeOne 9 = .ok (.aload_n 0, 1) := by decide +kernel
theorem dX7_executeOne_10 : decode cX7_executeOne 10 = .ok (.getfield 23, 3) := by decide +kernel
theorem dX7_executeOne_13 : decode cX7_executeOne 13 = .ok (.iload_n 1, 1) := by decide +kernel
theorem dX7_executeOne_14 : decode cX7_executeOne 14 = .ok (.iconst 2, 1) := by decide +kernel
theorem dX7_executeOne_15 : decode cX7_executeOne 15 = .ok (.iadd, 1) := by decide +kernel
theorem dX7_executeOne_16 : decode cX7_executeOne 16 = .ok (.iaload, 1) := by decide +kernel
theorem dX7_executeOne_17 : decode cX7_executeOne 17 = .ok (.istore_n 3, 1) := by decide +kernel
theorem dX7_executeOne_18 : decode cX7_executeOne 18 = .ok (.aload_n 0, 1) := by decide +kernel
theorem dX7_executeOne_19 : decode cX7_executeOne 19 = .ok (.getfield 23, 3) := by decide +kernel
theorem dX7_executeOne_22 : decode cX7_executeOne 22 = .ok (.iload_n 1, 1) := by decide +kernel
theorem dX7_executeOne_23 : decode cX7_executeOne 23 = .ok (.iconst 3, 1) := by decide +kernel
theorem dX7_executeOne_24 : decode cX7_executeOne 24 = .ok (.iadd, 1) := by decide +kernel
theorem dX7_executeOne_25 : decode cX7_executeOne 25 = .ok (.iaload, 1) := by decide +kernel
theorem dX7_executeOne_26 : decode cX7_executeOne 26 = .ok (.istore 4, 2) := by decide +kernel
theorem dX7_executeOne_28 : decode cX7_executeOne 28 = .ok (.iconst (-1), 1) := by decide +kernel
theorem dX7_executeOne_29 : decode cX7_executeOne 29 = .ok (.istore 5, 2) := by decide +kernel
theorem dX7_executeOne_31 : decode cX7_executeOne 31 = .ok (.aload_n 0, 1) := by decide +kernel
theorem dX7_executeOne_32 : decode cX7_executeOne 32 = .ok (.getfield 23, 3) := by decide +kernel
theorem dX7_executeOne_35 : decode cX7_executeOne 35 = .ok (.iload_n 1, 1) := by decide +kernel
theorem dX7_executeOne_36 : decode cX7_executeOne 36 = .ok (.iaload, 1) := by decide +kernel
theorem dX7_executeOne_37 : decode cX7_executeOne 37 = .ok (.lookupswitch 193 #[(104, 170), (109, 132), (114, 78), (116, 101), (119, 51)], 51) := by decide +kernel
theorem dX7_executeOne_88 : decode cX7_executeOne 88 = .ok (.aload_n 0, 1) := by decide +kernel
theorem dX7_executeOne_89 : decode cX7_executeOne 89 = .ok (.iload_n 2, 1) := by decide +kernel
theorem dX7_executeOne_90 : decode cX7_executeOne 90 = .ok (.iload_n 3, 1) := by decide +kernel
theorem dX7_executeOne_91 : decode cX7_executeOne 91 = .ok (.iload 4, 2) := by decide +kernel
theorem dX7_executeOne_93 : decode cX7_executeOne 93 = .ok (.invokevirtual 116, 3) := by decide +kernel
theorem dX7_executeOne_96 : decode cX7_executeOne 96 = .ok (.istore 5, 2) := by decide +kernel
theorem dX7_executeOne_98 : decode cX7_executeOne 98 = .ok (.iload 5, 2) := by decide +kernel
theorem dX7_executeOne_100 : decode cX7_executeOne 100 = .ok (.ifCond .ne 150, 3) := by decide +kernel
theorem dX7_executeOne_103 : decode cX7_executeOne 103 = .ok (.aload_n 0, 1) := by decide +kernel
theorem dX7_executeOne_104 : decode cX7_executeOne 104 = .ok (.iload_n 2, 1) := by decide +kernel
theorem dX7_executeOne_105 : decode cX7_executeOne 105 = .ok (.iload_n 3, 1) := by decide +kernel
theorem dX7_executeOne_106 : decode cX7_executeOne 106 = .ok (.iload 4, 2) := by decide +kernel
theorem dX7_executeOne_108 : decode cX7_executeOne 108 = .ok (.invokevirtual 120, 3) := by decide +kernel
theorem dX7_executeOne_111 : decode cX7_executeOne 111 = .ok (.pop, 1) := by decide +kernel
theorem dX7_executeOne_112 : decode cX7_executeOne 112 = .ok (.goto 138, 3) := by decide +kernel
theorem dX7_executeOne_115 : decode cX7_executeOne 115 = .ok (.aload_n 0, 1) := by decide +kernel
theorem dX7_executeOne_116 : decode cX7_executeOne 116 = .ok (.iload_n 2, 1) := by decide +kernel
theorem dX7_executeOne_117 : decode cX7_executeOne 117 = .ok (.iload_n 3, 1) := by decide +kernel
theorem dX7_executeOne_118 : decode cX7_executeOne 118 = .ok (.invokevirtual 136, 3) := by decide +kernel
theorem dX7_executeOne_121 : decode cX7_executeOne 121 = .ok (.istore 5, 2) := by decide +kernel
theorem dX7_executeOne_123 : decode cX7_executeOne 123 = .ok (.iload 5, 2) := by decide +kernel
theorem dX7_executeOne_125 : decode cX7_executeOne 125 = .ok (.ifCond .ne 125, 3) := by decide +kernel
theorem dX7_executeOne_128 : decode cX7_executeOne 128 = .ok (.aload_n 0, 1) := by decide +kernel
theorem dX7_executeOne_129 : decode cX7_executeOne 129 = .ok (.iload_n 2, 1) := by decide +kernel
theorem dX7_executeOne_130 : decode cX7_executeOne 130 = .ok (.iload_n 3, 1) := by decide +kernel
theorem dX7_executeOne_131 : decode cX7_executeOne 131 = .ok (.invokevirtual 139, 3) := by decide +kernel
theorem dX7_executeOne_134 : decode cX7_executeOne 134 = .ok (.pop, 1) := by decide +kernel
theorem dX7_executeOne_135 : decode cX7_executeOne 135 = .ok (.goto 115, 3) := by decide +kernel
theorem dX7_executeOne_138 : decode cX7_executeOne 138 = .ok (.iload_n 2, 1) := by decide +kernel
theorem dX7_executeOne_139 : decode cX7_executeOne 139 = .ok (.iconst 1, 1) := by decide +kernel
theorem dX7_executeOne_140 : decode cX7_executeOne 140 = .ok (.bipush 99, 2) := by decide +kernel
theorem dX7_executeOne_142 : decode cX7_executeOne 142 = .ok (.invokestatic 26, 3) := by decide +kernel
theorem dX7_executeOne_145 : decode cX7_executeOne 145 = .ok (.ifCond .eq 7, 3) := by decide +kernel
theorem dX7_executeOne_148 : decode cX7_executeOne 148 = .ok (.iconst 0, 1) := by decide +kernel
theorem dX7_executeOne_149 : decode cX7_executeOne 149 = .ok (.goto 5, 3) := by decide +kernel
theorem dX7_executeOne_152 : decode cX7_executeOne 152 = .ok (.bipush (-2), 2) := by decide +kernel
theorem dX7_executeOne_154 : decode cX7_executeOne 154 = .ok (.istore 5, 2) := by decide +kernel
theorem dX7_executeOne_156 : decode cX7_executeOne 156 = .ok (.iload 5, 2) := by decide +kernel
theorem dX7_executeOne_158 : decode cX7_executeOne 158 = .ok (.ifCond .ne 92, 3) := by decide +kernel
theorem dX7_executeOne_161 : decode cX7_executeOne 161 = .ok (.aload_n 0, 1) := by decide +kernel
theorem dX7_executeOne_162 : decode cX7_executeOne 162 = .ok (.iload_n 2, 1) := by decide +kernel
theorem dX7_executeOne_163 : decode cX7_executeOne 163 = .ok (.invokevirtual 78, 3) := by decide +kernel
theorem dX7_executeOne_166 : decode cX7_executeOne 166 = .ok (.goto 84, 3) := by decide +kernel
theorem dX7_executeOne_169 : decode cX7_executeOne 169 = .ok (.aload_n 0, 1) := by decide +kernel
theorem dX7_executeOne_170 : decode cX7_executeOne 170 = .ok (.iload_n 2, 1) := by decide +kernel
theorem dX7_executeOne_171 : decode cX7_executeOne 171 = .ok (.invokevirtual 94, 3) := by decide +kernel
theorem dX7_executeOne_174 : decode cX7_executeOne 174 = .ok (.ifCond .eq 15, 3) := by decide +kernel
theorem dX7_executeOne_177 : decode cX7_executeOne 177 = .ok (.aload_n 0, 1) := by decide +kernel
theorem dX7_executeOne_178 : decode cX7_executeOne 178 = .ok (.iload_n 3, 1) := by decide +kernel
theorem dX7_executeOne_179 : decode cX7_executeOne 179 = .ok (.invokevirtual 52, 3) := by decide +kernel
theorem dX7_executeOne_182 : decode cX7_executeOne 182 = .ok (.ifCond .eq 7, 3) := by decide +kernel
theorem dX7_executeOne_185 : decode cX7_executeOne 185 = .ok (.iconst 0, 1) := by decide +kernel
theorem dX7_executeOne_186 : decode cX7_executeOne 186 = .ok (.goto 4, 3) := by decide +kernel
theorem dX7_executeOne_189 : decode cX7_executeOne 189 = .ok (.iconst (-1), 1) := by decide +kernel
theorem dX7_executeOne_190 : decode cX7_executeOne 190 = .ok (.istore 5, 2) := by decide +kernel
theorem dX7_executeOne_192 : decode cX7_executeOne 192 = .ok (.iload 5, 2) := by decide +kernel
theorem dX7_executeOne_194 : decode cX7_executeOne 194 = .ok (.ifCond .ne 56, 3) := by decide +kernel
theorem dX7_executeOne_197 : decode cX7_executeOne 197 = .ok (.aload_n 0, 1) := by decide +kernel
theorem dX7_executeOne_198 : decode cX7_executeOne 198 = .ok (.iload_n 2, 1) := by decide +kernel
theorem dX7_executeOne_199 : decode cX7_executeOne 199 = .ok (.iload_n 3, 1) := by decide +kernel
theorem dX7_executeOne_200 : decode cX7_executeOne 200 = .ok (.invokevirtual 97, 3) := by decide +kernel
theorem dX7_executeOne_203 : decode cX7_executeOne 203 = .ok (.pop, 1) := by decide +kernel
theorem dX7_executeOne_204 : decode cX7_executeOne 204 = .ok (.goto 46, 3) := by decide +kernel
theorem dX7_executeOne_207 : decode cX7_executeOne 207 = .ok (.aload_n 0, 1) := by decide +kernel
theorem dX7_executeOne_208 : decode cX7_executeOne 208 = .ok (.iload_n 2, 1) := by decide +kernel
theorem dX7_executeOne_209 : decode cX7_executeOne 209 = .ok (.iload_n 3, 1) := by decide +kernel
theorem dX7_executeOne_210 : decode cX7_executeOne 210 = .ok (.invokevirtual 103, 3) := by decide +kernel
theorem dX7_executeOne_213 : decode cX7_executeOne 213 = .ok (.istore 5, 2) := by decide +kernel
theorem dX7_executeOne_215 : decode cX7_executeOne 215 = .ok (.iload 5, 2) := by decide +kernel
theorem dX7_executeOne_217 : decode cX7_executeOne 217 = .ok (.ifCond .ne 33, 3) := by decide +kernel
theorem dX7_executeOne_220 : decode cX7_executeOne 220 = .ok (.aload_n 0, 1) := by decide +kernel
theorem dX7_executeOne_221 : decode cX7_executeOne 221 = .ok (.iload_n 2, 1) := by decide +kernel
theorem dX7_executeOne_222 : decode cX7_executeOne 222 = .ok (.iload_n 3, 1) := by decide +kernel
theorem dX7_executeOne_223 : decode cX7_executeOne 223 = .ok (.invokevirtual 106, 3) := by decide +kernel
theorem dX7_executeOne_226 : decode cX7_executeOne 226 = .ok (.pop, 1) := by decide +kernel
theorem dX7_executeOne_227 : decode cX7_executeOne 227 = .ok (.goto 23, 3) := by decide +kernel
theorem dX7_executeOne_230 : decode cX7_executeOne 230 = .ok (.aload_n 0, 1) := by decide +kernel
theorem dX7_executeOne_231 : decode cX7_executeOne 231 = .ok (.iload_n 2, 1) := by decide +kernel
theorem dX7_executeOne_232 : decode cX7_executeOne 232 = .ok (.iload_n 3, 1) := by decide +kernel
theorem dX7_executeOne_233 : decode cX7_executeOne 233 = .ok (.invokevirtual 69, 3) := by decide +kernel
theorem dX7_executeOne_236 : decode cX7_executeOne 236 = .ok (.istore 5, 2) := by decide +kernel
theorem dX7_executeOne_238 : decode cX7_executeOne 238 = .ok (.iload 5, 2) := by decide +kernel
theorem dX7_executeOne_240 : decode cX7_executeOne 240 = .ok (.ifCond .ne 10, 3) := by decide +kernel
theorem dX7_executeOne_243 : decode cX7_executeOne 243 = .ok (.aload_n 0, 1) := by decide +kernel
theorem dX7_executeOne_244 : decode cX7_executeOne 244 = .ok (.iload_n 2, 1) := by decide +kernel
theorem dX7_executeOne_245 : decode cX7_executeOne 245 = .ok (.iload_n 3, 1) := by decide +kernel
theorem dX7_executeOne_246 : decode cX7_executeOne 246 = .ok (.invokevirtual 72, 3) := by decide +kernel
theorem dX7_executeOne_249 : decode cX7_executeOne 249 = .ok (.pop, 1) := by decide +kernel
theorem dX7_executeOne_250 : decode cX7_executeOne 250 = .ok (.iload 5, 2) := by decide +kernel
theorem dX7_executeOne_252 : decode cX7_executeOne 252 = .ok (.ireturn, 1) := by decide +kernel
theorem dX7_execute_0 : decode cX7_execute 0 = .ok (.aload_n 0, 1) := by decide +kernel
theorem dX7_execute_1 : decode cX7_execute 1 = .ok (.invokevirtual 174, 3) := by decide +kernel
theorem dX7_execute_4 : decode cX7_execute 4 = .ok (.bipush (-6), 2) := by decide +kernel
theorem dX7_execute_6 : decode cX7_execute 6 = .ok (.if_icmp .eq 6, 3) := by decide +kernel
theorem dX7_execute_9 : decode cX7_execute 9 = .ok (.bipush (-5), 2) := by decide +kernel
theorem dX7_execute_11 : decode cX7_execute 11 = .ok (.ireturn, 1) := by decide +kernel
theorem dX7_execute_12 : decode cX7_execute 12 = .ok (.aload_n 0, 1) := by decide +kernel
theorem dX7_execute_13 : decode cX7_execute 13 = .ok (.invokevirtual 49, 3) := by decide +kernel
theorem dX7_execute_16 : decode cX7_execute 16 = .ok (.iconst 0, 1) := by decide +kernel
theorem dX7_execute_17 : decode cX7_execute 17 = .ok (.istore_n 1, 1) := by decide +kernel
theorem dX7_execute_18 : decode cX7_execute 18 = .ok (.iload_n 1, 1) := by decide +kernel
theorem dX7_execute_19 : decode cX7_execute 19 = .ok (.aload_n 0, 1) := by decide +kernel
theorem dX7_execute_20 : decode cX7_execute 20 = .ok (.getfield 162, 3) := by decide +kernel
theorem dX7_execute_23 : decode cX7_execute 23 = .ok (.if_icmp .ge 19, 3) := by decide +kernel
theorem dX7_execute_26 : decode cX7_execute 26 = .ok (.aload_n 0, 1) := by decide +kernel
theorem dX7_execute_27 : decode cX7_execute 27 = .ok (.iconst 4, 1) := by decide +kernel
theorem dX7_execute_28 : decode cX7_execute 28 = .ok (.iload_n 1, 1) := by decide +kernel
theorem dX7_execute_29 : decode cX7_execute 29 = .ok (.imul, 1) := by decide +kernel
theorem dX7_execute_30 : decode cX7_execute 30 = .ok (.invokevirtual 177, 3) := by decide +kernel
theorem dX7_execute_33 : decode cX7_execute 33 = .ok (.ifCond .ne 9, 3) := by decide +kernel
theorem dX7_execute_36 : decode cX7_execute 36 = .ok (.iinc 1 1, 3) := by decide +kernel
theorem dX7_execute_39 : decode cX7_execute 39 = .ok (.goto (-21), 3) := by decide +kernel
theorem dX7_execute_42 : decode cX7_execute 42 = .ok (.aload_n 0, 1) := by decide +kernel
theorem dX7_execute_43 : decode cX7_execute 43 = .ok (.iconst 0, 1) := by decide +kernel
theorem dX7_execute_44 : decode cX7_execute 44 = .ok (.putfield 142, 3) := by decide +kernel
theorem dX7_execute_47 : decode cX7_execute 47 = .ok (.iload_n 1, 1) := by decide +kernel
theorem dX7_execute_48 : decode cX7_execute 48 = .ok (.ireturn, 1) := by decide +kernel
end
section
theorem dJ7_fill_53178_0 : decode cJ7_fill_53178 0 = .ok (.iconst 0, 1) := by decide +kernel
theorem dJ7_fill_53178_1 : decode cJ7_fill_53178 1 = .ok (.istore_n 2, 1) := by decide +kernel
theorem dJ7_fill_53178_2 : decode cJ7_fill_53178 2 = .ok (.aload_n 0, 1) := by decide +kernel
theorem dJ7_fill_53178_3 : decode cJ7_fill_53178 3 = .ok (.arraylength, 1) := by decide +kernel
theorem dJ7_fill_53178_4 : decode cJ7_fill_53178 4 = .ok (.istore_n 3, 1) := by decide +kernel
theorem dJ7_fill_53178_5 : decode cJ7_fill_53178 5 = .ok (.iload_n 2, 1) := by decide +kernel
theorem dJ7_fill_53178_6 : decode cJ7_fill_53178 6 = .ok (.iload_n 3, 1) := by decide +kernel
theorem dJ7_fill_53178_7 : decode cJ7_fill_53178 7 = .ok (.if_icmp .ge 13, 3) := by decide +kernel
theorem dJ7_fill_53178_10 : decode cJ7_fill_53178 10 = .ok (.aload_n 0, 1) := by decide +kernel
theorem dJ7_fill_53178_11 : decode cJ7_fill_53178 11 = .ok (.iload_n 2, 1) := by decide +kernel
theorem dJ7_fill_53178_12 : decode cJ7_fill_53178 12 = .ok (.iload_n 1, 1) := by decide +kernel
theorem dJ7_fill_53178_13 : decode cJ7_fill_53178 13 = .ok (.iastore, 1) := by decide +kernel
theorem dJ7_fill_53178_14 : decode cJ7_fill_53178 14 = .ok (.iinc 2 1, 3) := by decide +kernel
theorem dJ7_fill_53178_17 : decode cJ7_fill_53178 17 = .ok (.goto (-12), 3) := by decide +kernel
theorem dJ7_fill_53178_20 : decode cJ7_fill_53178 20 = .ok (.return_, 1) := by decide +kernel
theorem dJ9_floorMod_7cf53_0 : decode cJ9_floorMod_7cf53 0 = .ok (.iload_n 0, 1) := by decide +kernel
theorem dJ9_floorMod_7cf53_1 : decode cJ9_floorMod_7cf53 1 = .ok (.iload_n 1, 1) := by decide +kernel
theorem dJ9_floorMod_7cf53_2 : decode cJ9_floorMod_7cf53 2 = .ok (.irem, 1) := by decide +kernel
theorem dJ9_floorMod_7cf53_3 : decode cJ9_floorMod_7cf53 3 = .ok (.istore_n 2, 1) := by decide +kernel
theorem dJ9_floorMod_7cf53_4 : decode cJ9_floorMod_7cf53 4 = .ok (.iload_n 0, 1) := by decide +kernel
theorem dJ9_floorMod_7cf53_5 : decode cJ9_floorMod_7cf53 5 = .ok (.iload_n 1, 1) := by decide +kernel
theorem dJ9_floorMod_7cf53_6 : decode cJ9_floorMod_7cf53 6 = .ok (.ixor, 1) := by decide +kernel
theorem dJ9_floorMod_7cf53_7 : decode cJ9_floorMod_7cf53 7 = .ok (.ifCond .ge 11, 3) := by decide +kernel
theorem dJ9_floorMod_7cf53_10 : decode cJ9_floorMod_7cf53 10 = .ok (.iload_n 2, 1) := by decide +kernel
theorem dJ9_floorMod_7cf53_11 : decode cJ9_floorMod_7cf53 11 = .ok (.ifCond .eq 7, 3) := by decide +kernel
theorem dJ9_floorMod_7cf53_14 : decode cJ9_floorMod_7cf53 14 = .ok (.iload_n 2, 1) := by decide +kernel
theorem dJ9_floorMod_7cf53_15 : decode cJ9_floorMod_7cf53 15 = .ok (.iload_n 1, 1) := by decide +kernel
theorem dJ9_floorMod_7cf53_16 : decode cJ9_floorMod_7cf53 16 = .ok (.iadd, 1) := by decide +kernel
theorem dJ9_floorMod_7cf53_17 : decode cJ9_floorMod_7cf53 17 = .ok (.ireturn, 1) := by decide +kernel
theorem dJ9_floorMod_7cf53_18 : decode cJ9_floorMod_7cf53 18 = .ok (.iload_n 2, 1) := by decide +kernel
theorem dJ9_floorMod_7cf53_19 : decode cJ9_floorMod_7cf53 19 = .ok (.ireturn, 1) := by decide +kernel
theorem dJ9_max_7cf53_0 : decode cJ9_max_7cf53 0 = .ok (.iload_n 0, 1) := by decide +kernel
theorem dJ9_max_7cf53_1 : decode cJ9_max_7cf53 1 = .ok (.iload_n 1, 1) := by decide +kernel
theorem dJ9_max_7cf53_2 : decode cJ9_max_7cf53 2 = .ok (.if_icmp .lt 7, 3) := by decide +kernel
theorem dJ9_max_7cf53_5 : decode cJ9_max_7cf53 5 = .ok (.iload_n 0, 1) := by decide +kernel
theorem dJ9_max_7cf53_6 : decode cJ9_max_7cf53 6 = .ok (.goto 4, 3) := by decide +kernel
theorem dJ9_max_7cf53_9 : decode cJ9_max_7cf53 9 = .ok (.iload_n 1, 1) := by decide +kernel
theorem dJ9_max_7cf53_10 : decode cJ9_max_7cf53 10 = .ok (.ireturn, 1) := by decide +kernel
theorem dJ9_min_7cf53_0 : decode cJ9_min_7cf53 0 = .ok (.iload_n 0, 1) := by decide +kernel
theorem dJ9_min_7cf53_1 : decode cJ9_min_7cf53 1 = .ok (.iload_n 1, 1) := by decide +kernel
theorem dJ9_min_7cf53_2 : decode cJ9_min_7cf53 2 = .ok (.if_icmp .gt 7, 3) := by decide +kernel
theorem dJ9_min_7cf53_5 : decode cJ9_min_7cf53 5 = .ok (.iload_n 0, 1) := by decide +kernel
theorem dJ9_min_7cf53_6 : decode cJ9_min_7cf53 6 = .ok (.goto 4, 3) := by decide +kernel
theorem dJ9_min_7cf53_9 : decode cJ9_min_7cf53 9 = .ok (.iload_n 1, 1) := by decide +kernel
theorem dJ9_min_7cf53_10 : decode cJ9_min_7cf53 10 = .ok (.ireturn, 1) := by decide +kernel
theorem dL_law_0 : decode cL_law 0 = .ok (.new 7, 3) := by decide +kernel
theorem dL_law_3 : decode cL_law 3 = .ok (.dup, 1) := by decide +kernel
theorem dL_law_4 : decode cL_law 4 = .ok (.invokespecial 9, 3) := by decide +kernel
theorem dL_law_7 : decode cL_law 7 = .ok (.astore_n 1, 1) := by decide +kernel
theorem dL_law_8 : decode cL_law 8 = .ok (.new 10, 3) := by decide +kernel
theorem dL_law_11 : decode cL_law 11 = .ok (.dup, 1) := by decide +kernel
theorem dL_law_12 : decode cL_law 12 = .ok (.invokespecial 12, 3) := by decide +kernel
theorem dL_law_15 : decode cL_law 15 = .ok (.astore_n 2, 1) := by decide +kernel
theorem dL_law_16 : decode cL_law 16 = .ok (.iconst 0, 1) := by decide +kernel
theorem dL_law_17 : decode cL_law 17 = .ok (.istore_n 3, 1) := by decide +kernel
theorem dL_law_18 : decode cL_law 18 = .ok (.iload_n 3, 1) := by decide +kernel
theorem dL_law_19 : decode cL_law 19 = .ok (.aload_n 0, 1) := by decide +kernel
theorem dL_law_20 : decode cL_law 20 = .ok (.arraylength, 1) := by decide +kernel
theorem dL_law_21 : decode cL_law 21 = .ok (.iconst 4, 1) := by decide +kernel
theorem dL_law_22 : decode cL_law 22 = .ok (.isub, 1) := by decide +kernel
theorem dL_law_23 : decode cL_law 23 = .ok (.if_icmp .gt 1206, 3) := by decide +kernel
theorem dL_law_26 : decode cL_law 26 = .ok (.aload_n 0, 1) := by decide +kernel
theorem dL_law_27 : decode cL_law 27 = .ok (.iload_n 3, 1) := by decide +kernel
theorem dL_law_28 : decode cL_law 28 = .ok (.iaload, 1) := by decide +kernel
theorem dL_law_29 : decode cL_law 29 = .ok (.bipush 63, 2) := by decide +kernel
theorem dL_law_31 : decode cL_law 31 = .ok (.iand, 1) := by decide +kernel
theorem dL_law_32 : decode cL_law 32 = .ok (.tableswitch 1191 0 36 #[164, 197, 220, 253, 302, 335, 358, 371, 404, 417, 450, 473, 506, 539, 572, 595, 638, 661, 694, 737, 770, 783, 816, 859, 892, 935, 958, 1001, 1034, 1077, 1090, 1113, 1126, 1139, 1152, 1165, 1178], 164) := by decide +kernel
theorem dL_law_196 : decode cL_law 196 = .ok (.aload_n 1, 1) := by decide +kernel
theorem dL_law_197 : decode cL_law 197 = .ok (.aload_n 0, 1) := by decide +kernel
theorem dL_law_198 : decode cL_law 198 = .ok (.iload_n 3, 1) := by decide +kernel
theorem dL_law_199 : decode cL_law 199 = .ok (.iconst 1, 1) := by decide +kernel
theorem dL_law_200 : decode cL_law 200 = .ok (.iadd, 1) := by decide +kernel
theorem dL_law_201 : decode cL_law 201 = .ok (.iaload, 1) := by decide +kernel
theorem dL_law_202 : decode cL_law 202 = .ok (.aload_n 0, 1) := by decide +kernel
theorem dL_law_203 : decode cL_law 203 = .ok (.iload_n 3, 1) := by decide +kernel
theorem dL_law_204 : decode cL_law 204 = .ok (.iconst 2, 1) := by decide +kernel
theorem dL_law_205 : decode cL_law 205 = .ok (.iadd, 1) := by decide +kernel
theorem dL_law_206 : decode cL_law 206 = .ok (.iaload, 1) := by decide +kernel
theorem dL_law_207 : decode cL_law 207 = .ok (.invokevirtual 13, 3) := by decide +kernel
theorem dL_law_210 : decode cL_law 210 = .ok (.aload_n 2, 1) := by decide +kernel
theorem dL_law_211 : decode cL_law 211 = .ok (.aload_n 0, 1) := by decide +kernel
theorem dL_law_212 : decode cL_law 212 = .ok (.iload_n 3, 1) := by decide +kernel
theorem dL_law_213 : decode cL_law 213 = .ok (.iconst 1, 1) := by decide +kernel
theorem dL_law_214 : decode cL_law 214 = .ok (.iadd, 1) := by decide +kernel
theorem dL_law_215 : decode cL_law 215 = .ok (.iaload, 1) := by decide +kernel
theorem dL_law_216 : decode cL_law 216 = .ok (.aload_n 0, 1) := by decide +kernel
theorem dL_law_217 : decode cL_law 217 = .ok (.iload_n 3, 1) := by decide +kernel
theorem dL_law_218 : decode cL_law 218 = .ok (.iconst 2, 1) := by decide +kernel
theorem dL_law_219 : decode cL_law 219 = .ok (.iadd, 1) := by decide +kernel
theorem dL_law_220 : decode cL_law 220 = .ok (.iaload, 1) := by decide +kernel
theorem dL_law_221 : decode cL_law 221 = .ok (.invokevirtual 17, 3) := by decide +kernel
theorem dL_law_224 : decode cL_law 224 = .ok (.if_icmp .eq 999, 3) := by decide +kernel
theorem dL_law_227 : decode cL_law 227 = .ok (.iconst 0, 1) := by decide +kernel
theorem dL_law_228 : decode cL_law 228 = .ok (.ireturn, 1) := by decide +kernel
theorem dL_law_229 : decode cL_law 229 = .ok (.aload_n 1, 1) := by decide +kernel
theorem dL_law_230 : decode cL_law 230 = .ok (.aload_n 0, 1) := by decide +kernel
theorem dL_law_231 : decode cL_law 231 = .ok (.iload_n 3, 1) := by decide +kernel
theorem dL_law_232 : decode cL_law 232 = .ok (.iconst 1, 1) := by decide +kernel
theorem dL_law_233 : decode cL_law 233 = .ok (.iadd, 1) := by decide +kernel
theorem dL_law_234 : decode cL_law 234 = .ok (.iaload, 1) := by decide +kernel
theorem dL_law_235 : decode cL_law 235 = .ok (.invokevirtual 18, 3) := by decide +kernel
theorem dL_law_238 : decode cL_law 238 = .ok (.aload_n 2, 1) := by decide +kernel
theorem dL_law_239 : decode cL_law 239 = .ok (.aload_n 0, 1) := by decide +kernel
theorem dL_law_240 : decode cL_law 240 = .ok (.iload_n 3, 1) := by decide +kernel
theorem dL_law_241 : decode cL_law 241 = .ok (.iconst 1, 1) := by decide +kernel
theorem dL_law_242 : decode cL_law 242 = .ok (.iadd, 1) := by decide +kernel
theorem dL_law_243 : decode cL_law 243 = .ok (.iaload, 1) := by decide +kernel
theorem dL_law_244 : decode cL_law 244 = .ok (.invokevirtual 22, 3) := by decide +kernel
theorem dL_law_247 : decode cL_law 247 = .ok (.if_icmp .eq 976, 3) := by decide +kernel
theorem dL_law_250 : decode cL_law 250 = .ok (.iconst 0, 1) := by decide +kernel
theorem dL_law_251 : decode cL_law 251 = .ok (.ireturn, 1) := by decide +kernel
theorem dL_law_252 : decode cL_law 252 = .ok (.aload_n 1, 1) := by decide +kernel
theorem dL_law_253 : decode cL_law 253 = .ok (.aload_n 0, 1) := by decide +kernel
theorem dL_law_254 : decode cL_law 254 = .ok (.iload_n 3, 1) := by decide +kernel
theorem dL_law_255 : decode cL_law 255 = .ok (.iconst 1, 1) := by decide +kernel
theorem dL_law_256 : decode cL_law 256 = .ok (.iadd, 1) := by decide +kernel
theorem dL_law_257 : decode cL_law 257 = .ok (.iaload, 1) := by decide +kernel
theorem dL_law_258 : decode cL_law 258 = .ok (.aload_n 0, 1) := by decide +kernel
theorem dL_law_259 : decode cL_law 259 = .ok (.iload_n 3, 1) := by decide +kernel
theorem dL_law_260 : decode cL_law 260 = .ok (.iconst 2, 1) := by decide +kernel
theorem dL_law_261 : decode cL_law 261 = .ok (.iadd, 1) := by decide +kernel
theorem dL_law_262 : decode cL_law 262 = .ok (.iaload, 1) := by decide +kernel
theorem dL_law_263 : decode cL_law 263 = .ok (.invokevirtual 23, 3) := by decide +kernel
theorem dL_law_266 : decode cL_law 266 = .ok (.aload_n 2, 1) := by decide +kernel
theorem dL_law_267 : decode cL_law 267 = .ok (.aload_n 0, 1) := by decide +kernel
theorem dL_law_268 : decode cL_law 268 = .ok (.iload_n 3, 1) := by decide +kernel
theorem dL_law_269 : decode cL_law 269 = .ok (.iconst 1, 1) := by decide +kernel
theorem dL_law_270 : decode cL_law 270 = .ok (.iadd, 1) := by decide +kernel
theorem dL_law_271 : decode cL_law 271 = .ok (.iaload, 1) := by decide +kernel
theorem dL_law_272 : decode cL_law 272 = .ok (.aload_n 0, 1) := by decide +kernel
theorem dL_law_273 : decode cL_law 273 = .ok (.iload_n 3, 1) := by decide +kernel
theorem dL_law_274 : decode cL_law 274 = .ok (.iconst 2, 1) := by decide +kernel
theorem dL_law_275 : decode cL_law 275 = .ok (.iadd, 1) := by decide +kernel
theorem dL_law_276 : decode cL_law 276 = .ok (.iaload, 1) := by decide +kernel
theorem dL_law_277 : decode cL_law 277 = .ok (.invokevirtual 26, 3) := by decide +kernel
theorem dL_law_280 : decode cL_law 280 = .ok (.if_icmp .eq 943, 3) := by decide +kernel
theorem dL_law_283 : decode cL_law 283 = .ok (.iconst 0, 1) := by decide +kernel
theorem dL_law_284 : decode cL_law 284 = .ok (.ireturn, 1) := by decide +kernel
theorem dL_law_285 : decode cL_law 285 = .ok (.aload_n 1, 1) := by decide +kernel
theorem dL_law_286 : decode cL_law 286 = .ok (.aload_n 0, 1) := by decide +kernel
theorem dL_law_287 : decode cL_law 287 = .ok (.iload_n 3, 1) := by decide +kernel
theorem dL_law_288 : decode cL_law 288 = .ok (.iconst 1, 1) := by decide +kernel
theorem dL_law_289 : decode cL_law 289 = .ok (.iadd, 1) := by decide +kernel
theorem dL_law_290 : decode cL_law 290 = .ok (.iaload, 1) := by decide +kernel
theorem dL_law_291 : decode cL_law 291 = .ok (.aload_n 0, 1) := by decide +kernel
theorem dL_law_292 : decode cL_law 292 = .ok (.iload_n 3, 1) := by decide +kernel
theorem dL_law_293 : decode cL_law 293 = .ok (.iconst 2, 1) := by decide +kernel
theorem dL_law_294 : decode cL_law 294 = .ok (.iadd, 1) := by decide +kernel
theorem dL_law_295 : decode cL_law 295 = .ok (.iaload, 1) := by decide +kernel
theorem dL_law_296 : decode cL_law 296 = .ok (.ifCond .eq 7, 3) := by decide +kernel
theorem dL_law_299 : decode cL_law 299 = .ok (.iconst 1, 1) := by decide +kernel
theorem dL_law_300 : decode cL_law 300 = .ok (.goto 4, 3) := by decide +kernel
theorem dL_law_303 : decode cL_law 303 = .ok (.iconst 0, 1) := by decide +kernel
theorem dL_law_304 : decode cL_law 304 = .ok (.invokevirtual 27, 3) := by decide +kernel
theorem dL_law_307 : decode cL_law 307 = .ok (.aload_n 2, 1) := by decide +kernel
theorem dL_law_308 : decode cL_law 308 = .ok (.aload_n 0, 1) := by decide +kernel
theorem dL_law_309 : decode cL_law 309 = .ok (.iload_n 3, 1) := by decide +kernel
theorem dL_law_310 : decode cL_law 310 = .ok (.iconst 1, 1) := by decide +kernel
theorem dL_law_311 : decode cL_law 311 = .ok (.iadd, 1) := by decide +kernel
theorem dL_law_312 : decode cL_law 312 = .ok (.iaload, 1) := by decide +kernel
theorem dL_law_313 : decode cL_law 313 = .ok (.aload_n 0, 1) := by decide +kernel
theorem dL_law_314 : decode cL_law 314 = .ok (.iload_n 3, 1) := by decide +kernel
theorem dL_law_315 : decode cL_law 315 = .ok (.iconst 2, 1) := by decide +kernel
theorem dL_law_316 : decode cL_law 316 = .ok (.iadd, 1) := by decide +kernel
theorem dL_law_317 : decode cL_law 317 = .ok (.iaload, 1) := by decide +kernel
theorem dL_law_318 : decode cL_law 318 = .ok (.ifCond .eq 7, 3) := by decide +kernel
theorem dL_law_321 : decode cL_law 321 = .ok (.iconst 1, 1) := by decide +kernel
theorem dL_law_322 : decode cL_law 322 = .ok (.goto 4, 3) := by decide +kernel
theorem dL_law_325 : decode cL_law 325 = .ok (.iconst 0, 1) := by decide +kernel
theorem dL_law_326 : decode cL_law 326 = .ok (.invokevirtual 31, 3) := by decide +kernel
theorem dL_law_329 : decode cL_law 329 = .ok (.if_icmp .eq 894, 3) := by decide +kernel
theorem dL_law_332 : decode cL_law 332 = .ok (.iconst 0, 1) := by decide +kernel
theorem dL_law_333 : decode cL_law 333 = .ok (.ireturn, 1) := by decide +kernel
theorem dL_law_334 : decode cL_law 334 = .ok (.aload_n 1, 1) := by decide +kernel
theorem dL_law_335 : decode cL_law 335 = .ok (.aload_n 0, 1) := by decide +kernel
theorem dL_law_336 : decode cL_law 336 = .ok (.iload_n 3, 1) := by decide +kernel
theorem dL_law_337 : decode cL_law 337 = .ok (.iconst 1, 1) := by decide +kernel
theorem dL_law_338 : decode cL_law 338 = .ok (.iadd, 1) := by decide +kernel
theorem dL_law_339 : decode cL_law 339 = .ok (.iaload, 1) := by decide +kernel
theorem dL_law_340 : decode cL_law 340 = .ok (.aload_n 0, 1) := by decide +kernel
theorem dL_law_341 : decode cL_law 341 = .ok (.iload_n 3, 1) := by decide +kernel
theorem dL_law_342 : decode cL_law 342 = .ok (.iconst 2, 1) := by decide +kernel
theorem dL_law_343 : decode cL_law 343 = .ok (.iadd, 1) := by decide +kernel
theorem dL_law_344 : decode cL_law 344 = .ok (.iaload, 1) := by decide +kernel
theorem dL_law_345 : decode cL_law 345 = .ok (.invokevirtual 32, 3) := by decide +kernel
theorem dL_law_348 : decode cL_law 348 = .ok (.aload_n 2, 1) := by decide +kernel
theorem dL_law_349 : decode cL_law 349 = .ok (.aload_n 0, 1) := by decide +kernel
theorem dL_law_350 : decode cL_law 350 = .ok (.iload_n 3, 1) := by decide +kernel
theorem dL_law_351 : decode cL_law 351 = .ok (.iconst 1, 1) := by decide +kernel
theorem dL_law_352 : decode cL_law 352 = .ok (.iadd, 1) := by decide +kernel
theorem dL_law_353 : decode cL_law 353 = .ok (.iaload, 1) := by decide +kernel
theorem dL_law_354 : decode cL_law 354 = .ok (.aload_n 0, 1) := by decide +kernel
theorem dL_law_355 : decode cL_law 355 = .ok (.iload_n 3, 1) := by decide +kernel
theorem dL_law_356 : decode cL_law 356 = .ok (.iconst 2, 1) := by decide +kernel
theorem dL_law_357 : decode cL_law 357 = .ok (.iadd, 1) := by decide +kernel
theorem dL_law_358 : decode cL_law 358 = .ok (.iaload, 1) := by decide +kernel
theorem dL_law_359 : decode cL_law 359 = .ok (.invokevirtual 35, 3) := by decide +kernel
theorem dL_law_362 : decode cL_law 362 = .ok (.if_icmp .eq 861, 3) := by decide +kernel
theorem dL_law_365 : decode cL_law 365 = .ok (.iconst 0, 1) := by decide +kernel
theorem dL_law_366 : decode cL_law 366 = .ok (.ireturn, 1) := by decide +kernel
theorem dL_law_367 : decode cL_law 367 = .ok (.aload_n 1, 1) := by decide +kernel
theorem dL_law_368 : decode cL_law 368 = .ok (.aload_n 0, 1) := by decide +kernel
theorem dL_law_369 : decode cL_law 369 = .ok (.iload_n 3, 1) := by decide +kernel
theorem dL_law_370 : decode cL_law 370 = .ok (.iconst 1, 1) := by decide +kernel
theorem dL_law_371 : decode cL_law 371 = .ok (.iadd, 1) := by decide +kernel
theorem dL_law_372 : decode cL_law 372 = .ok (.iaload, 1) := by decide +kernel
theorem dL_law_373 : decode cL_law 373 = .ok (.invokevirtual 36, 3) := by decide +kernel
theorem dL_law_376 : decode cL_law 376 = .ok (.aload_n 2, 1) := by decide +kernel
theorem dL_law_377 : decode cL_law 377 = .ok (.aload_n 0, 1) := by decide +kernel
theorem dL_law_378 : decode cL_law 378 = .ok (.iload_n 3, 1) := by decide +kernel
theorem dL_law_379 : decode cL_law 379 = .ok (.iconst 1, 1) := by decide +kernel
theorem dL_law_380 : decode cL_law 380 = .ok (.iadd, 1) := by decide +kernel
theorem dL_law_381 : decode cL_law 381 = .ok (.iaload, 1) := by decide +kernel
theorem dL_law_382 : decode cL_law 382 = .ok (.invokevirtual 39, 3) := by decide +kernel
theorem dL_law_385 : decode cL_law 385 = .ok (.if_icmp .eq 838, 3) := by decide +kernel
theorem dL_law_388 : decode cL_law 388 = .ok (.iconst 0, 1) := by decide +kernel
theorem dL_law_389 : decode cL_law 389 = .ok (.ireturn, 1) := by decide +kernel
theorem dL_law_390 : decode cL_law 390 = .ok (.aload_n 1, 1) := by decide +kernel
theorem dL_law_391 : decode cL_law 391 = .ok (.invokevirtual 40, 3) := by decide +kernel
theorem dL_law_394 : decode cL_law 394 = .ok (.aload_n 2, 1) := by decide +kernel
theorem dL_law_395 : decode cL_law 395 = .ok (.invokevirtual 44, 3) := by decide +kernel
theorem dL_law_398 : decode cL_law 398 = .ok (.if_icmp .eq 825, 3) := by decide +kernel
theorem dL_law_401 : decode cL_law 401 = .ok (.iconst 0, 1) := by decide +kernel
theorem dL_law_402 : decode cL_law 402 = .ok (.ireturn, 1) := by decide +kernel
theorem dL_law_403 : decode cL_law 403 = .ok (.aload_n 1, 1) := by decide +kernel
theorem dL_law_404 : decode cL_law 404 = .ok (.aload_n 0, 1) := by decide +kernel
theorem dL_law_405 : decode cL_law 405 = .ok (.iload_n 3, 1) := by decide +kernel
theorem dL_law_406 : decode cL_law 406 = .ok (.iconst 1, 1) := by decide +kernel
theorem dL_law_407 : decode cL_law 407 = .ok (.iadd, 1) := by decide +kernel
theorem dL_law_408 : decode cL_law 408 = .ok (.iaload, 1) := by decide +kernel
theorem dL_law_409 : decode cL_law 409 = .ok (.aload_n 0, 1) := by decide +kernel
theorem dL_law_410 : decode cL_law 410 = .ok (.iload_n 3, 1) := by decide +kernel
theorem dL_law_411 : decode cL_law 411 = .ok (.iconst 2, 1) := by decide +kernel
theorem dL_law_412 : decode cL_law 412 = .ok (.iadd, 1) := by decide +kernel
theorem dL_law_413 : decode cL_law 413 = .ok (.iaload, 1) := by decide +kernel
theorem dL_law_414 : decode cL_law 414 = .ok (.invokevirtual 45, 3) := by decide +kernel
theorem dL_law_417 : decode cL_law 417 = .ok (.aload_n 2, 1) := by decide +kernel
theorem dL_law_418 : decode cL_law 418 = .ok (.aload_n 0, 1) := by decide +kernel
theorem dL_law_419 : decode cL_law 419 = .ok (.iload_n 3, 1) := by decide +kernel
theorem dL_law_420 : decode cL_law 420 = .ok (.iconst 1, 1) := by decide +kernel
theorem dL_law_421 : decode cL_law 421 = .ok (.iadd, 1) := by decide +kernel
theorem dL_law_422 : decode cL_law 422 = .ok (.iaload, 1) := by decide +kernel
theorem dL_law_423 : decode cL_law 423 = .ok (.aload_n 0, 1) := by decide +kernel
theorem dL_law_424 : decode cL_law 424 = .ok (.iload_n 3, 1) := by decide +kernel
theorem dL_law_425 : decode cL_law 425 = .ok (.iconst 2, 1) := by decide +kernel
theorem dL_law_426 : decode cL_law 426 = .ok (.iadd, 1) := by decide +kernel
theorem dL_law_427 : decode cL_law 427 = .ok (.iaload, 1) := by decide +kernel
theorem dL_law_428 : decode cL_law 428 = .ok (.invokevirtual 48, 3) := by decide +kernel
theorem dL_law_431 : decode cL_law 431 = .ok (.if_icmp .eq 792, 3) := by decide +kernel
theorem dL_law_434 : decode cL_law 434 = .ok (.iconst 0, 1) := by decide +kernel
theorem dL_law_435 : decode cL_law 435 = .ok (.ireturn, 1) := by decide +kernel
theorem dL_law_436 : decode cL_law 436 = .ok (.aload_n 1, 1) := by decide +kernel
theorem dL_law_437 : decode cL_law 437 = .ok (.invokevirtual 49, 3) := by decide +kernel
theorem dL_law_440 : decode cL_law 440 = .ok (.aload_n 2, 1) := by decide +kernel
theorem dL_law_441 : decode cL_law 441 = .ok (.invokevirtual 52, 3) := by decide +kernel
theorem dL_law_444 : decode cL_law 444 = .ok (.if_icmp .eq 779, 3) := by decide +kernel
theorem dL_law_447 : decode cL_law 447 = .ok (.iconst 0, 1) := by decide +kernel
theorem dL_law_448 : decode cL_law 448 = .ok (.ireturn, 1) := by decide +kernel
theorem dL_law_449 : decode cL_law 449 = .ok (.aload_n 1, 1) := by decide +kernel
theorem dL_law_450 : decode cL_law 450 = .ok (.aload_n 0, 1) := by decide +kernel
theorem dL_law_451 : decode cL_law 451 = .ok (.iload_n 3, 1) := by decide +kernel
theorem dL_law_452 : decode cL_law 452 = .ok (.iconst 1, 1) := by decide +kernel
theorem dL_law_453 : decode cL_law 453 = .ok (.iadd, 1) := by decide +kernel
theorem dL_law_454 : decode cL_law 454 = .ok (.iaload, 1) := by decide +kernel
theorem dL_law_455 : decode cL_law 455 = .ok (.aload_n 0, 1) := by decide +kernel
theorem dL_law_456 : decode cL_law 456 = .ok (.iload_n 3, 1) := by decide +kernel
theorem dL_law_457 : decode cL_law 457 = .ok (.iconst 2, 1) := by decide +kernel
theorem dL_law_458 : decode cL_law 458 = .ok (.iadd, 1) := by decide +kernel
theorem dL_law_459 : decode cL_law 459 = .ok (.iaload, 1) := by decide +kernel
theorem dL_law_460 : decode cL_law 460 = .ok (.invokevirtual 53, 3) := by decide +kernel
theorem dL_law_463 : decode cL_law 463 = .ok (.aload_n 2, 1) := by decide +kernel
theorem dL_law_464 : decode cL_law 464 = .ok (.aload_n 0, 1) := by decide +kernel
theorem dL_law_465 : decode cL_law 465 = .ok (.iload_n 3, 1) := by decide +kernel
theorem dL_law_466 : decode cL_law 466 = .ok (.iconst 1, 1) := by decide +kernel
theorem dL_law_467 : decode cL_law 467 = .ok (.iadd, 1) := by decide +kernel
theorem dL_law_468 : decode cL_law 468 = .ok (.iaload, 1) := by decide +kernel
theorem dL_law_469 : decode cL_law 469 = .ok (.aload_n 0, 1) := by decide +kernel
theorem dL_law_470 : decode cL_law 470 = .ok (.iload_n 3, 1) := by decide +kernel
theorem dL_law_471 : decode cL_law 471 = .ok (.iconst 2, 1) := by decide +kernel
theorem dL_law_472 : decode cL_law 472 = .ok (.iadd, 1) := by decide +kernel
theorem dL_law_473 : decode cL_law 473 = .ok (.iaload, 1) := by decide +kernel
theorem dL_law_474 : decode cL_law 474 = .ok (.invokevirtual 56, 3) := by decide +kernel
theorem dL_law_477 : decode cL_law 477 = .ok (.if_icmp .eq 746, 3) := by decide +kernel
theorem dL_law_480 : decode cL_law 480 = .ok (.iconst 0, 1) := by decide +kernel
theorem dL_law_481 : decode cL_law 481 = .ok (.ireturn, 1) := by decide +kernel
theorem dL_law_482 : decode cL_law 482 = .ok (.aload_n 1, 1) := by decide +kernel
theorem dL_law_483 : decode cL_law 483 = .ok (.aload_n 0, 1) := by decide +kernel
theorem dL_law_484 : decode cL_law 484 = .ok (.iload_n 3, 1) := by decide +kernel
theorem dL_law_485 : decode cL_law 485 = .ok (.iconst 1, 1) := by decide +kernel
theorem dL_law_486 : decode cL_law 486 = .ok (.iadd, 1) := by decide +kernel
theorem dL_law_487 : decode cL_law 487 = .ok (.iaload, 1) := by decide +kernel
theorem dL_law_488 : decode cL_law 488 = .ok (.invokevirtual 57, 3) := by decide +kernel
theorem dL_law_491 : decode cL_law 491 = .ok (.aload_n 2, 1) := by decide +kernel
theorem dL_law_492 : decode cL_law 492 = .ok (.aload_n 0, 1) := by decide +kernel
theorem dL_law_493 : decode cL_law 493 = .ok (.iload_n 3, 1) := by decide +kernel
theorem dL_law_494 : decode cL_law 494 = .ok (.iconst 1, 1) := by decide +kernel
theorem dL_law_495 : decode cL_law 495 = .ok (.iadd, 1) := by decide +kernel
theorem dL_law_496 : decode cL_law 496 = .ok (.iaload, 1) := by decide +kernel
theorem dL_law_497 : decode cL_law 497 = .ok (.invokevirtual 60, 3) := by decide +kernel
theorem dL_law_500 : decode cL_law 500 = .ok (.if_icmp .eq 723, 3) := by decide +kernel
theorem dL_law_503 : decode cL_law 503 = .ok (.iconst 0, 1) := by decide +kernel
theorem dL_law_504 : decode cL_law 504 = .ok (.ireturn, 1) := by decide +kernel
theorem dL_law_505 : decode cL_law 505 = .ok (.aload_n 1, 1) := by decide +kernel
theorem dL_law_506 : decode cL_law 506 = .ok (.aload_n 0, 1) := by decide +kernel
theorem dL_law_507 : decode cL_law 507 = .ok (.iload_n 3, 1) := by decide +kernel
theorem dL_law_508 : decode cL_law 508 = .ok (.iconst 1, 1) := by decide +kernel
theorem dL_law_509 : decode cL_law 509 = .ok (.iadd, 1) := by decide +kernel
theorem dL_law_510 : decode cL_law 510 = .ok (.iaload, 1) := by decide +kernel
theorem dL_law_511 : decode cL_law 511 = .ok (.aload_n 0, 1) := by decide +kernel
theorem dL_law_512 : decode cL_law 512 = .ok (.iload_n 3, 1) := by decide +kernel
theorem dL_law_513 : decode cL_law 513 = .ok (.iconst 2, 1) := by decide +kernel
theorem dL_law_514 : decode cL_law 514 = .ok (.iadd, 1) := by decide +kernel
theorem dL_law_515 : decode cL_law 515 = .ok (.iaload, 1) := by decide +kernel
theorem dL_law_516 : decode cL_law 516 = .ok (.invokevirtual 61, 3) := by decide +kernel
theorem dL_law_519 : decode cL_law 519 = .ok (.aload_n 2, 1) := by decide +kernel
theorem dL_law_520 : decode cL_law 520 = .ok (.aload_n 0, 1) := by decide +kernel
theorem dL_law_521 : decode cL_law 521 = .ok (.iload_n 3, 1) := by decide +kernel
theorem dL_law_522 : decode cL_law 522 = .ok (.iconst 1, 1) := by decide +kernel
theorem dL_law_523 : decode cL_law 523 = .ok (.iadd, 1) := by decide +kernel
theorem dL_law_524 : decode cL_law 524 = .ok (.iaload, 1) := by decide +kernel
theorem dL_law_525 : decode cL_law 525 = .ok (.aload_n 0, 1) := by decide +kernel
theorem dL_law_526 : decode cL_law 526 = .ok (.iload_n 3, 1) := by decide +kernel
theorem dL_law_527 : decode cL_law 527 = .ok (.iconst 2, 1) := by decide +kernel
theorem dL_law_528 : decode cL_law 528 = .ok (.iadd, 1) := by decide +kernel
theorem dL_law_529 : decode cL_law 529 = .ok (.iaload, 1) := by decide +kernel
theorem dL_law_530 : decode cL_law 530 = .ok (.invokevirtual 64, 3) := by decide +kernel
theorem dL_law_533 : decode cL_law 533 = .ok (.if_icmp .eq 690, 3) := by decide +kernel
theorem dL_law_536 : decode cL_law 536 = .ok (.iconst 0, 1) := by decide +kernel
theorem dL_law_537 : decode cL_law 537 = .ok (.ireturn, 1) := by decide +kernel
theorem dL_law_538 : decode cL_law 538 = .ok (.aload_n 1, 1) := by decide +kernel
theorem dL_law_539 : decode cL_law 539 = .ok (.aload_n 0, 1) := by decide +kernel
theorem dL_law_540 : decode cL_law 540 = .ok (.iload_n 3, 1) := by decide +kernel
theorem dL_law_541 : decode cL_law 541 = .ok (.iconst 1, 1) := by decide +kernel
theorem dL_law_542 : decode cL_law 542 = .ok (.iadd, 1) := by decide +kernel
theorem dL_law_543 : decode cL_law 543 = .ok (.iaload, 1) := by decide +kernel
theorem dL_law_544 : decode cL_law 544 = .ok (.aload_n 0, 1) := by decide +kernel
theorem dL_law_545 : decode cL_law 545 = .ok (.iload_n 3, 1) := by decide +kernel
theorem dL_law_546 : decode cL_law 546 = .ok (.iconst 2, 1) := by decide +kernel
theorem dL_law_547 : decode cL_law 547 = .ok (.iadd, 1) := by decide +kernel
theorem dL_law_548 : decode cL_law 548 = .ok (.iaload, 1) := by decide +kernel
theorem dL_law_549 : decode cL_law 549 = .ok (.invokevirtual 65, 3) := by decide +kernel
theorem dL_law_552 : decode cL_law 552 = .ok (.aload_n 2, 1) := by decide +kernel
theorem dL_law_553 : decode cL_law 553 = .ok (.aload_n 0, 1) := by decide +kernel
theorem dL_law_554 : decode cL_law 554 = .ok (.iload_n 3, 1) := by decide +kernel
theorem dL_law_555 : decode cL_law 555 = .ok (.iconst 1, 1) := by decide +kernel
theorem dL_law_556 : decode cL_law 556 = .ok (.iadd, 1) := by decide +kernel
theorem dL_law_557 : decode cL_law 557 = .ok (.iaload, 1) := by decide +kernel
theorem dL_law_558 : decode cL_law 558 = .ok (.aload_n 0, 1) := by decide +kernel
theorem dL_law_559 : decode cL_law 559 = .ok (.iload_n 3, 1) := by decide +kernel
theorem dL_law_560 : decode cL_law 560 = .ok (.iconst 2, 1) := by decide +kernel
theorem dL_law_561 : decode cL_law 561 = .ok (.iadd, 1) := by decide +kernel
theorem dL_law_562 : decode cL_law 562 = .ok (.iaload, 1) := by decide +kernel
theorem dL_law_563 : decode cL_law 563 = .ok (.invokevirtual 68, 3) := by decide +kernel
theorem dL_law_566 : decode cL_law 566 = .ok (.if_icmp .eq 657, 3) := by decide +kernel
theorem dL_law_569 : decode cL_law 569 = .ok (.iconst 0, 1) := by decide +kernel
theorem dL_law_570 : decode cL_law 570 = .ok (.ireturn, 1) := by decide +kernel
theorem dL_law_571 : decode cL_law 571 = .ok (.aload_n 1, 1) := by decide +kernel
theorem dL_law_572 : decode cL_law 572 = .ok (.aload_n 0, 1) := by decide +kernel
theorem dL_law_573 : decode cL_law 573 = .ok (.iload_n 3, 1) := by decide +kernel
theorem dL_law_574 : decode cL_law 574 = .ok (.iconst 1, 1) := by decide +kernel
theorem dL_law_575 : decode cL_law 575 = .ok (.iadd, 1) := by decide +kernel
theorem dL_law_576 : decode cL_law 576 = .ok (.iaload, 1) := by decide +kernel
theorem dL_law_577 : decode cL_law 577 = .ok (.aload_n 0, 1) := by decide +kernel
theorem dL_law_578 : decode cL_law 578 = .ok (.iload_n 3, 1) := by decide +kernel
theorem dL_law_579 : decode cL_law 579 = .ok (.iconst 2, 1) := by decide +kernel
theorem dL_law_580 : decode cL_law 580 = .ok (.iadd, 1) := by decide +kernel
theorem dL_law_581 : decode cL_law 581 = .ok (.iaload, 1) := by decide +kernel
theorem dL_law_582 : decode cL_law 582 = .ok (.invokevirtual 69, 3) := by decide +kernel
theorem dL_law_585 : decode cL_law 585 = .ok (.aload_n 2, 1) := by decide +kernel
theorem dL_law_586 : decode cL_law 586 = .ok (.aload_n 0, 1) := by decide +kernel
theorem dL_law_587 : decode cL_law 587 = .ok (.iload_n 3, 1) := by decide +kernel
theorem dL_law_588 : decode cL_law 588 = .ok (.iconst 1, 1) := by decide +kernel
theorem dL_law_589 : decode cL_law 589 = .ok (.iadd, 1) := by decide +kernel
theorem dL_law_590 : decode cL_law 590 = .ok (.iaload, 1) := by decide +kernel
theorem dL_law_591 : decode cL_law 591 = .ok (.aload_n 0, 1) := by decide +kernel
theorem dL_law_592 : decode cL_law 592 = .ok (.iload_n 3, 1) := by decide +kernel
theorem dL_law_593 : decode cL_law 593 = .ok (.iconst 2, 1) := by decide +kernel
theorem dL_law_594 : decode cL_law 594 = .ok (.iadd, 1) := by decide +kernel
theorem dL_law_595 : decode cL_law 595 = .ok (.iaload, 1) := by decide +kernel
theorem dL_law_596 : decode cL_law 596 = .ok (.invokevirtual 72, 3) := by decide +kernel
theorem dL_law_599 : decode cL_law 599 = .ok (.if_icmp .eq 624, 3) := by decide +kernel
theorem dL_law_602 : decode cL_law 602 = .ok (.iconst 0, 1) := by decide +kernel
theorem dL_law_603 : decode cL_law 603 = .ok (.ireturn, 1) := by decide +kernel
theorem dL_law_604 : decode cL_law 604 = .ok (.aload_n 1, 1) := by decide +kernel
theorem dL_law_605 : decode cL_law 605 = .ok (.aload_n 0, 1) := by decide +kernel
theorem dL_law_606 : decode cL_law 606 = .ok (.iload_n 3, 1) := by decide +kernel
theorem dL_law_607 : decode cL_law 607 = .ok (.iconst 1, 1) := by decide +kernel
theorem dL_law_608 : decode cL_law 608 = .ok (.iadd, 1) := by decide +kernel
theorem dL_law_609 : decode cL_law 609 = .ok (.iaload, 1) := by decide +kernel
theorem dL_law_610 : decode cL_law 610 = .ok (.invokevirtual 73, 3) := by decide +kernel
theorem dL_law_613 : decode cL_law 613 = .ok (.aload_n 2, 1) := by decide +kernel
theorem dL_law_614 : decode cL_law 614 = .ok (.aload_n 0, 1) := by decide +kernel
theorem dL_law_615 : decode cL_law 615 = .ok (.iload_n 3, 1) := by decide +kernel
theorem dL_law_616 : decode cL_law 616 = .ok (.iconst 1, 1) := by decide +kernel
theorem dL_law_617 : decode cL_law 617 = .ok (.iadd, 1) := by decide +kernel
theorem dL_law_618 : decode cL_law 618 = .ok (.iaload, 1) := by decide +kernel
theorem dL_law_619 : decode cL_law 619 = .ok (.invokevirtual 76, 3) := by decide +kernel
theorem dL_law_622 : decode cL_law 622 = .ok (.if_icmp .eq 601, 3) := by decide +kernel
theorem dL_law_625 : decode cL_law 625 = .ok (.iconst 0, 1) := by decide +kernel
theorem dL_law_626 : decode cL_law 626 = .ok (.ireturn, 1) := by decide +kernel
theorem dL_law_627 : decode cL_law 627 = .ok (.aload_n 1, 1) := by decide +kernel
theorem dL_law_628 : decode cL_law 628 = .ok (.aload_n 0, 1) := by decide +kernel
theorem dL_law_629 : decode cL_law 629 = .ok (.iload_n 3, 1) := by decide +kernel
theorem dL_law_630 : decode cL_law 630 = .ok (.iconst 1, 1) := by decide +kernel
theorem dL_law_631 : decode cL_law 631 = .ok (.iadd, 1) := by decide +kernel
theorem dL_law_632 : decode cL_law 632 = .ok (.iaload, 1) := by decide +kernel
theorem dL_law_633 : decode cL_law 633 = .ok (.aload_n 0, 1) := by decide +kernel
theorem dL_law_634 : decode cL_law 634 = .ok (.iload_n 3, 1) := by decide +kernel
theorem dL_law_635 : decode cL_law 635 = .ok (.iconst 2, 1) := by decide +kernel
theorem dL_law_636 : decode cL_law 636 = .ok (.iadd, 1) := by decide +kernel
theorem dL_law_637 : decode cL_law 637 = .ok (.iaload, 1) := by decide +kernel
theorem dL_law_638 : decode cL_law 638 = .ok (.aload_n 0, 1) := by decide +kernel
theorem dL_law_639 : decode cL_law 639 = .ok (.iload_n 3, 1) := by decide +kernel
theorem dL_law_640 : decode cL_law 640 = .ok (.iconst 3, 1) := by decide +kernel
theorem dL_law_641 : decode cL_law 641 = .ok (.iadd, 1) := by decide +kernel
theorem dL_law_642 : decode cL_law 642 = .ok (.iaload, 1) := by decide +kernel
theorem dL_law_643 : decode cL_law 643 = .ok (.invokevirtual 77, 3) := by decide +kernel
theorem dL_law_646 : decode cL_law 646 = .ok (.aload_n 2, 1) := by decide +kernel
theorem dL_law_647 : decode cL_law 647 = .ok (.aload_n 0, 1) := by decide +kernel
theorem dL_law_648 : decode cL_law 648 = .ok (.iload_n 3, 1) := by decide +kernel
theorem dL_law_649 : decode cL_law 649 = .ok (.iconst 1, 1) := by decide +kernel
theorem dL_law_650 : decode cL_law 650 = .ok (.iadd, 1) := by decide +kernel
theorem dL_law_651 : decode cL_law 651 = .ok (.iaload, 1) := by decide +kernel
theorem dL_law_652 : decode cL_law 652 = .ok (.aload_n 0, 1) := by decide +kernel
theorem dL_law_653 : decode cL_law 653 = .ok (.iload_n 3, 1) := by decide +kernel
theorem dL_law_654 : decode cL_law 654 = .ok (.iconst 2, 1) := by decide +kernel
theorem dL_law_655 : decode cL_law 655 = .ok (.iadd, 1) := by decide +kernel
theorem dL_law_656 : decode cL_law 656 = .ok (.iaload, 1) := by decide +kernel
theorem dL_law_657 : decode cL_law 657 = .ok (.aload_n 0, 1) := by decide +kernel
theorem dL_law_658 : decode cL_law 658 = .ok (.iload_n 3, 1) := by decide +kernel
theorem dL_law_659 : decode cL_law 659 = .ok (.iconst 3, 1) := by decide +kernel
theorem dL_law_660 : decode cL_law 660 = .ok (.iadd, 1) := by decide +kernel
theorem dL_law_661 : decode cL_law 661 = .ok (.iaload, 1) := by decide +kernel
theorem dL_law_662 : decode cL_law 662 = .ok (.invokevirtual 81, 3) := by decide +kernel
theorem dL_law_665 : decode cL_law 665 = .ok (.if_icmp .eq 558, 3) := by decide +kernel
theorem dL_law_668 : decode cL_law 668 = .ok (.iconst 0, 1) := by decide +kernel
theorem dL_law_669 : decode cL_law 669 = .ok (.ireturn, 1) := by decide +kernel
theorem dL_law_670 : decode cL_law 670 = .ok (.aload_n 1, 1) := by decide +kernel
theorem dL_law_671 : decode cL_law 671 = .ok (.aload_n 0, 1) := by decide +kernel
theorem dL_law_672 : decode cL_law 672 = .ok (.iload_n 3, 1) := by decide +kernel
theorem dL_law_673 : decode cL_law 673 = .ok (.iconst 1, 1) := by decide +kernel
theorem dL_law_674 : decode cL_law 674 = .ok (.iadd, 1) := by decide +kernel
theorem dL_law_675 : decode cL_law 675 = .ok (.iaload, 1) := by decide +kernel
theorem dL_law_676 : decode cL_law 676 = .ok (.invokevirtual 82, 3) := by decide +kernel
theorem dL_law_679 : decode cL_law 679 = .ok (.aload_n 2, 1) := by decide +kernel
theorem dL_law_680 : decode cL_law 680 = .ok (.aload_n 0, 1) := by decide +kernel
theorem dL_law_681 : decode cL_law 681 = .ok (.iload_n 3, 1) := by decide +kernel
theorem dL_law_682 : decode cL_law 682 = .ok (.iconst 1, 1) := by decide +kernel
theorem dL_law_683 : decode cL_law 683 = .ok (.iadd, 1) := by decide +kernel
theorem dL_law_684 : decode cL_law 684 = .ok (.iaload, 1) := by decide +kernel
theorem dL_law_685 : decode cL_law 685 = .ok (.invokevirtual 85, 3) := by decide +kernel
theorem dL_law_688 : decode cL_law 688 = .ok (.if_icmp .eq 535, 3) := by decide +kernel
theorem dL_law_691 : decode cL_law 691 = .ok (.iconst 0, 1) := by decide +kernel
theorem dL_law_692 : decode cL_law 692 = .ok (.ireturn, 1) := by decide +kernel
theorem dL_law_693 : decode cL_law 693 = .ok (.aload_n 1, 1) := by decide +kernel
theorem dL_law_694 : decode cL_law 694 = .ok (.aload_n 0, 1) := by decide +kernel
theorem dL_law_695 : decode cL_law 695 = .ok (.iload_n 3, 1) := by decide +kernel
theorem dL_law_696 : decode cL_law 696 = .ok (.iconst 1, 1) := by decide +kernel
theorem dL_law_697 : decode cL_law 697 = .ok (.iadd, 1) := by decide +kernel
theorem dL_law_698 : decode cL_law 698 = .ok (.iaload, 1) := by decide +kernel
theorem dL_law_699 : decode cL_law 699 = .ok (.aload_n 0, 1) := by decide +kernel
theorem dL_law_700 : decode cL_law 700 = .ok (.iload_n 3, 1) := by decide +kernel
theorem dL_law_701 : decode cL_law 701 = .ok (.iconst 2, 1) := by decide +kernel
theorem dL_law_702 : decode cL_law 702 = .ok (.iadd, 1) := by decide +kernel
theorem dL_law_703 : decode cL_law 703 = .ok (.iaload, 1) := by decide +kernel
theorem dL_law_704 : decode cL_law 704 = .ok (.invokevirtual 86, 3) := by decide +kernel
theorem dL_law_707 : decode cL_law 707 = .ok (.aload_n 2, 1) := by decide +kernel
theorem dL_law_708 : decode cL_law 708 = .ok (.aload_n 0, 1) := by decide +kernel
theorem dL_law_709 : decode cL_law 709 = .ok (.iload_n 3, 1) := by decide +kernel
theorem dL_law_710 : decode cL_law 710 = .ok (.iconst 1, 1) := by decide +kernel
theorem dL_law_711 : decode cL_law 711 = .ok (.iadd, 1) := by decide +kernel
theorem dL_law_712 : decode cL_law 712 = .ok (.iaload, 1) := by decide +kernel
theorem dL_law_713 : decode cL_law 713 = .ok (.aload_n 0, 1) := by decide +kernel
theorem dL_law_714 : decode cL_law 714 = .ok (.iload_n 3, 1) := by decide +kernel
theorem dL_law_715 : decode cL_law 715 = .ok (.iconst 2, 1) := by decide +kernel
theorem dL_law_716 : decode cL_law 716 = .ok (.iadd, 1) := by decide +kernel
theorem dL_law_717 : decode cL_law 717 = .ok (.iaload, 1) := by decide +kernel
theorem dL_law_718 : decode cL_law 718 = .ok (.invokevirtual 89, 3) := by decide +kernel
theorem dL_law_721 : decode cL_law 721 = .ok (.if_icmp .eq 502, 3) := by decide +kernel
theorem dL_law_724 : decode cL_law 724 = .ok (.iconst 0, 1) := by decide +kernel
theorem dL_law_725 : decode cL_law 725 = .ok (.ireturn, 1) := by decide +kernel
theorem dL_law_726 : decode cL_law 726 = .ok (.aload_n 1, 1) := by decide +kernel
theorem dL_law_727 : decode cL_law 727 = .ok (.aload_n 0, 1) := by decide +kernel
theorem dL_law_728 : decode cL_law 728 = .ok (.iload_n 3, 1) := by decide +kernel
theorem dL_law_729 : decode cL_law 729 = .ok (.iconst 1, 1) := by decide +kernel
theorem dL_law_730 : decode cL_law 730 = .ok (.iadd, 1) := by decide +kernel
theorem dL_law_731 : decode cL_law 731 = .ok (.iaload, 1) := by decide +kernel
theorem dL_law_732 : decode cL_law 732 = .ok (.aload_n 0, 1) := by decide +kernel
theorem dL_law_733 : decode cL_law 733 = .ok (.iload_n 3, 1) := by decide +kernel
theorem dL_law_734 : decode cL_law 734 = .ok (.iconst 2, 1) := by decide +kernel
theorem dL_law_735 : decode cL_law 735 = .ok (.iadd, 1) := by decide +kernel
theorem dL_law_736 : decode cL_law 736 = .ok (.iaload, 1) := by decide +kernel
theorem dL_law_737 : decode cL_law 737 = .ok (.aload_n 0, 1) := by decide +kernel
theorem dL_law_738 : decode cL_law 738 = .ok (.iload_n 3, 1) := by decide +kernel
theorem dL_law_739 : decode cL_law 739 = .ok (.iconst 3, 1) := by decide +kernel
theorem dL_law_740 : decode cL_law 740 = .ok (.iadd, 1) := by decide +kernel
theorem dL_law_741 : decode cL_law 741 = .ok (.iaload, 1) := by decide +kernel
theorem dL_law_742 : decode cL_law 742 = .ok (.invokevirtual 90, 3) := by decide +kernel
theorem dL_law_745 : decode cL_law 745 = .ok (.aload_n 2, 1) := by decide +kernel
theorem dL_law_746 : decode cL_law 746 = .ok (.aload_n 0, 1) := by decide +kernel
theorem dL_law_747 : decode cL_law 747 = .ok (.iload_n 3, 1) := by decide +kernel
theorem dL_law_748 : decode cL_law 748 = .ok (.iconst 1, 1) := by decide +kernel
theorem dL_law_749 : decode cL_law 749 = .ok (.iadd, 1) := by decide +kernel
theorem dL_law_750 : decode cL_law 750 = .ok (.iaload, 1) := by decide +kernel
theorem dL_law_751 : decode cL_law 751 = .ok (.aload_n 0, 1) := by decide +kernel
theorem dL_law_752 : decode cL_law 752 = .ok (.iload_n 3, 1) := by decide +kernel
theorem dL_law_753 : decode cL_law 753 = .ok (.iconst 2, 1) := by decide +kernel
theorem dL_law_754 : decode cL_law 754 = .ok (.iadd, 1) := by decide +kernel
theorem dL_law_755 : decode cL_law 755 = .ok (.iaload, 1) := by decide +kernel
theorem dL_law_756 : decode cL_law 756 = .ok (.aload_n 0, 1) := by decide +kernel
theorem dL_law_757 : decode cL_law 757 = .ok (.iload_n 3, 1) := by decide +kernel
theorem dL_law_758 : decode cL_law 758 = .ok (.iconst 3, 1) := by decide +kernel
theorem dL_law_759 : decode cL_law 759 = .ok (.iadd, 1) := by decide +kernel
theorem dL_law_760 : decode cL_law 760 = .ok (.iaload, 1) := by decide +kernel
theorem dL_law_761 : decode cL_law 761 = .ok (.invokevirtual 93, 3) := by decide +kernel
theorem dL_law_764 : decode cL_law 764 = .ok (.if_icmp .eq 459, 3) := by decide +kernel
theorem dL_law_767 : decode cL_law 767 = .ok (.iconst 0, 1) := by decide +kernel
theorem dL_law_768 : decode cL_law 768 = .ok (.ireturn, 1) := by decide +kernel
theorem dL_law_769 : decode cL_law 769 = .ok (.aload_n 1, 1) := by decide +kernel
theorem dL_law_770 : decode cL_law 770 = .ok (.aload_n 0, 1) := by decide +kernel
theorem dL_law_771 : decode cL_law 771 = .ok (.iload_n 3, 1) := by decide +kernel
theorem dL_law_772 : decode cL_law 772 = .ok (.iconst 1, 1) := by decide +kernel
theorem dL_law_773 : decode cL_law 773 = .ok (.iadd, 1) := by decide +kernel
theorem dL_law_774 : decode cL_law 774 = .ok (.iaload, 1) := by decide +kernel
theorem dL_law_775 : decode cL_law 775 = .ok (.aload_n 0, 1) := by decide +kernel
theorem dL_law_776 : decode cL_law 776 = .ok (.iload_n 3, 1) := by decide +kernel
theorem dL_law_777 : decode cL_law 777 = .ok (.iconst 2, 1) := by decide +kernel
theorem dL_law_778 : decode cL_law 778 = .ok (.iadd, 1) := by decide +kernel
theorem dL_law_779 : decode cL_law 779 = .ok (.iaload, 1) := by decide +kernel
theorem dL_law_780 : decode cL_law 780 = .ok (.invokevirtual 94, 3) := by decide +kernel
theorem dL_law_783 : decode cL_law 783 = .ok (.aload_n 2, 1) := by decide +kernel
theorem dL_law_784 : decode cL_law 784 = .ok (.aload_n 0, 1) := by decide +kernel
theorem dL_law_785 : decode cL_law 785 = .ok (.iload_n 3, 1) := by decide +kernel
theorem dL_law_786 : decode cL_law 786 = .ok (.iconst 1, 1) := by decide +kernel
theorem dL_law_787 : decode cL_law 787 = .ok (.iadd, 1) := by decide +kernel
theorem dL_law_788 : decode cL_law 788 = .ok (.iaload, 1) := by decide +kernel
theorem dL_law_789 : decode cL_law 789 = .ok (.aload_n 0, 1) := by decide +kernel
theorem dL_law_790 : decode cL_law 790 = .ok (.iload_n 3, 1) := by decide +kernel
theorem dL_law_791 : decode cL_law 791 = .ok (.iconst 2, 1) := by decide +kernel
theorem dL_law_792 : decode cL_law 792 = .ok (.iadd, 1) := by decide +kernel
theorem dL_law_793 : decode cL_law 793 = .ok (.iaload, 1) := by decide +kernel
theorem dL_law_794 : decode cL_law 794 = .ok (.invokevirtual 97, 3) := by decide +kernel
theorem dL_law_797 : decode cL_law 797 = .ok (.if_icmp .eq 426, 3) := by decide +kernel
theorem dL_law_800 : decode cL_law 800 = .ok (.iconst 0, 1) := by decide +kernel
theorem dL_law_801 : decode cL_law 801 = .ok (.ireturn, 1) := by decide +kernel
theorem dL_law_802 : decode cL_law 802 = .ok (.aload_n 1, 1) := by decide +kernel
theorem dL_law_803 : decode cL_law 803 = .ok (.invokevirtual 98, 3) := by decide +kernel
theorem dL_law_806 : decode cL_law 806 = .ok (.aload_n 2, 1) := by decide +kernel
theorem dL_law_807 : decode cL_law 807 = .ok (.invokevirtual 101, 3) := by decide +kernel
theorem dL_law_810 : decode cL_law 810 = .ok (.if_icmp .eq 413, 3) := by decide +kernel
theorem dL_law_813 : decode cL_law 813 = .ok (.iconst 0, 1) := by decide +kernel
theorem dL_law_814 : decode cL_law 814 = .ok (.ireturn, 1) := by decide +kernel
theorem dL_law_815 : decode cL_law 815 = .ok (.aload_n 1, 1) := by decide +kernel
theorem dL_law_816 : decode cL_law 816 = .ok (.aload_n 0, 1) := by decide +kernel
theorem dL_law_817 : decode cL_law 817 = .ok (.iload_n 3, 1) := by decide +kernel
theorem dL_law_818 : decode cL_law 818 = .ok (.iconst 1, 1) := by decide +kernel
theorem dL_law_819 : decode cL_law 819 = .ok (.iadd, 1) := by decide +kernel
theorem dL_law_820 : decode cL_law 820 = .ok (.iaload, 1) := by decide +kernel
theorem dL_law_821 : decode cL_law 821 = .ok (.aload_n 0, 1) := by decide +kernel
theorem dL_law_822 : decode cL_law 822 = .ok (.iload_n 3, 1) := by decide +kernel
theorem dL_law_823 : decode cL_law 823 = .ok (.iconst 2, 1) := by decide +kernel
theorem dL_law_824 : decode cL_law 824 = .ok (.iadd, 1) := by decide +kernel
theorem dL_law_825 : decode cL_law 825 = .ok (.iaload, 1) := by decide +kernel
theorem dL_law_826 : decode cL_law 826 = .ok (.invokevirtual 102, 3) := by decide +kernel
theorem dL_law_829 : decode cL_law 829 = .ok (.aload_n 2, 1) := by decide +kernel
theorem dL_law_830 : decode cL_law 830 = .ok (.aload_n 0, 1) := by decide +kernel
theorem dL_law_831 : decode cL_law 831 = .ok (.iload_n 3, 1) := by decide +kernel
theorem dL_law_832 : decode cL_law 832 = .ok (.iconst 1, 1) := by decide +kernel
theorem dL_law_833 : decode cL_law 833 = .ok (.iadd, 1) := by decide +kernel
theorem dL_law_834 : decode cL_law 834 = .ok (.iaload, 1) := by decide +kernel
theorem dL_law_835 : decode cL_law 835 = .ok (.aload_n 0, 1) := by decide +kernel
theorem dL_law_836 : decode cL_law 836 = .ok (.iload_n 3, 1) := by decide +kernel
theorem dL_law_837 : decode cL_law 837 = .ok (.iconst 2, 1) := by decide +kernel
theorem dL_law_838 : decode cL_law 838 = .ok (.iadd, 1) := by decide +kernel
theorem dL_law_839 : decode cL_law 839 = .ok (.iaload, 1) := by decide +kernel
theorem dL_law_840 : decode cL_law 840 = .ok (.invokevirtual 105, 3) := by decide +kernel
theorem dL_law_843 : decode cL_law 843 = .ok (.if_icmp .eq 380, 3) := by decide +kernel
theorem dL_law_846 : decode cL_law 846 = .ok (.iconst 0, 1) := by decide +kernel
theorem dL_law_847 : decode cL_law 847 = .ok (.ireturn, 1) := by decide +kernel
theorem dL_law_848 : decode cL_law 848 = .ok (.aload_n 1, 1) := by decide +kernel
theorem dL_law_849 : decode cL_law 849 = .ok (.aload_n 0, 1) := by decide +kernel
theorem dL_law_850 : decode cL_law 850 = .ok (.iload_n 3, 1) := by decide +kernel
theorem dL_law_851 : decode cL_law 851 = .ok (.iconst 1, 1) := by decide +kernel
theorem dL_law_852 : decode cL_law 852 = .ok (.iadd, 1) := by decide +kernel
theorem dL_law_853 : decode cL_law 853 = .ok (.iaload, 1) := by decide +kernel
theorem dL_law_854 : decode cL_law 854 = .ok (.aload_n 0, 1) := by decide +kernel
theorem dL_law_855 : decode cL_law 855 = .ok (.iload_n 3, 1) := by decide +kernel
theorem dL_law_856 : decode cL_law 856 = .ok (.iconst 2, 1) := by decide +kernel
theorem dL_law_857 : decode cL_law 857 = .ok (.iadd, 1) := by decide +kernel
theorem dL_law_858 : decode cL_law 858 = .ok (.iaload, 1) := by decide +kernel
theorem dL_law_859 : decode cL_law 859 = .ok (.aload_n 0, 1) := by decide +kernel
theorem dL_law_860 : decode cL_law 860 = .ok (.iload_n 3, 1) := by decide +kernel
theorem dL_law_861 : decode cL_law 861 = .ok (.iconst 3, 1) := by decide +kernel
theorem dL_law_862 : decode cL_law 862 = .ok (.iadd, 1) := by decide +kernel
theorem dL_law_863 : decode cL_law 863 = .ok (.iaload, 1) := by decide +kernel
theorem dL_law_864 : decode cL_law 864 = .ok (.invokevirtual 106, 3) := by decide +kernel
theorem dL_law_867 : decode cL_law 867 = .ok (.aload_n 2, 1) := by decide +kernel
theorem dL_law_868 : decode cL_law 868 = .ok (.aload_n 0, 1) := by decide +kernel
theorem dL_law_869 : decode cL_law 869 = .ok (.iload_n 3, 1) := by decide +kernel
theorem dL_law_870 : decode cL_law 870 = .ok (.iconst 1, 1) := by decide +kernel
theorem dL_law_871 : decode cL_law 871 = .ok (.iadd, 1) := by decide +kernel
theorem dL_law_872 : decode cL_law 872 = .ok (.iaload, 1) := by decide +kernel
theorem dL_law_873 : decode cL_law 873 = .ok (.aload_n 0, 1) := by decide +kernel
theorem dL_law_874 : decode cL_law 874 = .ok (.iload_n 3, 1) := by decide +kernel
theorem dL_law_875 : decode cL_law 875 = .ok (.iconst 2, 1) := by decide +kernel
theorem dL_law_876 : decode cL_law 876 = .ok (.iadd, 1) := by decide +kernel
theorem dL_law_877 : decode cL_law 877 = .ok (.iaload, 1) := by decide +kernel
theorem dL_law_878 : decode cL_law 878 = .ok (.aload_n 0, 1) := by decide +kernel
theorem dL_law_879 : decode cL_law 879 = .ok (.iload_n 3, 1) := by decide +kernel
theorem dL_law_880 : decode cL_law 880 = .ok (.iconst 3, 1) := by decide +kernel
theorem dL_law_881 : decode cL_law 881 = .ok (.iadd, 1) := by decide +kernel
theorem dL_law_882 : decode cL_law 882 = .ok (.iaload, 1) := by decide +kernel
theorem dL_law_883 : decode cL_law 883 = .ok (.invokevirtual 109, 3) := by decide +kernel
theorem dL_law_886 : decode cL_law 886 = .ok (.if_icmp .eq 337, 3) := by decide +kernel
theorem dL_law_889 : decode cL_law 889 = .ok (.iconst 0, 1) := by decide +kernel
theorem dL_law_890 : decode cL_law 890 = .ok (.ireturn, 1) := by decide +kernel
theorem dL_law_891 : decode cL_law 891 = .ok (.aload_n 1, 1) := by decide +kernel
theorem dL_law_892 : decode cL_law 892 = .ok (.aload_n 0, 1) := by decide +kernel
theorem dL_law_893 : decode cL_law 893 = .ok (.iload_n 3, 1) := by decide +kernel
theorem dL_law_894 : decode cL_law 894 = .ok (.iconst 1, 1) := by decide +kernel
theorem dL_law_895 : decode cL_law 895 = .ok (.iadd, 1) := by decide +kernel
theorem dL_law_896 : decode cL_law 896 = .ok (.iaload, 1) := by decide +kernel
theorem dL_law_897 : decode cL_law 897 = .ok (.aload_n 0, 1) := by decide +kernel
theorem dL_law_898 : decode cL_law 898 = .ok (.iload_n 3, 1) := by decide +kernel
theorem dL_law_899 : decode cL_law 899 = .ok (.iconst 2, 1) := by decide +kernel
theorem dL_law_900 : decode cL_law 900 = .ok (.iadd, 1) := by decide +kernel
theorem dL_law_901 : decode cL_law 901 = .ok (.iaload, 1) := by decide +kernel
theorem dL_law_902 : decode cL_law 902 = .ok (.invokevirtual 110, 3) := by decide +kernel
theorem dL_law_905 : decode cL_law 905 = .ok (.aload_n 2, 1) := by decide +kernel
theorem dL_law_906 : decode cL_law 906 = .ok (.aload_n 0, 1) := by decide +kernel
theorem dL_law_907 : decode cL_law 907 = .ok (.iload_n 3, 1) := by decide +kernel
theorem dL_law_908 : decode cL_law 908 = .ok (.iconst 1, 1) := by decide +kernel
theorem dL_law_909 : decode cL_law 909 = .ok (.iadd, 1) := by decide +kernel
theorem dL_law_910 : decode cL_law 910 = .ok (.iaload, 1) := by decide +kernel
theorem dL_law_911 : decode cL_law 911 = .ok (.aload_n 0, 1) := by decide +kernel
theorem dL_law_912 : decode cL_law 912 = .ok (.iload_n 3, 1) := by decide +kernel
theorem dL_law_913 : decode cL_law 913 = .ok (.iconst 2, 1) := by decide +kernel
theorem dL_law_914 : decode cL_law 914 = .ok (.iadd, 1) := by decide +kernel
theorem dL_law_915 : decode cL_law 915 = .ok (.iaload, 1) := by decide +kernel
theorem dL_law_916 : decode cL_law 916 = .ok (.invokevirtual 113, 3) := by decide +kernel
theorem dL_law_919 : decode cL_law 919 = .ok (.if_icmp .eq 304, 3) := by decide +kernel
theorem dL_law_922 : decode cL_law 922 = .ok (.iconst 0, 1) := by decide +kernel
theorem dL_law_923 : decode cL_law 923 = .ok (.ireturn, 1) := by decide +kernel
theorem dL_law_924 : decode cL_law 924 = .ok (.aload_n 1, 1) := by decide +kernel
theorem dL_law_925 : decode cL_law 925 = .ok (.aload_n 0, 1) := by decide +kernel
theorem dL_law_926 : decode cL_law 926 = .ok (.iload_n 3, 1) := by decide +kernel
theorem dL_law_927 : decode cL_law 927 = .ok (.iconst 1, 1) := by decide +kernel
theorem dL_law_928 : decode cL_law 928 = .ok (.iadd, 1) := by decide +kernel
theorem dL_law_929 : decode cL_law 929 = .ok (.iaload, 1) := by decide +kernel
theorem dL_law_930 : decode cL_law 930 = .ok (.aload_n 0, 1) := by decide +kernel
theorem dL_law_931 : decode cL_law 931 = .ok (.iload_n 3, 1) := by decide +kernel
theorem dL_law_932 : decode cL_law 932 = .ok (.iconst 2, 1) := by decide +kernel
theorem dL_law_933 : decode cL_law 933 = .ok (.iadd, 1) := by decide +kernel
theorem dL_law_934 : decode cL_law 934 = .ok (.iaload, 1) := by decide +kernel
theorem dL_law_935 : decode cL_law 935 = .ok (.aload_n 0, 1) := by decide +kernel
theorem dL_law_936 : decode cL_law 936 = .ok (.iload_n 3, 1) := by decide +kernel
theorem dL_law_937 : decode cL_law 937 = .ok (.iconst 3, 1) := by decide +kernel
theorem dL_law_938 : decode cL_law 938 = .ok (.iadd, 1) := by decide +kernel
theorem dL_law_939 : decode cL_law 939 = .ok (.iaload, 1) := by decide +kernel
theorem dL_law_940 : decode cL_law 940 = .ok (.invokevirtual 114, 3) := by decide +kernel
theorem dL_law_943 : decode cL_law 943 = .ok (.aload_n 2, 1) := by decide +kernel
theorem dL_law_944 : decode cL_law 944 = .ok (.aload_n 0, 1) := by decide +kernel
theorem dL_law_945 : decode cL_law 945 = .ok (.iload_n 3, 1) := by decide +kernel
theorem dL_law_946 : decode cL_law 946 = .ok (.iconst 1, 1) := by decide +kernel
theorem dL_law_947 : decode cL_law 947 = .ok (.iadd, 1) := by decide +kernel
theorem dL_law_948 : decode cL_law 948 = .ok (.iaload, 1) := by decide +kernel
theorem dL_law_949 : decode cL_law 949 = .ok (.aload_n 0, 1) := by decide +kernel
theorem dL_law_950 : decode cL_law 950 = .ok (.iload_n 3, 1) := by decide +kernel
theorem dL_law_951 : decode cL_law 951 = .ok (.iconst 2, 1) := by decide +kernel
theorem dL_law_952 : decode cL_law 952 = .ok (.iadd, 1) := by decide +kernel
theorem dL_law_953 : decode cL_law 953 = .ok (.iaload, 1) := by decide +kernel
theorem dL_law_954 : decode cL_law 954 = .ok (.aload_n 0, 1) := by decide +kernel
theorem dL_law_955 : decode cL_law 955 = .ok (.iload_n 3, 1) := by decide +kernel
theorem dL_law_956 : decode cL_law 956 = .ok (.iconst 3, 1) := by decide +kernel
theorem dL_law_957 : decode cL_law 957 = .ok (.iadd, 1) := by decide +kernel
theorem dL_law_958 : decode cL_law 958 = .ok (.iaload, 1) := by decide +kernel
theorem dL_law_959 : decode cL_law 959 = .ok (.invokevirtual 117, 3) := by decide +kernel
theorem dL_law_962 : decode cL_law 962 = .ok (.if_icmp .eq 261, 3) := by decide +kernel
theorem dL_law_965 : decode cL_law 965 = .ok (.iconst 0, 1) := by decide +kernel
theorem dL_law_966 : decode cL_law 966 = .ok (.ireturn, 1) := by decide +kernel
theorem dL_law_967 : decode cL_law 967 = .ok (.aload_n 1, 1) := by decide +kernel
theorem dL_law_968 : decode cL_law 968 = .ok (.aload_n 0, 1) := by decide +kernel
theorem dL_law_969 : decode cL_law 969 = .ok (.iload_n 3, 1) := by decide +kernel
theorem dL_law_970 : decode cL_law 970 = .ok (.iconst 1, 1) := by decide +kernel
theorem dL_law_971 : decode cL_law 971 = .ok (.iadd, 1) := by decide +kernel
theorem dL_law_972 : decode cL_law 972 = .ok (.iaload, 1) := by decide +kernel
theorem dL_law_973 : decode cL_law 973 = .ok (.invokevirtual 118, 3) := by decide +kernel
theorem dL_law_976 : decode cL_law 976 = .ok (.aload_n 2, 1) := by decide +kernel
theorem dL_law_977 : decode cL_law 977 = .ok (.aload_n 0, 1) := by decide +kernel
theorem dL_law_978 : decode cL_law 978 = .ok (.iload_n 3, 1) := by decide +kernel
theorem dL_law_979 : decode cL_law 979 = .ok (.iconst 1, 1) := by decide +kernel
theorem dL_law_980 : decode cL_law 980 = .ok (.iadd, 1) := by decide +kernel
theorem dL_law_981 : decode cL_law 981 = .ok (.iaload, 1) := by decide +kernel
theorem dL_law_982 : decode cL_law 982 = .ok (.invokevirtual 121, 3) := by decide +kernel
theorem dL_law_985 : decode cL_law 985 = .ok (.if_icmp .eq 238, 3) := by decide +kernel
theorem dL_law_988 : decode cL_law 988 = .ok (.iconst 0, 1) := by decide +kernel
theorem dL_law_989 : decode cL_law 989 = .ok (.ireturn, 1) := by decide +kernel
theorem dL_law_990 : decode cL_law 990 = .ok (.aload_n 1, 1) := by decide +kernel
theorem dL_law_991 : decode cL_law 991 = .ok (.aload_n 0, 1) := by decide +kernel
theorem dL_law_992 : decode cL_law 992 = .ok (.iload_n 3, 1) := by decide +kernel
theorem dL_law_993 : decode cL_law 993 = .ok (.iconst 1, 1) := by decide +kernel
theorem dL_law_994 : decode cL_law 994 = .ok (.iadd, 1) := by decide +kernel
theorem dL_law_995 : decode cL_law 995 = .ok (.iaload, 1) := by decide +kernel
theorem dL_law_996 : decode cL_law 996 = .ok (.aload_n 0, 1) := by decide +kernel
theorem dL_law_997 : decode cL_law 997 = .ok (.iload_n 3, 1) := by decide +kernel
theorem dL_law_998 : decode cL_law 998 = .ok (.iconst 2, 1) := by decide +kernel
theorem dL_law_999 : decode cL_law 999 = .ok (.iadd, 1) := by decide +kernel
theorem dL_law_1000 : decode cL_law 1000 = .ok (.iaload, 1) := by decide +kernel
theorem dL_law_1001 : decode cL_law 1001 = .ok (.aload_n 0, 1) := by decide +kernel
theorem dL_law_1002 : decode cL_law 1002 = .ok (.iload_n 3, 1) := by decide +kernel
theorem dL_law_1003 : decode cL_law 1003 = .ok (.iconst 3, 1) := by decide +kernel
theorem dL_law_1004 : decode cL_law 1004 = .ok (.iadd, 1) := by decide +kernel
theorem dL_law_1005 : decode cL_law 1005 = .ok (.iaload, 1) := by decide +kernel
theorem dL_law_1006 : decode cL_law 1006 = .ok (.invokevirtual 122, 3) := by decide +kernel
theorem dL_law_1009 : decode cL_law 1009 = .ok (.aload_n 2, 1) := by decide +kernel
theorem dL_law_1010 : decode cL_law 1010 = .ok (.aload_n 0, 1) := by decide +kernel
theorem dL_law_1011 : decode cL_law 1011 = .ok (.iload_n 3, 1) := by decide +kernel
theorem dL_law_1012 : decode cL_law 1012 = .ok (.iconst 1, 1) := by decide +kernel
theorem dL_law_1013 : decode cL_law 1013 = .ok (.iadd, 1) := by decide +kernel
theorem dL_law_1014 : decode cL_law 1014 = .ok (.iaload, 1) := by decide +kernel
theorem dL_law_1015 : decode cL_law 1015 = .ok (.aload_n 0, 1) := by decide +kernel
theorem dL_law_1016 : decode cL_law 1016 = .ok (.iload_n 3, 1) := by decide +kernel
theorem dL_law_1017 : decode cL_law 1017 = .ok (.iconst 2, 1) := by decide +kernel
theorem dL_law_1018 : decode cL_law 1018 = .ok (.iadd, 1) := by decide +kernel
theorem dL_law_1019 : decode cL_law 1019 = .ok (.iaload, 1) := by decide +kernel
theorem dL_law_1020 : decode cL_law 1020 = .ok (.aload_n 0, 1) := by decide +kernel
theorem dL_law_1021 : decode cL_law 1021 = .ok (.iload_n 3, 1) := by decide +kernel
theorem dL_law_1022 : decode cL_law 1022 = .ok (.iconst 3, 1) := by decide +kernel
theorem dL_law_1023 : decode cL_law 1023 = .ok (.iadd, 1) := by decide +kernel
theorem dL_law_1024 : decode cL_law 1024 = .ok (.iaload, 1) := by decide +kernel
theorem dL_law_1025 : decode cL_law 1025 = .ok (.invokevirtual 125, 3) := by decide +kernel
theorem dL_law_1028 : decode cL_law 1028 = .ok (.if_icmp .eq 195, 3) := by decide +kernel
theorem dL_law_1031 : decode cL_law 1031 = .ok (.iconst 0, 1) := by decide +kernel
theorem dL_law_1032 : decode cL_law 1032 = .ok (.ireturn, 1) := by decide +kernel
theorem dL_law_1033 : decode cL_law 1033 = .ok (.aload_n 1, 1) := by decide +kernel
theorem dL_law_1034 : decode cL_law 1034 = .ok (.aload_n 0, 1) := by decide +kernel
theorem dL_law_1035 : decode cL_law 1035 = .ok (.iload_n 3, 1) := by decide +kernel
theorem dL_law_1036 : decode cL_law 1036 = .ok (.iconst 1, 1) := by decide +kernel
theorem dL_law_1037 : decode cL_law 1037 = .ok (.iadd, 1) := by decide +kernel
theorem dL_law_1038 : decode cL_law 1038 = .ok (.iaload, 1) := by decide +kernel
theorem dL_law_1039 : decode cL_law 1039 = .ok (.aload_n 0, 1) := by decide +kernel
theorem dL_law_1040 : decode cL_law 1040 = .ok (.iload_n 3, 1) := by decide +kernel
theorem dL_law_1041 : decode cL_law 1041 = .ok (.iconst 2, 1) := by decide +kernel
theorem dL_law_1042 : decode cL_law 1042 = .ok (.iadd, 1) := by decide +kernel
theorem dL_law_1043 : decode cL_law 1043 = .ok (.iaload, 1) := by decide +kernel
theorem dL_law_1044 : decode cL_law 1044 = .ok (.invokevirtual 126, 3) := by decide +kernel
theorem dL_law_1047 : decode cL_law 1047 = .ok (.aload_n 2, 1) := by decide +kernel
theorem dL_law_1048 : decode cL_law 1048 = .ok (.aload_n 0, 1) := by decide +kernel
theorem dL_law_1049 : decode cL_law 1049 = .ok (.iload_n 3, 1) := by decide +kernel
theorem dL_law_1050 : decode cL_law 1050 = .ok (.iconst 1, 1) := by decide +kernel
theorem dL_law_1051 : decode cL_law 1051 = .ok (.iadd, 1) := by decide +kernel
theorem dL_law_1052 : decode cL_law 1052 = .ok (.iaload, 1) := by decide +kernel
theorem dL_law_1053 : decode cL_law 1053 = .ok (.aload_n 0, 1) := by decide +kernel
theorem dL_law_1054 : decode cL_law 1054 = .ok (.iload_n 3, 1) := by decide +kernel
theorem dL_law_1055 : decode cL_law 1055 = .ok (.iconst 2, 1) := by decide +kernel
theorem dL_law_1056 : decode cL_law 1056 = .ok (.iadd, 1) := by decide +kernel
theorem dL_law_1057 : decode cL_law 1057 = .ok (.iaload, 1) := by decide +kernel
theorem dL_law_1058 : decode cL_law 1058 = .ok (.invokevirtual 129, 3) := by decide +kernel
theorem dL_law_1061 : decode cL_law 1061 = .ok (.if_icmp .eq 162, 3) := by decide +kernel
theorem dL_law_1064 : decode cL_law 1064 = .ok (.iconst 0, 1) := by decide +kernel
theorem dL_law_1065 : decode cL_law 1065 = .ok (.ireturn, 1) := by decide +kernel
theorem dL_law_1066 : decode cL_law 1066 = .ok (.aload_n 1, 1) := by decide +kernel
theorem dL_law_1067 : decode cL_law 1067 = .ok (.aload_n 0, 1) := by decide +kernel
theorem dL_law_1068 : decode cL_law 1068 = .ok (.iload_n 3, 1) := by decide +kernel
theorem dL_law_1069 : decode cL_law 1069 = .ok (.iconst 1, 1) := by decide +kernel
theorem dL_law_1070 : decode cL_law 1070 = .ok (.iadd, 1) := by decide +kernel
theorem dL_law_1071 : decode cL_law 1071 = .ok (.iaload, 1) := by decide +kernel
theorem dL_law_1072 : decode cL_law 1072 = .ok (.aload_n 0, 1) := by decide +kernel
theorem dL_law_1073 : decode cL_law 1073 = .ok (.iload_n 3, 1) := by decide +kernel
theorem dL_law_1074 : decode cL_law 1074 = .ok (.iconst 2, 1) := by decide +kernel
theorem dL_law_1075 : decode cL_law 1075 = .ok (.iadd, 1) := by decide +kernel
theorem dL_law_1076 : decode cL_law 1076 = .ok (.iaload, 1) := by decide +kernel
theorem dL_law_1077 : decode cL_law 1077 = .ok (.aload_n 0, 1) := by decide +kernel
theorem dL_law_1078 : decode cL_law 1078 = .ok (.iload_n 3, 1) := by decide +kernel
theorem dL_law_1079 : decode cL_law 1079 = .ok (.iconst 3, 1) := by decide +kernel
theorem dL_law_1080 : decode cL_law 1080 = .ok (.iadd, 1) := by decide +kernel
theorem dL_law_1081 : decode cL_law 1081 = .ok (.iaload, 1) := by decide +kernel
theorem dL_law_1082 : decode cL_law 1082 = .ok (.invokevirtual 130, 3) := by decide +kernel
theorem dL_law_1085 : decode cL_law 1085 = .ok (.aload_n 2, 1) := by decide +kernel
theorem dL_law_1086 : decode cL_law 1086 = .ok (.aload_n 0, 1) := by decide +kernel
theorem dL_law_1087 : decode cL_law 1087 = .ok (.iload_n 3, 1) := by decide +kernel
theorem dL_law_1088 : decode cL_law 1088 = .ok (.iconst 1, 1) := by decide +kernel
theorem dL_law_1089 : decode cL_law 1089 = .ok (.iadd, 1) := by decide +kernel
theorem dL_law_1090 : decode cL_law 1090 = .ok (.iaload, 1) := by decide +kernel
theorem dL_law_1091 : decode cL_law 1091 = .ok (.aload_n 0, 1) := by decide +kernel
theorem dL_law_1092 : decode cL_law 1092 = .ok (.iload_n 3, 1) := by decide +kernel
theorem dL_law_1093 : decode cL_law 1093 = .ok (.iconst 2, 1) := by decide +kernel
theorem dL_law_1094 : decode cL_law 1094 = .ok (.iadd, 1) := by decide +kernel
theorem dL_law_1095 : decode cL_law 1095 = .ok (.iaload, 1) := by decide +kernel
theorem dL_law_1096 : decode cL_law 1096 = .ok (.aload_n 0, 1) := by decide +kernel
theorem dL_law_1097 : decode cL_law 1097 = .ok (.iload_n 3, 1) := by decide +kernel
theorem dL_law_1098 : decode cL_law 1098 = .ok (.iconst 3, 1) := by decide +kernel
theorem dL_law_1099 : decode cL_law 1099 = .ok (.iadd, 1) := by decide +kernel
theorem dL_law_1100 : decode cL_law 1100 = .ok (.iaload, 1) := by decide +kernel
theorem dL_law_1101 : decode cL_law 1101 = .ok (.invokevirtual 133, 3) := by decide +kernel
theorem dL_law_1104 : decode cL_law 1104 = .ok (.if_icmp .eq 119, 3) := by decide +kernel
theorem dL_law_1107 : decode cL_law 1107 = .ok (.iconst 0, 1) := by decide +kernel
theorem dL_law_1108 : decode cL_law 1108 = .ok (.ireturn, 1) := by decide +kernel
theorem dL_law_1109 : decode cL_law 1109 = .ok (.aload_n 1, 1) := by decide +kernel
theorem dL_law_1110 : decode cL_law 1110 = .ok (.invokevirtual 134, 3) := by decide +kernel
theorem dL_law_1113 : decode cL_law 1113 = .ok (.aload_n 2, 1) := by decide +kernel
theorem dL_law_1114 : decode cL_law 1114 = .ok (.invokevirtual 137, 3) := by decide +kernel
theorem dL_law_1117 : decode cL_law 1117 = .ok (.if_icmp .eq 106, 3) := by decide +kernel
theorem dL_law_1120 : decode cL_law 1120 = .ok (.iconst 0, 1) := by decide +kernel
theorem dL_law_1121 : decode cL_law 1121 = .ok (.ireturn, 1) := by decide +kernel
theorem dL_law_1122 : decode cL_law 1122 = .ok (.aload_n 1, 1) := by decide +kernel
theorem dL_law_1123 : decode cL_law 1123 = .ok (.aload_n 0, 1) := by decide +kernel
theorem dL_law_1124 : decode cL_law 1124 = .ok (.iload_n 3, 1) := by decide +kernel
theorem dL_law_1125 : decode cL_law 1125 = .ok (.iconst 1, 1) := by decide +kernel
theorem dL_law_1126 : decode cL_law 1126 = .ok (.iadd, 1) := by decide +kernel
theorem dL_law_1127 : decode cL_law 1127 = .ok (.iaload, 1) := by decide +kernel
theorem dL_law_1128 : decode cL_law 1128 = .ok (.invokevirtual 138, 3) := by decide +kernel
theorem dL_law_1131 : decode cL_law 1131 = .ok (.aload_n 2, 1) := by decide +kernel
theorem dL_law_1132 : decode cL_law 1132 = .ok (.aload_n 0, 1) := by decide +kernel
theorem dL_law_1133 : decode cL_law 1133 = .ok (.iload_n 3, 1) := by decide +kernel
theorem dL_law_1134 : decode cL_law 1134 = .ok (.iconst 1, 1) := by decide +kernel
theorem dL_law_1135 : decode cL_law 1135 = .ok (.iadd, 1) := by decide +kernel
theorem dL_law_1136 : decode cL_law 1136 = .ok (.iaload, 1) := by decide +kernel
theorem dL_law_1137 : decode cL_law 1137 = .ok (.invokevirtual 141, 3) := by decide +kernel
theorem dL_law_1140 : decode cL_law 1140 = .ok (.if_icmp .eq 83, 3) := by decide +kernel
theorem dL_law_1143 : decode cL_law 1143 = .ok (.iconst 0, 1) := by decide +kernel
theorem dL_law_1144 : decode cL_law 1144 = .ok (.ireturn, 1) := by decide +kernel
theorem dL_law_1145 : decode cL_law 1145 = .ok (.aload_n 1, 1) := by decide +kernel
theorem dL_law_1146 : decode cL_law 1146 = .ok (.invokevirtual 142, 3) := by decide +kernel
theorem dL_law_1149 : decode cL_law 1149 = .ok (.aload_n 2, 1) := by decide +kernel
theorem dL_law_1150 : decode cL_law 1150 = .ok (.invokevirtual 145, 3) := by decide +kernel
theorem dL_law_1153 : decode cL_law 1153 = .ok (.if_icmp .eq 70, 3) := by decide +kernel
theorem dL_law_1156 : decode cL_law 1156 = .ok (.iconst 0, 1) := by decide +kernel
theorem dL_law_1157 : decode cL_law 1157 = .ok (.ireturn, 1) := by decide +kernel
theorem dL_law_1158 : decode cL_law 1158 = .ok (.aload_n 1, 1) := by decide +kernel
theorem dL_law_1159 : decode cL_law 1159 = .ok (.invokevirtual 146, 3) := by decide +kernel
theorem dL_law_1162 : decode cL_law 1162 = .ok (.aload_n 2, 1) := by decide +kernel
theorem dL_law_1163 : decode cL_law 1163 = .ok (.invokevirtual 149, 3) := by decide +kernel
theorem dL_law_1166 : decode cL_law 1166 = .ok (.if_icmp .eq 57, 3) := by decide +kernel
theorem dL_law_1169 : decode cL_law 1169 = .ok (.iconst 0, 1) := by decide +kernel
theorem dL_law_1170 : decode cL_law 1170 = .ok (.ireturn, 1) := by decide +kernel
theorem dL_law_1171 : decode cL_law 1171 = .ok (.aload_n 1, 1) := by decide +kernel
theorem dL_law_1172 : decode cL_law 1172 = .ok (.invokevirtual 150, 3) := by decide +kernel
theorem dL_law_1175 : decode cL_law 1175 = .ok (.aload_n 2, 1) := by decide +kernel
theorem dL_law_1176 : decode cL_law 1176 = .ok (.invokevirtual 153, 3) := by decide +kernel
theorem dL_law_1179 : decode cL_law 1179 = .ok (.if_icmp .eq 44, 3) := by decide +kernel
theorem dL_law_1182 : decode cL_law 1182 = .ok (.iconst 0, 1) := by decide +kernel
theorem dL_law_1183 : decode cL_law 1183 = .ok (.ireturn, 1) := by decide +kernel
theorem dL_law_1184 : decode cL_law 1184 = .ok (.aload_n 1, 1) := by decide +kernel
theorem dL_law_1185 : decode cL_law 1185 = .ok (.invokevirtual 154, 3) := by decide +kernel
theorem dL_law_1188 : decode cL_law 1188 = .ok (.aload_n 2, 1) := by decide +kernel
theorem dL_law_1189 : decode cL_law 1189 = .ok (.invokevirtual 157, 3) := by decide +kernel
theorem dL_law_1192 : decode cL_law 1192 = .ok (.if_icmp .eq 31, 3) := by decide +kernel
theorem dL_law_1195 : decode cL_law 1195 = .ok (.iconst 0, 1) := by decide +kernel
theorem dL_law_1196 : decode cL_law 1196 = .ok (.ireturn, 1) := by decide +kernel
theorem dL_law_1197 : decode cL_law 1197 = .ok (.aload_n 1, 1) := by decide +kernel
theorem dL_law_1198 : decode cL_law 1198 = .ok (.invokevirtual 158, 3) := by decide +kernel
theorem dL_law_1201 : decode cL_law 1201 = .ok (.aload_n 2, 1) := by decide +kernel
theorem dL_law_1202 : decode cL_law 1202 = .ok (.invokevirtual 161, 3) := by decide +kernel
theorem dL_law_1205 : decode cL_law 1205 = .ok (.if_icmp .eq 18, 3) := by decide +kernel
theorem dL_law_1208 : decode cL_law 1208 = .ok (.iconst 0, 1) := by decide +kernel
theorem dL_law_1209 : decode cL_law 1209 = .ok (.ireturn, 1) := by decide +kernel
theorem dL_law_1210 : decode cL_law 1210 = .ok (.aload_n 1, 1) := by decide +kernel
theorem dL_law_1211 : decode cL_law 1211 = .ok (.invokevirtual 162, 3) := by decide +kernel
theorem dL_law_1214 : decode cL_law 1214 = .ok (.aload_n 2, 1) := by decide +kernel
theorem dL_law_1215 : decode cL_law 1215 = .ok (.invokevirtual 165, 3) := by decide +kernel
theorem dL_law_1218 : decode cL_law 1218 = .ok (.if_icmp .eq 5, 3) := by decide +kernel
theorem dL_law_1221 : decode cL_law 1221 = .ok (.iconst 0, 1) := by decide +kernel
theorem dL_law_1222 : decode cL_law 1222 = .ok (.ireturn, 1) := by decide +kernel
theorem dL_law_1223 : decode cL_law 1223 = .ok (.iinc 3 4, 3) := by decide +kernel
theorem dL_law_1226 : decode cL_law 1226 = .ok (.goto (-1208), 3) := by decide +kernel
theorem dL_law_1229 : decode cL_law 1229 = .ok (.iconst 1, 1) := by decide +kernel
theorem dL_law_1230 : decode cL_law 1230 = .ok (.ireturn, 1) := by decide +kernel
end
section
/-! ===== the engine: a world whose shape stays, as a table of ints (my own rows, over the kit's) ===== -/
abbrev ID : Type := Nat × Nat × Nat
abbrev VV : Type := Option (Int32 ⊕ Option ID)
abbrev iv (x : Int32) : VV := some (.inl x)
abbrev rv (i : ID) : VV := some (.inr (some i))
abbrev nv : VV := some (.inr none)
abbrev uv : VV := none
abbrev MEM : Type := ID → Nat → Int32
abbrev EV : Type := va_G × (ID → Nat) × (Nat → ClassId)
/-- a cell's kind by its tag: an object of class ci, or an array: its type's number, its length -/
def me_kd (t : Nat) : Nat ⊕ (Nat × Nat) := match t with
  | 0 => .inl 6
  | 1 => .inl 4
  | 2 => .inl 1
  | 3 => .inr (0, 200)
  | 4 => .inr (0, 200)
  | 5 => .inr (0, 200)
  | 6 => .inr (2, 5)
  | 7 => .inr (3, 8)
  | 8 => .inl 2
  | 9 => .inl 3
  | 10 => .inr (0, 12)
  | 11 => .inr (0, 12)
  | 12 => .inl 0
  | 13 => .inr (4, 6)
  | 14 => .inl 5
  | 15 => .inr (0, 80)
  | 16 => .inr (0, 3)
  | 17 => .inl 7
  | 18 => .inr (0, 894)
  | 19 => .inr (0, 4470)
  | 20 => .inr (0, 894)
  | 21 => .inr (1, 80)
  | _ => .inr (0, 168)
def me_kmax (t : Nat) : Nat := match t with
  | 0 => 1
  | 1 => 8
  | 2 => 8
  | 3 => 8
  | 4 => 8
  | 5 => 8
  | 6 => 8
  | 7 => 8
  | 8 => 8
  | 9 => 8
  | 10 => 8
  | 11 => 8
  | 12 => 1
  | 13 => 1
  | 14 => 1
  | 15 => 1
  | 16 => 1
  | 17 => 1
  | 18 => 1
  | 19 => 1
  | 20 => 1
  | 21 => 1
  | 22 => 1
  | _ => 0
def me_imax (t : Nat) : Nat := match t with
  | 8 => 5
  | 9 => 8
  | 10 => 8
  | 11 => 8
  | _ => 1
def vd (id : ID) : Prop := id.2.1 < me_kmax id.1 ∧ id.2.2 < me_imax id.1
/-- the slots that hold a cell, which stays -/
def me_sl (id : ID) (j : Nat) : Option ID := match id with
  | (t, k, i) => match t with
    | 0 => (match j with | 0 => some (1, 0, 0) | 1 => some (1, 1, 0) | 3 => some (12, 0, 0) | 4 => some (14, 0, 0) | _ => none)
    | 1 => (match j with | 0 => some (2, k, 0) | 1 => some (6, k, 0) | 2 => some (7, k, 0) | _ => none)
    | 2 => (match j with | 1 => some (3, k, 0) | 2 => some (4, k, 0) | 3 => some (5, k, 0) | _ => none)
    | 6 => some (8, k, j)
    | 7 => some (9, k, j)
    | 9 => (match j with | 9 => some (10, k, i) | 10 => some (11, k, i) | _ => none)
    | 12 => (match j with | 0 => some (13, 0, 0) | _ => none)
    | 13 => some (1, j + 2, 0)
    | 14 => (match j with | 0 => some (15, 0, 0) | 4 => some (16, 0, 0) | _ => none)
    | 17 => (match j with | 0 => some (18, 0, 0) | 1 => some (19, 0, 0) | 3 => some (20, 0, 0) | 5 => some (21, 0, 0) | 7 => some (22, 0, 0) | _ => none)
    | _ => none
/-- the slots of type boolean -/
def me_bo (t j : Nat) : Bool := match t with
  | 0 => j == 2
  | 8 => j == 0 || j == 3
  | 9 => j == 0
  | 17 => j == 4
  | _ => false
def me_nf (ci : Nat) : Nat := match ci with
  | 0 => 3
  | 1 => 4
  | 2 => 5
  | 3 => 11
  | 4 => 7
  | 5 => 6
  | 6 => 5
  | _ => 11
/-- how many slots a cell has -/
def me_wd (t : Nat) : Nat := match me_kd t with
  | .inl ci => me_nf ci
  | .inr q => q.2
def me_sv (E : EV) (mem : MEM) (id : ID) (j : Nat) : Value := match me_sl id j with
  | some r => .ref (E.2.1 r)
  | none => .int (mem id j)
def WR1 (E : EV) (mem : MEM) (id : ID) (H : Heap) : Prop := match me_kd id.1 with
  | .inl ci => t_OB (E.2.1 id) (E.1.1 ci) (me_nf ci) (E.1.2 ci) H (me_sv E mem id)
  | .inr q => if q.1 < 2 then H[E.2.1 id]? = some (vp_cell (E.2.2 q.1) (q.2, .inl (mem id))) else H[E.2.1 id]? = some (vp_cell (E.2.2 q.1) (q.2, .inr (.inr (.inr (.inr fun j => (me_sl id j).map E.2.1)))))
def WR (E : EV) (mem : MEM) (H : Heap) : Prop := (∀ id, vd id → WR1 E mem id H) ∧ ∀ id j, vd id → me_bo id.1 j = true → mem id j = 0 ∨ mem id j = 1
/-- the same on all that is there -/
def EqV (m m' : MEM) : Prop := ∀ id, vd id → ∀ j, j < me_wd id.1 → me_sl id j = none → m id j = m' id j
theorem EqV.rfl' {m : MEM} : EqV m m := fun _ _ _ _ _ => rfl
theorem me_sl_arr {t k i j n ty : Nat} (h : me_kd t = .inr (ty, n)) (hty : ty < 2) (hk : k < me_kmax t) : me_sl (t, k, i) j = none := by
  unfold me_kd at h
  split at h <;> first | (cases h; done) | (cases h; omega) | (cases h; rfl) | skip
  rename_i h1 h2 h3 h4 h5 h6 h7 h8 h9 h10 h11 h12 h13 h14 h15 h16 h17 h18 h19 h20 h21 h22
  have ht : t = 22 := by
    unfold me_kmax at hk
    split at hk <;> first | rfl | omega | (exfalso; simp_all; done) | skip
  subst ht
  rfl
theorem me_vp_congr {cA : ClassId} {n : Nat} {f g : Nat → Int32} (h : ∀ j, j < n → f j = g j) : vp_cell cA (n, .inl f) = vp_cell cA (n, .inl g) := by
  rw [vp_cell_i, vp_cell_i]
  unfold arrV
  congr 1
  apply congrArg
  funext j
  exact congrArg Value.int (h j.val j.isLt)
theorem WR1.congr {E : EV} {m m' : MEM} {id : ID} {H H' : Heap} (h : WR1 E m id H) (hv : vd id) (hm : ∀ j, j < me_wd id.1 → me_sl id j = none → m id j = m' id j) (hH : H'[E.2.1 id]? = H[E.2.1 id]?) : WR1 E m' id H' := by
  unfold me_wd at hm
  unfold WR1 at h ⊢
  cases hk : me_kd id.1 with
  | inl ci =>
    rw [hk] at h hm
    obtain ⟨cell, q, r1, r2, r3⟩ := h
    refine ⟨cell, hH.trans q, r1, r2, fun k hk => ?_⟩
    rw [r3 k hk]
    unfold me_sv
    cases hs : me_sl id k with
    | some r => rfl
    | none => exact congrArg (fun z => some (Value.int z)) (hm k hk hs)
  | inr q =>
    rw [hk] at h hm
    by_cases hq : q.1 < 2
    · simp only [if_pos hq] at h ⊢
      obtain ⟨t, k, i⟩ := id
      rw [hH, h, me_vp_congr (fun j hj => hm j hj (me_sl_arr (n := q.2) (ty := q.1) hk hq hv.1))]
    · simp only [if_neg hq] at h ⊢
      rw [hH, h]
theorem me_bo_sl (id : ID) (j : Nat) (h : me_bo id.1 j = true) : me_sl id j = none := by
  obtain ⟨t, k, i⟩ := id
  unfold me_bo at h
  split at h <;> simp at h
  · rename_i e; simp only at e; subst e; subst h; rfl
  · rename_i e; simp only at e; subst e; rfl
  · rename_i e; simp only at e; subst e; subst h; rfl
  · rename_i e; simp only at e; subst e; subst h; rfl
theorem WR.eqv {E : EV} {m m' : MEM} {H : Heap} (h : WR E m H) (hm : EqV m m') (hb : ∀ id j, vd id → me_bo id.1 j = true → j < me_wd id.1) : WR E m' H :=
  ⟨fun id hv => (h.1 id hv).congr hv (hm id hv) rfl, fun id j hv hj => by rw [← hm id hv j (hb id j hv hj) (me_bo_sl id j hj)]; exact h.2 id j hv hj⟩
theorem me_bo_wd (t j : Nat) (h : me_bo t j = true) : j < me_wd t := by
  unfold me_bo at h
  split at h <;> simp at h
  · subst h; decide
  · rcases h with rfl | rfl <;> decide
  · subst h; decide
  · subst h; decide
/-- one cell moved -/
theorem WR.put {E : EV} {m m' : MEM} {H H' : Heap} {i0 : ID} (hE : ∀ a b, vd a → vd b → E.2.1 a = E.2.1 b → a = b) (h : WR E m H) (hv : vd i0) (h1 : WR1 E m' i0 H') (hm : ∀ id, id ≠ i0 → m' id = m id) (ho : ∀ q, q ≠ E.2.1 i0 → H'[q]? = H[q]?) (hb : ∀ j, me_bo i0.1 j = true → m' i0 j = 0 ∨ m' i0 j = 1) : WR E m' H' := by
  refine ⟨fun id hid => ?_, fun id j hid hj => ?_⟩
  · by_cases e : id = i0
    · subst e; exact h1
    · exact (h.1 id hid).congr hid (fun j _ _ => by rw [hm id e]) (ho _ (fun z => e (hE _ _ hid hv z)))
  · by_cases e : id = i0
    · subst e; exact hb j hj
    · rw [hm id e]; exact h.2 id j hid hj
def vvv (E : EV) (x : Int32 ⊕ Option ID) : Value := match x with
  | .inl x => .int x
  | .inr none => .null
  | .inr (some i) => .ref (E.2.1 i)
def vv (E : EV) (x : VV) : Value := match x with
  | some y => vvv E y
  | none => .null
theorem vvv_cat (E : EV) (x : Int32 ⊕ Option ID) : (vvv E x).category = 1 := by
  rcases x with x | _ | x <;> rfl
theorem vv_cat (E : EV) (x : VV) : (vv E x).category = 1 := by
  rcases x with _ | x
  · rfl
  · exact vvv_cat E x
theorem vv_cats (E : EV) (l : List VV) : ((l.map (vv E)).map fun v => v.category).sum = l.length := by
  induction l with
  | nil => rfl
  | cons a l ih => simp only [List.map_cons, List.sum_cons, List.length_cons, vv_cat, ih]; omega
def LR (E : EV) (lsA : Array Slot) (nL : Nat) (ls : List VV) : Prop := lsA.size = nL ∧ lv_wf lsA ∧ ∀ (i : Nat) (x : Int32 ⊕ Option ID), ls[i]? = some (some x) → lsA[i]? = some (.val (vvv E x))
def me_enc (E : EV) (ls : List VV) : List (Nat × Value) := (List.range ls.length).filterMap fun j => match ls[j]? with
  | some (some y) => some (j, vvv E y)
  | _ => none
theorem me_enc_in {E : EV} {ls : List VV} {j : Nat} {y : Int32 ⊕ Option ID} (h : ls[j]? = some (some y)) : (j, vvv E y) ∈ me_enc E ls :=
  List.mem_filterMap.mpr ⟨j, List.mem_range.mpr (List.getElem?_eq_some_iff.mp h).1, by rw [h]⟩
theorem LR.toHas {E : EV} {lsA : Array Slot} {nL : Nat} {ls : List VV} (h : LR E lsA nL ls) : lv_has lsA nL (me_enc E ls) := by
  refine ⟨h.1, h.2.1, fun q hq => ?_⟩
  obtain ⟨j, -, hj⟩ := List.mem_filterMap.mp hq
  cases e : ls[j]? with
  | none => rw [e] at hj; cases hj
  | some z =>
    cases z with
    | none => rw [e] at hj; cases hj
    | some y =>
      rw [e] at hj
      cases hj
      exact h.2.2 j y e
theorem LR.ofStore {E : EV} {lsA : Array Slot} {nL i : Nat} {ls : List VV} {x : Int32 ⊕ Option ID} (hh : lv_has lsA nL ((i, vvv E x) :: (me_enc E ls).filter (fun q => !(q.1 == i) && !(q.1 + 1 == i && q.2.category == 2)))) : LR E lsA nL (ls.set i (some x)) := by
  refine ⟨hh.1, hh.2.1, fun j y hj => ?_⟩
  by_cases e : i = j
  · subst e
    have hlt : i < ls.length := by
      have := (List.getElem?_eq_some_iff.mp hj).1
      simpa using this
    rw [List.getElem?_set_self hlt] at hj
    cases hj
    exact hh.2.2 (i, vvv E x) List.mem_cons_self
  · rw [List.getElem?_set_ne e] at hj
    refine hh.2.2 (j, vvv E y) (List.mem_cons_of_mem _ (List.mem_filter.mpr ⟨me_enc_in hj, ?_⟩))
    simp [vvv_cat, Ne.symm e]
abbrev CX : Type := Program × Launch × Env × Room × State × MethodId × Array Value × List Frame × Method × Code × Nat × Nat × (State → Prop) × (Nat → Prop) × Heap
def tyE (E : EV) : List (ClassId × FieldType) := [(E.2.2 0, .int), (E.2.2 1, .char), (E.2.2 2, .object "ReplicaSessions$Replica"), (E.2.2 3, .object "ReplicaSessions$Session"), (E.2.2 4, .object "ReplicaSessions$State")]
def G (E : EV) (X : CX) (nL pc : Nat) (ls st : List VV) (mem : MEM) : Prop := match X with
  | (p, l, e, R, s, m, args, below, meth, c, cells, slots, QF, A, H0) => ∀ (lsA : Array Slot) (H : Heap) (locs : List Loc), LR E lsA nL ls → WR E mem H → va_S A H0 H locs → W p l e R s m args below meth c H locs cells slots QF (F0 m pc lsA (st.map (vv E)))
def EOK (E : EV) : Prop := ∀ a b, vd a → vd b → E.2.1 a = E.2.1 b → a = b
def NW (U : State) : Prop := ∀ w ∈ nestWs, va_Nw w U
def CK (E : EV) (X : CX) (own : String) (cc : ByteArray) (nL : Nat) (ret : Option FieldType) (dep : Nat) : Prop := match X with
  | (p, l, e, R, s, m, args, below, meth, c, cells, slots, QF, A, H0) => p.tables.exec = Jvm.exec ∧ c.code = cc ∧ c.maxLocals = nL ∧ s.vm.findClass own = some m.cls ∧ (∀ w ∈ BW, w.before args s = true) ∧ meth.sig.returnType = ret ∧ meth.locks = false ∧ va_K E.1 vwCl (tyE E) s ∧ (∀ id, vd id → A (E.2.1 id)) ∧ EOK E ∧ dep ≤ R.frames ∧ 36 * dep ≤ R.locals ∧ cells ≤ R.cells ∧ slots ≤ R.slots ∧ NW s
def AW (E : EV) : Nat → Prop := fun q => ∃ id, vd id ∧ q = E.2.1 id
def rvo (E : EV) (r : VV) : Option Value := match r with
  | none => none
  | some x => some (vvv E x)
def rvl (r : VV) : List VV := match r with
  | none => []
  | some x => [some x]
def QcW (E : EV) (Q : VV → MEM → Prop) : Array Value → State → Outcome → State → Prop := fun _ st oc t => (∃ (r : VV) (m' : MEM), Q r m' ∧ oc = .returned (rvo E r) ∧ WR E m' t.heap) ∧ va_F (AW E) st t
def me_rm (dep : Nat) : Room := { frames := dep, cells := 0, slots := 0, locals := 36 * dep }
def Ct (E : EV) (l : Launch) (y : MethodName) (ws : List Cond) (dep : Nat) (args : List VV) (mem : MEM) (Q : VV → MEM → Prop) : Prop := EOK E → Met l y ws (me_rm dep) (va_Pc (args.map (vv E)) (fun U => WR E mem U.heap ∧ va_K E.1 vwCl (tyE E) U ∧ NW U)) (QcW E Q) 0 0 (AW E)
def EX (E : EV) (X : CX) (l : Launch) (Q : VV → MEM → Prop) : Prop := match X with
  | (p, l', e, R, s, m, args, below, meth, c, cells, slots, QF, A, H0) => l' = l ∧ QF = MQ below (QcW E Q) args s cells slots (AW E) ∧ A = AW E ∧ H0 = s.heap
def up (m : MEM) (id : ID) (j : Nat) (v : Int32) : MEM := fun a b => if a = id ∧ b = j then v else m a b
/-- a whole cell as another -/
def cpc (m : MEM) (id src : ID) : MEM := fun a => if a = id then m src else m a
/-- an answer, and the world behind it -/
def Ret (v : VV) (m : MEM) : VV → MEM → Prop := fun r m' => r = v ∧ m' = m
theorem nest_warm {s U : State} (hW : s.WarmedH U.vm) (h : NW s) : NW U := by
  intro w hw
  have h0 := h w hw
  simp only [nestWs, List.mem_cons, List.not_mem_nil, or_false] at hw
  rcases hw with rfl | rfl | rfl | rfl | rfl | rfl | rfl | rfl <;> exact va_Nw.warmM hW h0
theorem nest_same {u U : State} (h : u.vm = U.vm) (hN : NW u) : NW U := by
  intro w hw
  have h0 := hN w hw
  simp only [nestWs, List.mem_cons, List.not_mem_nil, or_false] at hw
  rcases hw with rfl | rfl | rfl | rfl | rfl | rfl | rfl | rfl <;> exact va_Nw.same rfl h h0
def me_ws (y : MethodName) (cc : ByteArray) (nL : Nat) (ret : Option FieldType) : List Cond := Cond.code y cc nL ret :: BW
/-- what a program knows of a method: its code's word, its class, its arguments' number -/
def MI (y : MethodName) (cc : ByteArray) (nL : Nat) (ret : Option FieldType) (RC : String) (n : Nat) : Prop :=
  Cond.code y cc nL ret ∈ BW ∧ Cond.initialized RC ∈ BW ∧ y.cls = RC ∧ (y.cls ≠ "java/lang/invoke/MethodHandle" ∧ y.cls ≠ "java/lang/invoke/VarHandle" ∧ (parseMethodDescriptor y.desc).map (fun d => d.parameters.length) = some n) ∧ nL ≤ 17 ∧ plainFor y = true
def MV (y : MethodName) (RC : String) : Prop := Cond.instanceMethod y ∈ BW ∧ Cond.selects RC y y ∈ BW
theorem me_good {y : MethodName} {cc : ByteArray} {nL n : Nat} {ret : Option FieldType} {RC : String} (mi : MI y cc nL ret RC n) : GoodIn BW (me_ws y cc nL ret) := by
  intro w hw
  have h : w ∈ BW := by
    rcases List.mem_cons.mp hw with rfl | h
    · exact mi.1
    · exact h
  exact ⟨h, good_of_word (bw_good w h)⟩
theorem Met.ofWF {l : Launch} {y : MethodName} {ws ws' : List Cond} {rm : Room} {Pc : Array Value → State → Prop} {Qc : Array Value → State → Outcome → State → Prop} {mc ms : Nat} {free : Addr → Prop} {cc : ByteArray} {maxL : Nat} {ret : Option FieldType}
    (hy : plainFor y = true) (hw : ws = Cond.code y cc maxL ret :: ws')
    (body : ∀ p e s m args below meth c s₁, BodyLoose p l y (headSpec ws rm) cc maxL ret e s m args below meth c s₁ → c.maxLocals = maxL → Pc args s →
      W p l e (headSpec ws rm).room s m args below meth c s.heap [] 0 0 (MQ below Qc args s mc ms free) (entryFrame m args maxL)) : Met l y ws rm Pc Qc mc ms free := by
  refine MetFree.of_bodySF (code := cc) (maxLocals := maxL) (ret := ret) hy ?_ ?_
  · intro args s m h hn
    obtain ⟨meth, c, h1, h2, h3, h4, h5, h6, -, -⟩ := Cond.code_spec hn (atoms_spec (ws := ws) h _ (by rw [hw]; exact List.mem_cons_self))
    exact ⟨meth, c, h1, h2, h3, h4, h5, h6⟩
  · intro p e s m args below meth c s₁ B hml hP _
    have hh0 : s₁.heap = s.heap := by rw [B.state]; rfl
    obtain ⟨t, a1, o, b1, b2, b3⟩ := body p e s m args below meth c s₁ B hml hP s₁ hh0 (Stand.of_body B)
    exact ⟨t, o, a1, b1, b2, ⟨b3.1, b3.2⟩⟩
theorem me_P1 {D : va_G} {cl : List vw_C} {H : Heap} {q : Nat × va_E} (h : va_at D cl q H) : va_P D cl [q] H := fun k q' hq => by
  cases k with
  | zero => cases hq; exact h
  | succ k => simp at hq
section MEA
variable {p : Program} {l : Launch} {e : Env} {R : Room} {s : State} {m : MethodId} {args : Array Value} {below : List Frame} {meth : Method} {c : Code} {H : Heap} {locs : List Loc} {cells slots : Nat} {QF : State → Prop}
variable {pc : Nat} {lsA : Array Slot} {st0 : List Value} {a : Array Value} {A : Nat → Prop} {H0 : Heap}
theorem me_after {E : EV} {rest : List VV} {Q1 : VV → MEM → Prop} (hr : va_Run p l e R s m args below meth c H locs cells slots 0 0 (F0 m pc lsA st0) (rest.map (vv E)) (QcW E Q1 a) (AW E)) (hS : va_S A H0 H locs) (hA : ∀ id, vd id → A (E.2.1 id))
    (kk : ∀ (r : VV) (m' : MEM), Q1 r m' → ∀ (H1 : Heap) (locs1 : List Loc), WR E m' H1 → va_S A H0 H1 locs1 → W p l e R s m args below meth c H1 locs1 cells slots QF (F0 m (pc + 3) lsA ((rvl r ++ rest).map (vv E)))) : W p l e R s m args below meth c H locs cells slots QF (F0 m pc lsA st0) := by
  intro T hT X
  obtain ⟨v, st₀, t, T', L, h0, X', hL, e1, e2, ⟨⟨r, m', hq, hv, hw⟩, hz, hk⟩, st⟩ := hr T hT X
  have hAW : ∀ q, AW E q → A q := fun q ⟨id, h1, h2⟩ => h2 ▸ hA id h1
  have hv' : v = rvo E r := Outcome.returned.inj hv
  subst hv'
  rw [h0] at hz hk
  obtain ⟨t2, a1, b1⟩ := kk r m' hq T'.heap (locs ++ L) (by rw [e1]; exact hw)
    ⟨Nat.le_trans hS.1 (by rw [e1]; exact hz), fun q h1 h2 => by rw [e1, hk q (Nat.lt_of_lt_of_le h1 hS.1) (fun z => h2 (hAW q z))]; exact hS.2.1 q h1 h2, fun q hq => by
      rcases List.mem_append.mp hq with h | h
      · exact hS.2.2 q h
      · exact hAW _ (hL q h)⟩ T' rfl X'
  refine ⟨t2, st t2 ?_, b1⟩
  have e3 : (rvo E r).toList ++ rest.map (vv E) = (rvl r ++ rest).map (vv E) := by cases r <;> rfl
  rw [e3]
  exact a1
end MEA
section ME
variable {E : EV} {X : CX} {own : String} {cc : ByteArray} {nL : Nat} {ret : Option FieldType} {dep pc : Nat} {ls st : List VV} {mem : MEM}
theorem e_iconst (C : CK E X own cc nL ret dep) {n : Int} {v : Int32} (hdg : decode cc pc = .ok (.iconst n, 1)) (hv : Int32.ofInt n = v) (h : G E X nL (pc + 1) ls (iv v :: st) mem) : G E X nL pc ls (st) mem := by
  obtain ⟨p, l, e, R, s, m, args, below, meth, c, cells, slots, QF, A, H0⟩ := X
  obtain ⟨hx, hb, -⟩ := C
  exact fun lsA H locs hL hW hS => lv_iconst hx hb hdg hv (h lsA H locs hL hW hS)
theorem e_bipush (C : CK E X own cc nL ret dep) {n : Int} {v : Int32} (hdg : decode cc pc = .ok (.bipush n, 2)) (hv : (Int8.ofInt n).toInt32 = v) (h : G E X nL (pc + 2) ls (iv v :: st) mem) : G E X nL pc ls (st) mem := by
  obtain ⟨p, l, e, R, s, m, args, below, meth, c, cells, slots, QF, A, H0⟩ := X
  obtain ⟨hx, hb, -⟩ := C
  exact fun lsA H locs hL hW hS => lv_bipush hx hb hdg hv (h lsA H locs hL hW hS)
theorem e_sipush (C : CK E X own cc nL ret dep) {n : Int} {v : Int32} (hdg : decode cc pc = .ok (.sipush n, 3)) (hv : (Int16.ofInt n).toInt32 = v) (h : G E X nL (pc + 3) ls (iv v :: st) mem) : G E X nL pc ls (st) mem := by
  obtain ⟨p, l, e, R, s, m, args, below, meth, c, cells, slots, QF, A, H0⟩ := X
  obtain ⟨hx, hb, -⟩ := C
  exact fun lsA H locs hL hW hS => lv_sipush hx hb hdg hv (h lsA H locs hL hW hS)
theorem e_null (C : CK E X own cc nL ret dep) (hdg : decode cc pc = .ok (.aconst_null, 1)) (h : G E X nL (pc + 1) ls (nv :: st) mem) : G E X nL pc ls (st) mem := by
  obtain ⟨p, l, e, R, s, m, args, below, meth, c, cells, slots, QF, A, H0⟩ := X
  obtain ⟨hx, hb, -⟩ := C
  exact fun lsA H locs hL hW hS => lv_null hx hb hdg (h lsA H locs hL hW hS)
theorem e_iload_n (C : CK E X own cc nL ret dep) {k : Fin 4} {x : Int32} (hdg : decode cc pc = .ok (.iload_n k, 1)) (hl : ls[(k : Nat)]? = some (iv x)) (h : G E X nL (pc + 1) ls (iv x :: st) mem) : G E X nL pc ls (st) mem := by
  obtain ⟨p, l, e, R, s, m, args, below, meth, c, cells, slots, QF, A, H0⟩ := X
  obtain ⟨hx, hb, -⟩ := C
  exact fun lsA H locs hL hW hS => lv_iload_n hx hb hdg rfl (hL.2.2 _ _ hl) (h lsA H locs hL hW hS)
theorem e_iload (C : CK E X own cc nL ret dep) {k : Nat} {x : Int32} (hdg : decode cc pc = .ok (.iload k, 2)) (hl : ls[k]? = some (iv x)) (h : G E X nL (pc + 2) ls (iv x :: st) mem) : G E X nL pc ls (st) mem := by
  obtain ⟨p, l, e, R, s, m, args, below, meth, c, cells, slots, QF, A, H0⟩ := X
  obtain ⟨hx, hb, -⟩ := C
  exact fun lsA H locs hL hW hS => lv_iload hx hb hdg (hL.2.2 _ _ hl) (h lsA H locs hL hW hS)
theorem e_aload_n (C : CK E X own cc nL ret dep) {k : Fin 4} {x : ID} (hdg : decode cc pc = .ok (.aload_n k, 1)) (hl : ls[(k : Nat)]? = some (rv x)) (h : G E X nL (pc + 1) ls (rv x :: st) mem) : G E X nL pc ls (st) mem := by
  obtain ⟨p, l, e, R, s, m, args, below, meth, c, cells, slots, QF, A, H0⟩ := X
  obtain ⟨hx, hb, -⟩ := C
  exact fun lsA H locs hL hW hS => lv_aload_n hx hb hdg rfl (hL.2.2 _ _ hl) (h lsA H locs hL hW hS)
theorem e_aload (C : CK E X own cc nL ret dep) {k : Nat} {x : ID} (hdg : decode cc pc = .ok (.aload k, 2)) (hl : ls[k]? = some (rv x)) (h : G E X nL (pc + 2) ls (rv x :: st) mem) : G E X nL pc ls (st) mem := by
  obtain ⟨p, l, e, R, s, m, args, below, meth, c, cells, slots, QF, A, H0⟩ := X
  obtain ⟨hx, hb, -⟩ := C
  exact fun lsA H locs hL hW hS => lv_aload hx hb hdg (hL.2.2 _ _ hl) (h lsA H locs hL hW hS)
theorem e_aload_nN (C : CK E X own cc nL ret dep) {k : Fin 4} (hdg : decode cc pc = .ok (.aload_n k, 1)) (hl : ls[(k : Nat)]? = some nv) (h : G E X nL (pc + 1) ls (nv :: st) mem) : G E X nL pc ls (st) mem := by
  obtain ⟨p, l, e, R, s, m, args, below, meth, c, cells, slots, QF, A, H0⟩ := X
  obtain ⟨hx, hb, -⟩ := C
  exact fun lsA H locs hL hW hS => lv_aload_nN hx hb hdg rfl (hL.2.2 _ _ hl) (h lsA H locs hL hW hS)
theorem e_aloadN (C : CK E X own cc nL ret dep) {k : Nat} (hdg : decode cc pc = .ok (.aload k, 2)) (hl : ls[k]? = some nv) (h : G E X nL (pc + 2) ls (nv :: st) mem) : G E X nL pc ls (st) mem := by
  obtain ⟨p, l, e, R, s, m, args, below, meth, c, cells, slots, QF, A, H0⟩ := X
  obtain ⟨hx, hb, -⟩ := C
  exact fun lsA H locs hL hW hS => lv_aloadN hx hb hdg (hL.2.2 _ _ hl) (h lsA H locs hL hW hS)
theorem e_istore_n (C : CK E X own cc nL ret dep) {k : Fin 4} {x : Int32} (hdg : decode cc pc = .ok (.istore_n k, 1)) (hn : (k : Nat) < nL) (h : G E X nL (pc + 1) (ls.set (k : Nat) (iv x)) st mem) : G E X nL pc ls (iv x :: st) mem := by
  obtain ⟨p, l, e, R, s, m, args, below, meth, c, cells, slots, QF, A, H0⟩ := X
  obtain ⟨hx, hb, -⟩ := C
  exact fun lsA H locs hL hW hS => lv_istore_n hx hb hdg rfl hL.toHas hn rfl (fun ls1 h1 => h ls1 H locs (LR.ofStore (x := .inl x) h1) hW hS)
theorem e_istore (C : CK E X own cc nL ret dep) {k : Nat} {x : Int32} (hdg : decode cc pc = .ok (.istore k, 2)) (hn : k < nL) (h : G E X nL (pc + 2) (ls.set k (iv x)) st mem) : G E X nL pc ls (iv x :: st) mem := by
  obtain ⟨p, l, e, R, s, m, args, below, meth, c, cells, slots, QF, A, H0⟩ := X
  obtain ⟨hx, hb, -⟩ := C
  exact fun lsA H locs hL hW hS => lv_istore hx hb hdg hL.toHas hn rfl (fun ls1 h1 => h ls1 H locs (LR.ofStore (x := .inl x) h1) hW hS)
theorem e_astore_n (C : CK E X own cc nL ret dep) {k : Fin 4} {x : ID} (hdg : decode cc pc = .ok (.astore_n k, 1)) (hn : (k : Nat) < nL) (h : G E X nL (pc + 1) (ls.set (k : Nat) (rv x)) st mem) : G E X nL pc ls (rv x :: st) mem := by
  obtain ⟨p, l, e, R, s, m, args, below, meth, c, cells, slots, QF, A, H0⟩ := X
  obtain ⟨hx, hb, -⟩ := C
  exact fun lsA H locs hL hW hS => lv_astore_n hx hb hdg rfl hL.toHas hn rfl (fun ls1 h1 => h ls1 H locs (LR.ofStore (x := .inr (some x)) h1) hW hS)
theorem e_astore (C : CK E X own cc nL ret dep) {k : Nat} {x : ID} (hdg : decode cc pc = .ok (.astore k, 2)) (hn : k < nL) (h : G E X nL (pc + 2) (ls.set k (rv x)) st mem) : G E X nL pc ls (rv x :: st) mem := by
  obtain ⟨p, l, e, R, s, m, args, below, meth, c, cells, slots, QF, A, H0⟩ := X
  obtain ⟨hx, hb, -⟩ := C
  exact fun lsA H locs hL hW hS => lv_astore hx hb hdg hL.toHas hn rfl (fun ls1 h1 => h ls1 H locs (LR.ofStore (x := .inr (some x)) h1) hW hS)
theorem e_astore_nN (C : CK E X own cc nL ret dep) {k : Fin 4} (hdg : decode cc pc = .ok (.astore_n k, 1)) (hn : (k : Nat) < nL) (h : G E X nL (pc + 1) (ls.set (k : Nat) (nv)) st mem) : G E X nL pc ls (nv :: st) mem := by
  obtain ⟨p, l, e, R, s, m, args, below, meth, c, cells, slots, QF, A, H0⟩ := X
  obtain ⟨hx, hb, -⟩ := C
  exact fun lsA H locs hL hW hS => lv_astore_nN hx hb hdg rfl hL.toHas hn rfl (fun ls1 h1 => h ls1 H locs (LR.ofStore (x := .inr none) h1) hW hS)
theorem e_astoreN (C : CK E X own cc nL ret dep) {k : Nat} (hdg : decode cc pc = .ok (.astore k, 2)) (hn : k < nL) (h : G E X nL (pc + 2) (ls.set k (nv)) st mem) : G E X nL pc ls (nv :: st) mem := by
  obtain ⟨p, l, e, R, s, m, args, below, meth, c, cells, slots, QF, A, H0⟩ := X
  obtain ⟨hx, hb, -⟩ := C
  exact fun lsA H locs hL hW hS => lv_astoreN hx hb hdg hL.toHas hn rfl (fun ls1 h1 => h ls1 H locs (LR.ofStore (x := .inr none) h1) hW hS)
theorem e_iinc (C : CK E X own cc nL ret dep) {k : Nat} {n : Int} {x v : Int32} (hdg : decode cc pc = .ok (.iinc k n, 3)) (hl : ls[k]? = some (iv x)) (hv : x + Int32.ofInt n = v) (hn : k < nL) (h : G E X nL (pc + 3) (ls.set k (iv v)) st mem) : G E X nL pc ls st mem := by
  obtain ⟨p, l, e, R, s, m, args, below, meth, c, cells, slots, QF, A, H0⟩ := X
  obtain ⟨hx, hb, -⟩ := C
  intro lsA H locs hL hW hS
  obtain ⟨j, hj⟩ := List.getElem?_of_mem (me_enc_in (E := E) hl)
  exact lv_iinc hx hb hdg hL.toHas (k := j) hj hv hn rfl (fun ls1 h1 => h ls1 H locs (LR.ofStore (x := .inl v) h1) hW hS)
theorem e_iadd (C : CK E X own cc nL ret dep) {x y : Int32} (hdg : decode cc pc = .ok (.iadd, 1)) (h : G E X nL (pc + 1) ls (iv (x + y) :: st) mem) : G E X nL pc ls (iv y :: iv x :: st) mem := by
  obtain ⟨p, l, e, R, s, m, args, below, meth, c, cells, slots, QF, A, H0⟩ := X
  obtain ⟨hx, hb, -⟩ := C
  exact fun lsA H locs hL hW hS => lv_iadd hx hb hdg (h lsA H locs hL hW hS)
theorem e_isub (C : CK E X own cc nL ret dep) {x y : Int32} (hdg : decode cc pc = .ok (.isub, 1)) (h : G E X nL (pc + 1) ls (iv (x - y) :: st) mem) : G E X nL pc ls (iv y :: iv x :: st) mem := by
  obtain ⟨p, l, e, R, s, m, args, below, meth, c, cells, slots, QF, A, H0⟩ := X
  obtain ⟨hx, hb, -⟩ := C
  exact fun lsA H locs hL hW hS => lv_isub hx hb hdg (h lsA H locs hL hW hS)
theorem e_imul (C : CK E X own cc nL ret dep) {x y : Int32} (hdg : decode cc pc = .ok (.imul, 1)) (h : G E X nL (pc + 1) ls (iv (x * y) :: st) mem) : G E X nL pc ls (iv y :: iv x :: st) mem := by
  obtain ⟨p, l, e, R, s, m, args, below, meth, c, cells, slots, QF, A, H0⟩ := X
  obtain ⟨hx, hb, -⟩ := C
  exact fun lsA H locs hL hW hS => lv_imul hx hb hdg (h lsA H locs hL hW hS)
theorem e_iand (C : CK E X own cc nL ret dep) {x y : Int32} (hdg : decode cc pc = .ok (.iand, 1)) (h : G E X nL (pc + 1) ls (iv (x &&& y) :: st) mem) : G E X nL pc ls (iv y :: iv x :: st) mem := by
  obtain ⟨p, l, e, R, s, m, args, below, meth, c, cells, slots, QF, A, H0⟩ := X
  obtain ⟨hx, hb, -⟩ := C
  exact fun lsA H locs hL hW hS => lv_iand hx hb hdg (h lsA H locs hL hW hS)
theorem e_ior (C : CK E X own cc nL ret dep) {x y : Int32} (hdg : decode cc pc = .ok (.ior, 1)) (h : G E X nL (pc + 1) ls (iv (x ||| y) :: st) mem) : G E X nL pc ls (iv y :: iv x :: st) mem := by
  obtain ⟨p, l, e, R, s, m, args, below, meth, c, cells, slots, QF, A, H0⟩ := X
  obtain ⟨hx, hb, -⟩ := C
  exact fun lsA H locs hL hW hS => lv_ior hx hb hdg (h lsA H locs hL hW hS)
theorem e_ixor (C : CK E X own cc nL ret dep) {x y : Int32} (hdg : decode cc pc = .ok (.ixor, 1)) (h : G E X nL (pc + 1) ls (iv (x ^^^ y) :: st) mem) : G E X nL pc ls (iv y :: iv x :: st) mem := by
  obtain ⟨p, l, e, R, s, m, args, below, meth, c, cells, slots, QF, A, H0⟩ := X
  obtain ⟨hx, hb, -⟩ := C
  exact fun lsA H locs hL hW hS => lv_ixor hx hb hdg (h lsA H locs hL hW hS)
theorem e_ishl (C : CK E X own cc nL ret dep) {x y : Int32} (hdg : decode cc pc = .ok (.ishl, 1)) (h : G E X nL (pc + 1) ls (iv (x <<< (y &&& 31)) :: st) mem) : G E X nL pc ls (iv y :: iv x :: st) mem := by
  obtain ⟨p, l, e, R, s, m, args, below, meth, c, cells, slots, QF, A, H0⟩ := X
  obtain ⟨hx, hb, -⟩ := C
  exact fun lsA H locs hL hW hS => lv_ishl hx hb hdg (h lsA H locs hL hW hS)
theorem e_idiv (C : CK E X own cc nL ret dep) {x y : Int32} (hdg : decode cc pc = .ok (.idiv, 1)) (hne : ¬ y = 0) (h : G E X nL (pc + 1) ls (iv (x / y) :: st) mem) : G E X nL pc ls (iv y :: iv x :: st) mem := by
  obtain ⟨p, l, e, R, s, m, args, below, meth, c, cells, slots, QF, A, H0⟩ := X
  obtain ⟨hx, hb, -⟩ := C
  exact fun lsA H locs hL hW hS => lv_idiv hx hb hdg hne (h lsA H locs hL hW hS)
theorem e_irem (C : CK E X own cc nL ret dep) {x y : Int32} (hdg : decode cc pc = .ok (.irem, 1)) (hne : ¬ y = 0) (h : G E X nL (pc + 1) ls (iv (x - x / y * y) :: st) mem) : G E X nL pc ls (iv y :: iv x :: st) mem := by
  obtain ⟨p, l, e, R, s, m, args, below, meth, c, cells, slots, QF, A, H0⟩ := X
  obtain ⟨hx, hb, -⟩ := C
  exact fun lsA H locs hL hW hS => lv_irem hx hb hdg hne (h lsA H locs hL hW hS)
theorem e_i2c (C : CK E X own cc nL ret dep) {x : Int32} (hdg : decode cc pc = .ok (.i2c, 1)) (h : G E X nL (pc + 1) ls (iv ((x.toUInt32 % 65536).toInt32) :: st) mem) : G E X nL pc ls (iv x :: st) mem := by
  obtain ⟨p, l, e, R, s, m, args, below, meth, c, cells, slots, QF, A, H0⟩ := X
  obtain ⟨hx, hb, -⟩ := C
  exact fun lsA H locs hL hW hS => lv_i2c hx hb hdg rfl (h lsA H locs hL hW hS)
theorem e_dup (C : CK E X own cc nL ret dep) {x : VV} (hdg : decode cc pc = .ok (.dup, 1)) (h : G E X nL (pc + 1) ls (x :: x :: st) mem) : G E X nL pc ls (x :: st) mem := by
  obtain ⟨p, l, e, R, s, m, args, below, meth, c, cells, slots, QF, A, H0⟩ := X
  obtain ⟨hx, hb, -⟩ := C
  exact fun lsA H locs hL hW hS => lv_dup hx hb hdg (vv_cat E x) (h lsA H locs hL hW hS)
theorem e_pop (C : CK E X own cc nL ret dep) {x : VV} (hdg : decode cc pc = .ok (.pop, 1)) (h : G E X nL (pc + 1) ls (st) mem) : G E X nL pc ls (x :: st) mem := by
  obtain ⟨p, l, e, R, s, m, args, below, meth, c, cells, slots, QF, A, H0⟩ := X
  obtain ⟨hx, hb, -⟩ := C
  exact fun lsA H locs hL hW hS => lv_pop hx hb hdg (vv_cat E x) (h lsA H locs hL hW hS)
theorem e_dup2 (C : CK E X own cc nL ret dep) {x y : VV} (hdg : decode cc pc = .ok (.dup2, 1)) (h : G E X nL (pc + 1) ls (x :: y :: x :: y :: st) mem) : G E X nL pc ls (x :: y :: st) mem := by
  obtain ⟨p, l, e, R, s, m, args, below, meth, c, cells, slots, QF, A, H0⟩ := X
  obtain ⟨hx, hb, -⟩ := C
  exact fun lsA H locs hL hW hS => lv_dup2_11 hx hb hdg (vv_cat E x) (vv_cat E y) (h lsA H locs hL hW hS)
theorem e_goto (C : CK E X own cc nL ret dep) {off : Int} {tgt : Nat} (hdg : decode cc pc = .ok (.goto off, 3)) (ht : (pc : Int) + off = (tgt : Int)) (h : G E X nL tgt ls (st) mem) : G E X nL pc ls (st) mem := by
  obtain ⟨p, l, e, R, s, m, args, below, meth, c, cells, slots, QF, A, H0⟩ := X
  obtain ⟨hx, hb, -⟩ := C
  exact fun lsA H locs hL hW hS => lv_goto hx hb hdg ht (h lsA H locs hL hW hS)
theorem e_ifnonnull (C : CK E X own cc nL ret dep) {x : ID} {off : Int} {tgt : Nat} (hdg : decode cc pc = .ok (.ifnonnull off, 3)) (ht : (pc : Int) + off = (tgt : Int)) (h : G E X nL tgt ls (st) mem) : G E X nL pc ls (rv x :: st) mem := by
  obtain ⟨p, l, e, R, s, m, args, below, meth, c, cells, slots, QF, A, H0⟩ := X
  obtain ⟨hx, hb, -⟩ := C
  exact fun lsA H locs hL hW hS => lv_ifnonnull hx hb hdg ht (h lsA H locs hL hW hS)
theorem e_ifnull (C : CK E X own cc nL ret dep) {x : ID} {off : Int} (hdg : decode cc pc = .ok (.ifnull off, 3)) (h : G E X nL (pc + 3) ls (st) mem) : G E X nL pc ls (rv x :: st) mem := by
  obtain ⟨p, l, e, R, s, m, args, below, meth, c, cells, slots, QF, A, H0⟩ := X
  obtain ⟨hx, hb, -⟩ := C
  exact fun lsA H locs hL hW hS => lv_ifnull hx hb hdg (h lsA H locs hL hW hS)
theorem e_ifnullN (C : CK E X own cc nL ret dep) {off : Int} {tgt : Nat} (hdg : decode cc pc = .ok (.ifnull off, 3)) (ht : (pc : Int) + off = (tgt : Int)) (h : G E X nL tgt ls (st) mem) : G E X nL pc ls (nv :: st) mem := by
  obtain ⟨p, l, e, R, s, m, args, below, meth, c, cells, slots, QF, A, H0⟩ := X
  obtain ⟨hx, hb, -⟩ := C
  exact fun lsA H locs hL hW hS => lv_ifnullN hx hb hdg ht (h lsA H locs hL hW hS)
theorem e_ifnonnullN (C : CK E X own cc nL ret dep) {off : Int} (hdg : decode cc pc = .ok (.ifnonnull off, 3)) (h : G E X nL (pc + 3) ls (st) mem) : G E X nL pc ls (nv :: st) mem := by
  obtain ⟨p, l, e, R, s, m, args, below, meth, c, cells, slots, QF, A, H0⟩ := X
  obtain ⟨hx, hb, -⟩ := C
  exact fun lsA H locs hL hW hS => lv_ifnonnullN hx hb hdg (h lsA H locs hL hW hS)
theorem e_icmp_eq (C : CK E X own cc nL ret dep) {x y : Int32} {off : Int} {tgt : Nat} (hdg : decode cc pc = .ok (.if_icmp .eq off, 3)) (ht : (pc : Int) + off = (tgt : Int)) (kt : x = y → G E X nL tgt ls st mem) (kf : ¬ x = y → G E X nL (pc + 3) ls st mem) : G E X nL pc ls (iv y :: iv x :: st) mem := by
  obtain ⟨p, l, e, R, s, m, args, below, meth, c, cells, slots, QF, A, H0⟩ := X
  obtain ⟨hx, hb, -⟩ := C
  exact fun lsA H locs hL hW hS => lv_icmp_eq hx hb hdg ht (fun q => kt q lsA H locs hL hW hS) (fun q => kf q lsA H locs hL hW hS)
theorem e_icmp_ne (C : CK E X own cc nL ret dep) {x y : Int32} {off : Int} {tgt : Nat} (hdg : decode cc pc = .ok (.if_icmp .ne off, 3)) (ht : (pc : Int) + off = (tgt : Int)) (kt : ¬ x = y → G E X nL tgt ls st mem) (kf : x = y → G E X nL (pc + 3) ls st mem) : G E X nL pc ls (iv y :: iv x :: st) mem := by
  obtain ⟨p, l, e, R, s, m, args, below, meth, c, cells, slots, QF, A, H0⟩ := X
  obtain ⟨hx, hb, -⟩ := C
  exact fun lsA H locs hL hW hS => lv_icmp_ne hx hb hdg ht (fun q => kt q lsA H locs hL hW hS) (fun q => kf q lsA H locs hL hW hS)
theorem e_icmp_lt (C : CK E X own cc nL ret dep) {x y : Int32} {off : Int} {tgt : Nat} (hdg : decode cc pc = .ok (.if_icmp .lt off, 3)) (ht : (pc : Int) + off = (tgt : Int)) (kt : x < y → G E X nL tgt ls st mem) (kf : ¬ x < y → G E X nL (pc + 3) ls st mem) : G E X nL pc ls (iv y :: iv x :: st) mem := by
  obtain ⟨p, l, e, R, s, m, args, below, meth, c, cells, slots, QF, A, H0⟩ := X
  obtain ⟨hx, hb, -⟩ := C
  exact fun lsA H locs hL hW hS => lv_icmp_lt hx hb hdg ht (fun q => kt q lsA H locs hL hW hS) (fun q => kf q lsA H locs hL hW hS)
theorem e_icmp_ge (C : CK E X own cc nL ret dep) {x y : Int32} {off : Int} {tgt : Nat} (hdg : decode cc pc = .ok (.if_icmp .ge off, 3)) (ht : (pc : Int) + off = (tgt : Int)) (kt : y ≤ x → G E X nL tgt ls st mem) (kf : ¬ y ≤ x → G E X nL (pc + 3) ls st mem) : G E X nL pc ls (iv y :: iv x :: st) mem := by
  obtain ⟨p, l, e, R, s, m, args, below, meth, c, cells, slots, QF, A, H0⟩ := X
  obtain ⟨hx, hb, -⟩ := C
  exact fun lsA H locs hL hW hS => lv_icmp_ge hx hb hdg ht (fun q => kt q lsA H locs hL hW hS) (fun q => kf q lsA H locs hL hW hS)
theorem e_icmp_gt (C : CK E X own cc nL ret dep) {x y : Int32} {off : Int} {tgt : Nat} (hdg : decode cc pc = .ok (.if_icmp .gt off, 3)) (ht : (pc : Int) + off = (tgt : Int)) (kt : y < x → G E X nL tgt ls st mem) (kf : ¬ y < x → G E X nL (pc + 3) ls st mem) : G E X nL pc ls (iv y :: iv x :: st) mem := by
  obtain ⟨p, l, e, R, s, m, args, below, meth, c, cells, slots, QF, A, H0⟩ := X
  obtain ⟨hx, hb, -⟩ := C
  exact fun lsA H locs hL hW hS => lv_icmp_gt hx hb hdg ht (fun q => kt q lsA H locs hL hW hS) (fun q => kf q lsA H locs hL hW hS)
theorem e_icmp_le (C : CK E X own cc nL ret dep) {x y : Int32} {off : Int} {tgt : Nat} (hdg : decode cc pc = .ok (.if_icmp .le off, 3)) (ht : (pc : Int) + off = (tgt : Int)) (kt : x ≤ y → G E X nL tgt ls st mem) (kf : ¬ x ≤ y → G E X nL (pc + 3) ls st mem) : G E X nL pc ls (iv y :: iv x :: st) mem := by
  obtain ⟨p, l, e, R, s, m, args, below, meth, c, cells, slots, QF, A, H0⟩ := X
  obtain ⟨hx, hb, -⟩ := C
  exact fun lsA H locs hL hW hS => lv_icmp_le hx hb hdg ht (fun q => kt q lsA H locs hL hW hS) (fun q => kf q lsA H locs hL hW hS)
theorem e_if_eq (C : CK E X own cc nL ret dep) {x : Int32} {off : Int} {tgt : Nat} (hdg : decode cc pc = .ok (.ifCond .eq off, 3)) (ht : (pc : Int) + off = (tgt : Int)) (kt : x = 0 → G E X nL tgt ls st mem) (kf : ¬ x = 0 → G E X nL (pc + 3) ls st mem) : G E X nL pc ls (iv x :: st) mem := by
  obtain ⟨p, l, e, R, s, m, args, below, meth, c, cells, slots, QF, A, H0⟩ := X
  obtain ⟨hx, hb, -⟩ := C
  exact fun lsA H locs hL hW hS => lv_if_eq hx hb hdg ht (fun q => kt q lsA H locs hL hW hS) (fun q => kf q lsA H locs hL hW hS)
theorem e_if_ne (C : CK E X own cc nL ret dep) {x : Int32} {off : Int} {tgt : Nat} (hdg : decode cc pc = .ok (.ifCond .ne off, 3)) (ht : (pc : Int) + off = (tgt : Int)) (kt : ¬ x = 0 → G E X nL tgt ls st mem) (kf : x = 0 → G E X nL (pc + 3) ls st mem) : G E X nL pc ls (iv x :: st) mem := by
  obtain ⟨p, l, e, R, s, m, args, below, meth, c, cells, slots, QF, A, H0⟩ := X
  obtain ⟨hx, hb, -⟩ := C
  exact fun lsA H locs hL hW hS => lv_if_ne hx hb hdg ht (fun q => kt q lsA H locs hL hW hS) (fun q => kf q lsA H locs hL hW hS)
theorem e_if_lt (C : CK E X own cc nL ret dep) {x : Int32} {off : Int} {tgt : Nat} (hdg : decode cc pc = .ok (.ifCond .lt off, 3)) (ht : (pc : Int) + off = (tgt : Int)) (kt : x < 0 → G E X nL tgt ls st mem) (kf : ¬ x < 0 → G E X nL (pc + 3) ls st mem) : G E X nL pc ls (iv x :: st) mem := by
  obtain ⟨p, l, e, R, s, m, args, below, meth, c, cells, slots, QF, A, H0⟩ := X
  obtain ⟨hx, hb, -⟩ := C
  exact fun lsA H locs hL hW hS => lv_if_lt hx hb hdg ht (fun q => kt q lsA H locs hL hW hS) (fun q => kf q lsA H locs hL hW hS)
theorem e_if_ge (C : CK E X own cc nL ret dep) {x : Int32} {off : Int} {tgt : Nat} (hdg : decode cc pc = .ok (.ifCond .ge off, 3)) (ht : (pc : Int) + off = (tgt : Int)) (kt : 0 ≤ x → G E X nL tgt ls st mem) (kf : ¬ 0 ≤ x → G E X nL (pc + 3) ls st mem) : G E X nL pc ls (iv x :: st) mem := by
  obtain ⟨p, l, e, R, s, m, args, below, meth, c, cells, slots, QF, A, H0⟩ := X
  obtain ⟨hx, hb, -⟩ := C
  exact fun lsA H locs hL hW hS => lv_if_ge hx hb hdg ht (fun q => kt q lsA H locs hL hW hS) (fun q => kf q lsA H locs hL hW hS)
theorem e_if_gt (C : CK E X own cc nL ret dep) {x : Int32} {off : Int} {tgt : Nat} (hdg : decode cc pc = .ok (.ifCond .gt off, 3)) (ht : (pc : Int) + off = (tgt : Int)) (kt : 0 < x → G E X nL tgt ls st mem) (kf : ¬ 0 < x → G E X nL (pc + 3) ls st mem) : G E X nL pc ls (iv x :: st) mem := by
  obtain ⟨p, l, e, R, s, m, args, below, meth, c, cells, slots, QF, A, H0⟩ := X
  obtain ⟨hx, hb, -⟩ := C
  exact fun lsA H locs hL hW hS => lv_if_gt hx hb hdg ht (fun q => kt q lsA H locs hL hW hS) (fun q => kf q lsA H locs hL hW hS)
theorem e_if_le (C : CK E X own cc nL ret dep) {x : Int32} {off : Int} {tgt : Nat} (hdg : decode cc pc = .ok (.ifCond .le off, 3)) (ht : (pc : Int) + off = (tgt : Int)) (kt : x ≤ 0 → G E X nL tgt ls st mem) (kf : ¬ x ≤ 0 → G E X nL (pc + 3) ls st mem) : G E X nL pc ls (iv x :: st) mem := by
  obtain ⟨p, l, e, R, s, m, args, below, meth, c, cells, slots, QF, A, H0⟩ := X
  obtain ⟨hx, hb, -⟩ := C
  exact fun lsA H locs hL hW hS => lv_if_le hx hb hdg ht (fun q => kt q lsA H locs hL hW hS) (fun q => kf q lsA H locs hL hW hS)
theorem e_lookup (C : CK E X own cc nL ret dep) {dflt : Int} {ps : Array (Int × Int)} {len : Nat} {x : Int32} {off : Int} {tgt : Nat} (hdg : decode cc pc = .ok (.lookupswitch dflt ps, len)) (hp : (ps.toList.zip (ps.toList.drop 1)).all (fun (a, next) => a.1 < next.1) = true) (ho : Op.lookupswitch.offset ps.toList dflt x.toInt = off) (ht : (pc : Int) + off = (tgt : Int)) (h : G E X nL tgt ls st mem) : G E X nL pc ls (iv x :: st) mem := by
  obtain ⟨p, l, e, R, s, m, args, below, meth, c, cells, slots, QF, A, H0⟩ := X
  obtain ⟨hx, hb, -⟩ := C
  exact fun lsA H locs hL hW hS => lv_lookup hx hb hdg hp ho ht (h lsA H locs hL hW hS)
theorem e_tableOut (C : CK E X own cc nL ret dep) {dflt lo hi : Int} {offs : Array Int} {len : Nat} {x : Int32} {tgt : Nat} (hdg : decode cc pc = .ok (.tableswitch dflt lo hi offs, len)) (hq : x.toInt < lo ∨ hi < x.toInt) (ht : (pc : Int) + dflt = (tgt : Int)) (h : G E X nL tgt ls st mem) : G E X nL pc ls (iv x :: st) mem := by
  obtain ⟨p, l, e, R, s, m, args, below, meth, c, cells, slots, QF, A, H0⟩ := X
  obtain ⟨hx, hb, -⟩ := C
  exact fun lsA H locs hL hW hS => lv_tableOut hx hb hdg hq ht (h lsA H locs hL hW hS)
theorem e_tableIn (C : CK E X own cc nL ret dep) {dflt lo hi : Int} {offs : Array Int} {len : Nat} {x : Int32} {off : Int} {tgt : Nat} (hdg : decode cc pc = .ok (.tableswitch dflt lo hi offs, len)) (h1 : ¬ x.toInt < lo) (h2 : ¬ hi < x.toInt) (ho : offs[(x.toInt - lo).toNat]? = some off) (ht : (pc : Int) + off = (tgt : Int)) (h : G E X nL tgt ls st mem) : G E X nL pc ls (iv x :: st) mem := by
  obtain ⟨p, l, e, R, s, m, args, below, meth, c, cells, slots, QF, A, H0⟩ := X
  obtain ⟨hx, hb, -⟩ := C
  exact fun lsA H locs hL hW hS => lv_tableIn hx hb hdg h1 h2 ho ht (h lsA H locs hL hW hS)
/-- a field is read -/
theorem e_getx (C : CK E X own cc nL ret dep) {id : ID} {ci N index : Nat} {RC : String} {T : u_T} (j : Nat) (hk : me_kd id.1 = .inl ci) (hc : vwCl[ci]? = some (RC, T, N)) (hNf : me_nf ci = N) (hj : j < N) (hin : ∀ w ∈ u_ws RC T N, w ∈ BW) (ho : (T j).1 = RC) (hl : Cond.fieldLink own index RC (T j).2.1 (T j).2.2.1 ∈ BW) (hv : vd id) (hdg : decode cc pc = .ok (.getfield index, 3)) {x : VV} (hx0 : vv E x = me_sv E mem id j) (h : G E X nL (pc + 3) ls (x :: st) mem) : G E X nL pc ls (rv id :: st) mem := by
  obtain ⟨p, l, e, R, s, m, args, below, meth, c, cells, slots, QF, A, H0⟩ := X
  obtain ⟨hx, hb, hml, hfo, hts, hrt, hlk, hK, hA, hE, hfr, hlo, hce, hsl, hN⟩ := C
  intro lsA H locs hL hW hS
  have h1 := hW.1 id hv
  unfold WR1 at h1
  rw [hk] at h1
  obtain ⟨cell, q1, q2, q3, q4⟩ := h1
  obtain ⟨hS', hfc, kC, hkC, hkind⟩ := hK.1 ci _ hc
  obtain ⟨cf, kf, fi, f, hi, hsl'⟩ := hS' j hj
  refine W.getf hx hb hfo (hts _ hl) (by rw [ho] at hi; exact hi) (u_facts hfc hkC (u_lays hts hin hj) hi).1 q1 (by rw [q3]; exact fun h => by cases h) (v := me_sv E mem id j) ?_ rfl rfl hdg ?_
  · rw [hsl', q4 j (by rw [hNf]; exact hj)]
  · have h2 := h lsA H locs hL hW hS
    rw [List.map_cons, hx0] at h2
    exact h2
theorem e_geti (C : CK E X own cc nL ret dep) {id : ID} {ci N index : Nat} {RC : String} {T : u_T} (j : Nat) (hk : me_kd id.1 = .inl ci) (hc : vwCl[ci]? = some (RC, T, N)) (hNf : me_nf ci = N) (hj : j < N) (hin : ∀ w ∈ u_ws RC T N, w ∈ BW) (ho : (T j).1 = RC) (hl : Cond.fieldLink own index RC (T j).2.1 (T j).2.2.1 ∈ BW) (hv : vd id) (hs : me_sl id j = none) (hdg : decode cc pc = .ok (.getfield index, 3)) (h : G E X nL (pc + 3) ls (iv (mem id j) :: st) mem) : G E X nL pc ls (rv id :: st) mem :=
  e_getx C j hk hc hNf hj hin ho hl hv hdg (x := iv (mem id j)) (by unfold me_sv; rw [hs]; rfl) h
theorem e_getr (C : CK E X own cc nL ret dep) {id : ID} {ci N index : Nat} {RC : String} {T : u_T} (j : Nat) (hk : me_kd id.1 = .inl ci) (hc : vwCl[ci]? = some (RC, T, N)) (hNf : me_nf ci = N) (hj : j < N) (hin : ∀ w ∈ u_ws RC T N, w ∈ BW) (ho : (T j).1 = RC) (hl : Cond.fieldLink own index RC (T j).2.1 (T j).2.2.1 ∈ BW) (hv : vd id) {r : ID} (hs : me_sl id j = some r) (hdg : decode cc pc = .ok (.getfield index, 3)) (h : G E X nL (pc + 3) ls (rv r :: st) mem) : G E X nL pc ls (rv id :: st) mem :=
  e_getx C j hk hc hNf hj hin ho hl hv hdg (x := rv r) (by unfold me_sv; rw [hs]; rfl) h
theorem e_bool {id : ID} (j : Nat) (hv : vd id) (hb : me_bo id.1 j = true) (h : (mem id j = 0 ∨ mem id j = 1) → G E X nL pc ls st mem) : G E X nL pc ls st mem := by
  obtain ⟨p, l, e, R, s, m, args, below, meth, c, cells, slots, QF, A, H0⟩ := X
  exact fun lsA H locs hL hW hS => h (hW.2 id j hv hb) lsA H locs hL hW hS
theorem me_apart {s : State} {args : Array Value} {C : String} {T : u_T} {N : Nat} {cC : ClassId} {iS : Nat → Nat} (hts : ∀ w ∈ BW, w.before args s = true) (hin : ∀ w ∈ u_ws C T N, w ∈ BW) (ty : Nat → FieldType) (hty : ∀ k, k < N → parseFieldDescriptor (T k).2.2.1 = some (ty k)) (hnm : ∀ a, a < N → ∀ b, b < N → a ≠ b → (T a).2.1 ≠ (T b).2.1) (hK : u_Kn s C T N cC iS) : ∀ x y, x < N → y < N → x ≠ y → iS x ≠ iS y := by
  intro x y hx hy hne
  obtain ⟨hS, -⟩ := hK
  obtain ⟨_, _, _, fa, hia, ea⟩ := hS x hx
  obtain ⟨_, _, _, fb, hib, eb⟩ := hS y hy
  rw [← ea, ← eb]
  refine u_apart (u_lays hts hin hx) (u_lays hts hin hy) hia hib ?_
  rw [(State.fieldFound?_type hia (hty x hx)).1, (State.fieldFound?_type hib (hty y hy)).1]
  exact hnm x hx y hy hne
/-- an int or a boolean is written -/
theorem e_puti (C : CK E X own cc nL ret dep) {id : ID} {ci N index : Nat} {RC : String} {T : u_T} (j : Nat) (hk : me_kd id.1 = .inl ci) (hc : vwCl[ci]? = some (RC, T, N)) (hNf : me_nf ci = N) (hj : j < N) (hin : ∀ w ∈ u_ws RC T N, w ∈ BW) (ho : (T j).1 = RC) (hl : Cond.fieldLink own index RC (T j).2.1 (T j).2.2.1 ∈ BW) (hv : vd id) (ty0 : Nat → FieldType) (hty : ∀ k, k < N → parseFieldDescriptor (T k).2.2.1 = some (ty0 k)) (hnm : ∀ a, a < N → ∀ b, b < N → a ≠ b → (T a).2.1 ≠ (T b).2.1) (hfin : (T j).2.2.2 = false) {v : Int32} (hty2 : (ty0 j = .int ∧ me_bo id.1 j = false) ∨ (ty0 j = .boolean ∧ (v = 0 ∨ v = 1))) (hs : me_sl id j = none) (hdg : decode cc pc = .ok (.putfield index, 3)) (h : G E X nL (pc + 3) ls st (up mem id j v)) : G E X nL pc ls (iv v :: rv id :: st) mem := by
  obtain ⟨p, l, e, R, s, m, args, below, meth, c, cells, slots, QF, A, H0⟩ := X
  obtain ⟨hx, hb, hml, hfo, hts, hrt, hlk, hK, hA, hE, hfr, hlo, hce, hsl, hN⟩ := C
  intro lsA H locs hL hW hS
  have h1 := hW.1 id hv
  unfold WR1 at h1
  rw [hk] at h1
  obtain ⟨cell, q1, q2, q3, q4⟩ := h1
  have hKc := hK.1 ci _ hc
  have hap := me_apart hts hin ty0 hty hnm hKc
  obtain ⟨hS', hfc, kC, hkC, hkind⟩ := hKc
  obtain ⟨cf, kf, fi, f, hi, hsl'⟩ := hS' j hj
  have hlay := hts _ (hin _ (u_in_lay hj))
  unfold u_lay at hlay
  rw [if_neg (by rw [hfin]; decide)] at hlay
  have hst := (u_facts hfc hkC (u_lays hts hin hj) hi).1
  have hnar : narrow (ty0 j) (.int v) = .int v := by
    rcases hty2 with ⟨e, -⟩ | ⟨e, rfl | rfl⟩ <;> rw [e] <;> rfl
  have hfit : fits (ty0 j) (.int v) = true := by
    rcases hty2 with ⟨e, -⟩ | ⟨e, rfl | rfl⟩ <;> rw [e] <;> rfl
  have h6 := u_store hfc hkC hkind hlay hi (hty j hj) hnar hfit
  refine W.putK hx hb (f := f) ⟨hfo, hts _ hl, ⟨_, _, _, (by rw [ho] at hi; exact hi)⟩, hst⟩ (by rw [q2]; exact h6) q1 q3 (by rw [hsl']; exact k2_hasslot (q4 j (by rw [hNf]; exact hj))) rfl rfl hdg fun H' e1 e2 e3 => ?_
  rw [hsl'] at e1 ⊢
  have hup : ∀ id', id' ≠ id → up mem id j v id' = mem id' := fun id' hne => by funext b; simp [up, hne]
  refine h lsA H' _ hL (hW.put hE hv ?_ hup e3 ?_) (hS.put e2 e3 (hA id hv))
  · unfold WR1
    rw [hk]
    refine t_OB.to (V := updV (me_sv E mem id) j (.int v)) ⟨_, e1, q2, q3, t_set (by rw [hNf] at q4 ⊢; exact q4) (by rw [hNf]; exact hap) (by rw [hNf]; exact hj) _⟩ (fun b _ => ?_)
    unfold updV me_sv
    by_cases hb' : b = j
    · subst hb'
      simp [hs, up]
    · simp [hb', up]
  · intro b hbo
    by_cases hb' : b = j
    · subst hb'
      rcases hty2 with ⟨-, e⟩ | ⟨-, e⟩
      · rw [hbo] at e; cases e
      · simpa [up] using e
    · have := hW.2 id b hv hbo
      simpa [up, hb'] using this
theorem e_iald (C : CK E X own cc nL ret dep) {id : ID} {n : Nat} (hk : me_kd id.1 = .inr (0, n)) (hv : vd id) {i : Int32} (hin : vp_in i n) (hdg : decode cc pc = .ok (.iaload, 1)) (h : G E X nL (pc + 1) ls (iv (mem id i.toNatClampNeg) :: st) mem) : G E X nL pc ls (iv i :: rv id :: st) mem := by
  obtain ⟨p, l, e, R, s, m, args, below, meth, c, cells, slots, QF, A, H0⟩ := X
  obtain ⟨hx, hb, hml, hfo, hts, hrt, hlk, hK, hA, hE, hfr, hlo, hce, hsl, hN⟩ := C
  intro lsA H locs hL hW hS
  have h1 := hW.1 id hv
  unfold WR1 at h1
  rw [hk] at h1
  exact va_iald (D := E.1) (cl := vwCl) (ws := [(E.2.1 id, .inl (E.2.2 0, n, .inl (mem id)))]) hx hb hK (me_P1 h1) 0 0 rfl rfl hin hdg (h lsA H locs hL hW hS)
theorem e_cald (C : CK E X own cc nL ret dep) {id : ID} {n : Nat} (hk : me_kd id.1 = .inr (1, n)) (hv : vd id) {i : Int32} (hin : vp_in i n) (hdg : decode cc pc = .ok (.caload, 1)) (h : G E X nL (pc + 1) ls (iv (mem id i.toNatClampNeg) :: st) mem) : G E X nL pc ls (iv i :: rv id :: st) mem := by
  obtain ⟨p, l, e, R, s, m, args, below, meth, c, cells, slots, QF, A, H0⟩ := X
  obtain ⟨hx, hb, hml, hfo, hts, hrt, hlk, hK, hA, hE, hfr, hlo, hce, hsl, hN⟩ := C
  intro lsA H locs hL hW hS
  have h1 := hW.1 id hv
  unfold WR1 at h1
  rw [hk] at h1
  exact va_cald (D := E.1) (cl := vwCl) (ws := [(E.2.1 id, .inl (E.2.2 1, n, .inl (mem id)))]) hx hb hK (me_P1 h1) 0 1 rfl rfl hin hdg (h lsA H locs hL hW hS)
theorem e_aald (C : CK E X own cc nL ret dep) {id r : ID} {n ty : Nat} {RC : String} (hk : me_kd id.1 = .inr (ty, n)) (hty : 2 ≤ ty) (ht : (tyE E)[ty]? = some (E.2.2 ty, .object RC)) (hv : vd id) {i : Int32} (hin : vp_in i n) (hr : me_sl id i.toNatClampNeg = some r) (hdg : decode cc pc = .ok (.aaload, 1)) (h : G E X nL (pc + 1) ls (rv r :: st) mem) : G E X nL pc ls (iv i :: rv id :: st) mem := by
  obtain ⟨p, l, e, R, s, m, args, below, meth, c, cells, slots, QF, A, H0⟩ := X
  obtain ⟨hx, hb, hml, hfo, hts, hrt, hlk, hK, hA, hE, hfr, hlo, hce, hsl, hN⟩ := C
  intro lsA H locs hL hW hS
  have h1 := hW.1 id hv
  unfold WR1 at h1
  rw [hk] at h1
  simp only [if_neg (Nat.not_lt.mpr hty)] at h1
  refine va_aldq (D := E.1) (cl := vwCl) (ws := [(E.2.1 id, .inl (E.2.2 ty, n, .inr (.inr (.inr (.inr fun j => (me_sl id j).map E.2.1)))))]) (C := RC) hx hb hK (me_P1 h1) 0 ty rfl ht hin hdg ?_
  have h2 := h lsA H locs hL hW hS
  rw [hr]
  exact h2
theorem e_alen (C : CK E X own cc nL ret dep) {id : ID} {n ty : Nat} {v : Int32} (hk : me_kd id.1 = .inr (ty, n)) (hty : ty < 5) (hv : vd id) (hn : Int32.ofNat n = v) (hdg : decode cc pc = .ok (.arraylength, 1)) (h : G E X nL (pc + 1) ls (iv v :: st) mem) : G E X nL pc ls (rv id :: st) mem := by
  obtain ⟨p, l, e, R, s, m, args, below, meth, c, cells, slots, QF, A, H0⟩ := X
  obtain ⟨hx, hb, hml, hfo, hts, hrt, hlk, hK, hA, hE, hfr, hlo, hce, hsl, hN⟩ := C
  intro lsA H locs hL hW hS
  have h1 := hW.1 id hv
  unfold WR1 at h1
  rw [hk] at h1
  have hq : ∃ z : FieldType, (tyE E)[ty]? = some (E.2.2 ty, z) := by
    have : ty = 0 ∨ ty = 1 ∨ ty = 2 ∨ ty = 3 ∨ ty = 4 := by omega
    rcases this with rfl | rfl | rfl | rfl | rfl <;> exact ⟨_, rfl⟩
  obtain ⟨z, hz⟩ := hq
  by_cases h2 : ty < 2
  · simp only [if_pos h2] at h1
    exact va_alen (D := E.1) (cl := vwCl) (ws := [(E.2.1 id, .inl (E.2.2 ty, n, .inl (mem id)))]) hx hb hK (me_P1 h1) 0 ty rfl hz hn hdg (h lsA H locs hL hW hS)
  · simp only [if_neg h2] at h1
    exact va_alen (D := E.1) (cl := vwCl) (ws := [(E.2.1 id, .inl (E.2.2 ty, n, .inr (.inr (.inr (.inr fun j => (me_sl id j).map E.2.1)))))]) hx hb hK (me_P1 h1) 0 ty rfl hz hn hdg (h lsA H locs hL hW hS)
theorem me_upd {id : ID} {j : Nat} {v : Int32} : up mem id j v id = upd (mem id) j v := by
  funext b
  simp [up, upd]
theorem e_iast (C : CK E X own cc nL ret dep) {id : ID} {n : Nat} (hk : me_kd id.1 = .inr (0, n)) (hv : vd id) {i x : Int32} (hin : vp_in i n) (hdg : decode cc pc = .ok (.iastore, 1)) (h : G E X nL (pc + 1) ls st (up mem id i.toNatClampNeg x)) : G E X nL pc ls (iv x :: iv i :: rv id :: st) mem := by
  obtain ⟨p, l, e, R, s, m, args, below, meth, c, cells, slots, QF, A, H0⟩ := X
  obtain ⟨hx, hb, hml, hfo, hts, hrt, hlk, hK, hA, hE, hfr, hlo, hce, hsl, hN⟩ := C
  intro lsA H locs hL hW hS
  have h1 := hW.1 id hv
  unfold WR1 at h1
  rw [hk] at h1
  have h1 : H[E.2.1 id]? = some (vp_cell (E.2.2 0) (n, .inl (mem id))) := h1
  refine W.iast hx hb h1 ((hK.2 0 _ rfl).1 n (fun j => .int (mem id j))) (fun q => by cases q) (by show ¬ (i < 0 ∨ (arrV _ _ _).slots.size ≤ _); rw [arrV_size]; exact hin) rfl rfl hdg fun H1 e z oq => ?_
  have hup : ∀ id', id' ≠ id → up mem id i.toNatClampNeg x id' = mem id' := fun id' hne => by funext b; simp [up, hne]
  refine h lsA H1 _ hL (hW.put hE hv ?_ hup oq ?_) (hS.put z oq (hA id hv))
  · unfold WR1
    rw [hk]
    show H1[_]? = some (vp_cell _ _)
    rw [e, vp_cell_i, vp_cell_i, arrV_store, me_upd]
    congr 2
    funext q
    by_cases hq : q = i.toNatClampNeg
    · subst hq
      simp [updV, upd]
    · simp [updV, upd, hq]
  · intro b hbo
    have h3 := me_bo_wd _ _ hbo
    have h4 : ∀ t b, me_bo t b = true → ∀ q, me_kd t ≠ .inr q := by
      intro t b hb' q
      unfold me_bo at hb'
      split at hb' <;> simp at hb' <;> simp [me_kd]
    exact absurd hk (h4 _ _ hbo _)
theorem e_cast (C : CK E X own cc nL ret dep) {id : ID} {n : Nat} (hk : me_kd id.1 = .inr (1, n)) (hv : vd id) {i x : Int32} (hin : vp_in i n) (hx0 : vp_nar .char x = x) (hdg : decode cc pc = .ok (.castore, 1)) (h : G E X nL (pc + 1) ls st (up mem id i.toNatClampNeg x)) : G E X nL pc ls (iv x :: iv i :: rv id :: st) mem := by
  obtain ⟨p, l, e, R, s, m, args, below, meth, c, cells, slots, QF, A, H0⟩ := X
  obtain ⟨hx, hb, hml, hfo, hts, hrt, hlk, hK, hA, hE, hfr, hlo, hce, hsl, hN⟩ := C
  intro lsA H locs hL hW hS
  have h1 := hW.1 id hv
  unfold WR1 at h1
  rw [hk] at h1
  have h1 : H[E.2.1 id]? = some (vp_cell (E.2.2 1) (n, .inl (mem id))) := h1
  refine W.cast hx hb h1 ((hK.2 1 _ rfl).1 n (fun j => .int (mem id j))) (fun q => by cases q) (by show ¬ (i < 0 ∨ (arrV _ _ _).slots.size ≤ _); rw [arrV_size]; exact hin) rfl rfl hdg fun H1 e z oq => ?_
  have hup : ∀ id', id' ≠ id → up mem id i.toNatClampNeg x id' = mem id' := fun id' hne => by funext b; simp [up, hne]
  refine h lsA H1 _ hL (hW.put hE hv ?_ hup oq ?_) (hS.put z oq (hA id hv))
  · unfold WR1
    rw [hk]
    show H1[_]? = some (vp_cell _ _)
    have e5 : narrow .char (.int x) = .int x := by
      have : narrow .char (.int x) = .int (vp_nar .char x) := rfl
      rw [this, hx0]
    rw [e, e5, vp_cell_i, vp_cell_i, arrV_store, me_upd]
    congr 2
    funext q
    by_cases hq : q = i.toNatClampNeg
    · subst hq
      simp [updV, upd]
    · simp [updV, upd, hq]
  · intro b hbo
    have h4 : ∀ t b, me_bo t b = true → ∀ q, me_kd t ≠ .inr q := by
      intro t b hb' q
      unfold me_bo at hb'
      split at hb' <;> simp at hb' <;> simp [me_kd]
    exact absurd hk (h4 _ _ hbo _)
theorem e_mem {m' : MEM} (hm : EqV mem m') (h : G E X nL pc ls st m') : G E X nL pc ls st mem := by
  obtain ⟨p, l, e, R, s, m, args, below, meth, c, cells, slots, QF, A, H0⟩ := X
  exact fun lsA H locs hL hW hS => h lsA H locs hL (hW.eqv hm (fun id j _ hb => me_bo_wd _ _ hb)) hS
theorem e_callV (C : CK E X own cc nL ret dep) {y2 : MethodName} {cc2 : ByteArray} {nL2 index ci N dep2 : Nat} {ret2 : Option FieldType} {RC : String} {T : u_T} {id : ID} {As rest : List VV} {Q1 : VV → MEM → Prop} (mi : MI y2 cc2 nL2 ret2 RC As.length) (mv : MV y2 RC) (ml : Cond.methodLink own index y2 ∈ BW) (hdg : decode cc pc = .ok (.invokevirtual index, 3)) (hst : st = As.reverse ++ rv id :: rest) (hM : Ct E X.2.1 y2 (me_ws y2 cc2 nL2 ret2) dep2 (rv id :: As) mem Q1) (hdep : dep2 + 1 ≤ dep) (hv : vd id) (hk : me_kd id.1 = .inl ci) (hc : vwCl[ci]? = some (RC, T, N)) (hrest : rest.length ≤ 8) (kk : ∀ r m', Q1 r m' → G E X nL (pc + 3) ls (rvl r ++ rest) m') : G E X nL pc ls st mem := by
  obtain ⟨p, l, e, R, s, m, args, below, meth, c, cells, slots, QF, A, H0⟩ := X
  obtain ⟨hx, hb, hml, hfo, hts, hrt, hlk, hK, hA, hE, hfr, hlo, hce, hsl, hN⟩ := C
  intro lsA H locs hL hW hS
  subst hst
  obtain ⟨mi1, mi2, mi3, mi4, mi5, mi6⟩ := mi
  have cb : CallB R s args own index y2 cc2 nL2 ret2 (me_ws y2 cc2 nL2 ret2) (me_rm dep2) 0 0 As.length := callB_of As.length hts (me_good ⟨mi1, mi2, mi3, mi4, mi5, mi6⟩) rfl rfl rfl (by rw [mi3]; exact hts _ mi2) (hts _ ml) mi4 ⟨by show dep2 + 1 ≤ _; omega, by show 8 + (nL2 + 11) + 36 * dep2 ≤ _; omega⟩
  have cw : CallW R s args own RC index y2 cc2 nL2 ret2 (me_ws y2 cc2 nL2 ret2) (me_rm dep2) 0 0 As.length := ⟨cb, hts _ mv.1, hts _ mv.2⟩
  have h1 := hW.1 id hv
  unfold WR1 at h1
  rw [hk] at h1
  obtain ⟨cell, q1, q2, q3, q4⟩ := h1
  have hr := va_runV (p := p) (l := l) (e := e) (below := below) (meth := meth) (cells := cells) (slots := slots) (locs := locs) (H := H) (g := F0 m pc lsA ((As.reverse ++ rv id :: rest).map (vv E))) (As := As.map (vv E)) (rest := rest.map (vv E)) (b := E.2.1 id) (Qc := QcW E Q1) ⟨hx, hb, hml, hfo, hts⟩ (hM hE) cw ⟨fun a U g mk q => ⟨q.1, q.2.1, va_K.moved (u := U) (U := U.calling g mk a) (Vm.Alike.refl U.vm) q.2.2.1, nest_same (u := U) rfl q.2.2.2⟩, ⟨cell, q1, by rw [q3]; rfl, by rw [q2]; exact (hK.1 ci _ hc).2.1⟩, fun U hU hWm => ⟨rfl, by rw [hU]; exact hW, va_K.moved hWm.alike hK, nest_warm hWm hN⟩⟩ rfl (by simp) hL.1 (by simp [vv, vvv]) (lv_room (by rw [vv_cats]; exact hrest)) hdg ⟨hce, hsl⟩
  exact me_after hr hS hA fun r m' hq H1 locs1 hW1 hS1 => kk r m' hq lsA H1 locs1 hL hW1 hS1
theorem e_callS (C : CK E X own cc nL ret dep) {y2 : MethodName} {cc2 : ByteArray} {nL2 index dep2 : Nat} {ret2 : Option FieldType} {RC : String} {As rest : List VV} {Q1 : VV → MEM → Prop} (mi : MI y2 cc2 nL2 ret2 RC As.length) (ms : Cond.static y2 ∈ BW) (ml : Cond.methodLink own index y2 ∈ BW) (hdg : decode cc pc = .ok (.invokestatic index, 3)) (hst : st = As.reverse ++ rest) (hM : Ct E X.2.1 y2 (me_ws y2 cc2 nL2 ret2) dep2 As mem Q1) (hdep : dep2 + 1 ≤ dep) (hrest : rest.length ≤ 8) (kk : ∀ r m', Q1 r m' → G E X nL (pc + 3) ls (rvl r ++ rest) m') : G E X nL pc ls st mem := by
  obtain ⟨p, l, e, R, s, m, args, below, meth, c, cells, slots, QF, A, H0⟩ := X
  obtain ⟨hx, hb, hml, hfo, hts, hrt, hlk, hK, hA, hE, hfr, hlo, hce, hsl, hN⟩ := C
  intro lsA H locs hL hW hS
  subst hst
  obtain ⟨mi1, mi2, mi3, mi4, mi5, mi6⟩ := mi
  have cb : CallB R s args own index y2 cc2 nL2 ret2 (me_ws y2 cc2 nL2 ret2) (me_rm dep2) 0 0 As.length := callB_of As.length hts (me_good ⟨mi1, mi2, mi3, mi4, mi5, mi6⟩) rfl rfl rfl (by rw [mi3]; exact hts _ mi2) (hts _ ml) mi4 ⟨by show dep2 + 1 ≤ _; omega, by show 8 + (nL2 + 11) + 36 * dep2 ≤ _; omega⟩
  have hr := va_runS (p := p) (l := l) (e := e) (below := below) (meth := meth) (cells := cells) (slots := slots) (locs := locs) (H := H) (g := F0 m pc lsA ((As.reverse ++ rest).map (vv E))) (As := As.map (vv E)) (rest := rest.map (vv E)) (Qc := QcW E Q1) ⟨hx, hb, hml, hfo, hts⟩ (hM hE) ⟨cb, hts _ ms⟩ ⟨fun a U g mk q => ⟨q.1, q.2.1, va_K.moved (u := U) (U := U.calling g mk a) (Vm.Alike.refl U.vm) q.2.2.1, nest_same (u := U) rfl q.2.2.2⟩, fun U hU hWm => ⟨rfl, by rw [hU]; exact hW, va_K.moved hWm.alike hK, nest_warm hWm hN⟩⟩ rfl (by simp) hL.1 (by simp) (lv_room (by rw [vv_cats]; exact hrest)) hdg ⟨hce, hsl⟩
  exact me_after hr hS hA fun r m' hq H1 locs1 hW1 hS1 => kk r m' hq lsA H1 locs1 hL hW1 hS1
theorem e_callN (C : CK E X own cc nL ret dep) {y2 : MethodName} {cc2 : ByteArray} {nL2 index dep2 : Nat} {ret2 : Option FieldType} {RC host : String} {As rest : List VV} {Q1 : VV → MEM → Prop} (mi : MI y2 cc2 nL2 ret2 RC As.length) (ms : Cond.static y2 ∈ BW) (ml : Cond.methodLinkNest own index y2 host ∈ nestWs) (hdg : decode cc pc = .ok (.invokestatic index, 3)) (hst : st = As.reverse ++ rest) (hM : Ct E X.2.1 y2 (me_ws y2 cc2 nL2 ret2) dep2 As mem Q1) (hdep : dep2 + 1 ≤ dep) (hrest : rest.length ≤ 8) (kk : ∀ r m', Q1 r m' → G E X nL (pc + 3) ls (rvl r ++ rest) m') : G E X nL pc ls st mem := by
  obtain ⟨p, l, e, R, s, m, args, below, meth, c, cells, slots, QF, A, H0⟩ := X
  obtain ⟨hx, hb, hml, hfo, hts, hrt, hlk, hK, hA, hE, hfr, hlo, hce, hsl, hN⟩ := C
  intro lsA H locs hL hW hS
  subst hst
  obtain ⟨mi1, mi2, mi3, mi4, mi5, mi6⟩ := mi
  have cb := va_cnB (R := R) (rm := me_rm dep2) (mc := 0) (ms := 0) As.length hts (me_good ⟨mi1, mi2, mi3, mi4, mi5, mi6⟩) rfl rfl rfl (hN _ ml) (by rw [mi3]; exact hts _ mi2) mi4 ⟨by show dep2 + 1 ≤ _; omega, by show 8 + (nL2 + 11) + 36 * dep2 ≤ _; omega⟩
  have hr := va_runSN (p := p) (l := l) (e := e) (below := below) (meth := meth) (cells := cells) (slots := slots) (locs := locs) (H := H) (g := F0 m pc lsA ((As.reverse ++ rest).map (vv E))) (As := As.map (vv E)) (rest := rest.map (vv E)) (Qc := QcW E Q1) ⟨hx, hb, hml, hfo, hts⟩ (hM hE) ⟨cb, hts _ ms, trivial⟩ ⟨fun a U g mk q => ⟨q.1, q.2.1, va_K.moved (u := U) (U := U.calling g mk a) (Vm.Alike.refl U.vm) q.2.2.1, nest_same (u := U) rfl q.2.2.2⟩, fun U hU hWm => ⟨rfl, by rw [hU]; exact hW, va_K.moved hWm.alike hK, nest_warm hWm hN⟩⟩ rfl (by simp) hL.1 (by simp) (lv_room (by rw [vv_cats]; exact hrest)) hdg ⟨hce, hsl⟩
  exact me_after hr hS hA fun r m' hq H1 locs1 hW1 hS1 => kk r m' hq lsA H1 locs1 hL hW1 hS1
theorem e_mmax (C : CK E X own cc nL ret dep) {index : Nat} {x y : Int32} (ml : Cond.methodLink own index Lib.Math.max.name ∈ BW) (hdg : decode cc pc = .ok (.invokestatic index, 3)) (hrest : st.length ≤ 8) (hdep : 1 ≤ dep) (h : G E X nL (pc + 3) ls (iv (if x < y then y else x) :: st) mem) : G E X nL pc ls (iv y :: iv x :: st) mem := by
  obtain ⟨p, l, e, R, s, m, args, below, meth, c, cells, slots, QF, A, H0⟩ := X
  obtain ⟨hx, hb, hml, hfo, hts, hrt, hlk, hK, hA, hE, hfr, hlo, hce, hsl, hN⟩ := C
  intro lsA H locs hL hW hS
  exact va_mmax hx hb (hml.trans hL.1.symm) hfo (hts _ ml) (hts _ b_st_Jmax) (hts _ b_in_J9) (hts _ b_co_Jmax) (by omega) (by rw [vv_cats]; omega) hce hsl hdg (h lsA H locs hL hW hS)
theorem e_mmin (C : CK E X own cc nL ret dep) {index : Nat} {x y : Int32} (ml : Cond.methodLink own index Lib.Math.min.name ∈ BW) (hdg : decode cc pc = .ok (.invokestatic index, 3)) (hrest : st.length ≤ 8) (hdep : 1 ≤ dep) (h : G E X nL (pc + 3) ls (iv (if y < x then y else x) :: st) mem) : G E X nL pc ls (iv y :: iv x :: st) mem := by
  obtain ⟨p, l, e, R, s, m, args, below, meth, c, cells, slots, QF, A, H0⟩ := X
  obtain ⟨hx, hb, hml, hfo, hts, hrt, hlk, hK, hA, hE, hfr, hlo, hce, hsl, hN⟩ := C
  intro lsA H locs hL hW hS
  exact va_mmin hx hb (hml.trans hL.1.symm) hfo (hts _ ml) (hts _ b_st_Jmin) (hts _ b_in_J9) (hts _ b_co_Jmin) (by omega) (by rw [vv_cats]; omega) hce hsl hdg (h lsA H locs hL hW hS)
theorem e_copy (C : CK E X own cc nL ret dep) {index n : Nat} {src dst : ID} {k : Int32} (hk0 : me_kd src.1 = .inr (0, n)) (hk1 : me_kd dst.1 = .inr (0, n)) (hv0 : vd src) (hv1 : vd dst) (hkn : k.toNatClampNeg = n) (hk2 : ¬ k < 0) (ml : Cond.methodLink own index arraycopyName ∈ BW) (hdg : decode cc pc = .ok (.invokestatic index, 3)) (hrest : st.length ≤ 8) (hdep : 1 ≤ dep) (h : G E X nL (pc + 3) ls st (cpc mem dst src)) : G E X nL pc ls (iv k :: iv 0 :: rv dst :: iv 0 :: rv src :: st) mem := by
  obtain ⟨p, l, e, R, s, m, args, below, meth, c, cells, slots, QF, A, H0⟩ := X
  obtain ⟨hx, hb, hml, hfo, hts, hrt, hlk, hK, hA, hE, hfr, hlo, hce, hsl, hN⟩ := C
  intro lsA H locs hL hW hS
  have h0 := hW.1 src hv0
  have h1 := hW.1 dst hv1
  unfold WR1 at h0 h1
  rw [hk0] at h0
  rw [hk1] at h1
  have h0 : H[E.2.1 src]? = some (vp_cell (E.2.2 0) (n, .inl (mem src))) := h0
  have h1 : H[E.2.1 dst]? = some (vp_cell (E.2.2 0) (n, .inl (mem dst))) := h1
  have nn : k.toInt = (k.toNatClampNeg : Int) := by
    have hz0 : (0 : Int) ≤ k.toInt := by
      have := Int32.not_lt.mp hk2
      simpa using Int32.le_iff_toInt_le.mp this
    show k.toInt = ((k.toInt.toNat : Nat) : Int)
    omega
  have z0 : (0 : Int32).toNatClampNeg = 0 := by decide
  have z17 : nativeFrameWords "java/lang/System" "arraycopy" 5 ≤ 17 := by decide +kernel
  intro T hT X
  obtain ⟨-, k0, hkk0, cm0, hkkk0⟩ := (hK.2 0 _ rfl).1 n (fun j => .int (mem src j))
  obtain ⟨-, k1, hkk1, cm1, hkkk1⟩ := (hK.2 0 _ rfl).1 n (fun j => .int (mem dst j))
  obtain ⟨vm', X', step⟩ := X.arraycopy hx hfo (hts _ ml) (hts _ b_na_arraycopyName) (hts _ b_st_arraycopyName) (hts _ b_in_J10) (src := E.2.1 src) (dst := E.2.1 dst) (cs := vp_cell (E.2.2 0) (n, .inl (mem src))) (cd := vp_cell (E.2.2 0) (n, .inl (mem dst))) (srcPos := 0) (destPos := 0) (n := k) (by rw [hT]; exact h0) (by rw [hT]; exact h1)
    (fun _ h => by cases h) (fun _ h => by cases h) (fun h => by cases h) (fun h => by cases h) hkk0 hkk1 hkkk0 hkkk1 (by simp [refKind]) (by decide) (by decide) hk2
    (by rw [nn]; show ¬ _ > ((arrV (E.2.2 0) n (fun j => .int (mem src j))).slots.size : Int); rw [arrV_size]; have : (0 : Int32).toInt = 0 := rfl; omega)
    (by rw [nn]; show ¬ _ > ((arrV (E.2.2 0) n (fun j => .int (mem dst j))).slots.size : Int); rw [arrV_size]; have : (0 : Int32).toInt = 0 := rfl; omega)
    (fun vm₁ _ i hi => by
      have e : (vp_cell (E.2.2 0) (n, .inl (mem src))).slots.getD ((0 : Int32).toNatClampNeg + i) .null = .int (mem src ((0 : Int32).toNatClampNeg + i)) := by
        show (arrV (E.2.2 0) n (fun j => .int (mem src j))).slots.getD _ _ = _
        rw [Array.getD_eq_getD_getElem?, arrV_read _ _ (by rw [z0]; omega)]
        rfl
      refine ⟨?_, ?_⟩
      · rw [e]
        rfl
      · rw [e]
        exact trivial)
    (g := F0 m pc lsA ((iv k :: iv 0 :: rv dst :: iv 0 :: rv src :: st).map (vv E))) rfl (by show lsA.size = _; rw [hml]; exact hL.1) (rest := st.map (vv E)) rfl (by rw [hb]; exact hdg) (by omega) (by show 2 * 0 + ((st.map (vv E)).map fun v => v.category).sum + _ ≤ _; rw [vv_cats]; omega)
  have e1 : copied (vp_cell (E.2.2 0) (n, .inl (mem src))) (vp_cell (E.2.2 0) (n, .inl (mem dst))) 0 0 k = vp_cell (E.2.2 0) (n, .inl (va_cpy (mem src) (mem dst) (0 : Int32).toNatClampNeg (0 : Int32).toNatClampNeg k.toNatClampNeg)) := va_copied (fun z => .int z) (E.2.2 0) (E.2.2 0) (mem src) (mem dst) (by rw [z0]; omega)
  have e2 : vp_cell (E.2.2 0) (n, .inl (va_cpy (mem src) (mem dst) (0 : Int32).toNatClampNeg (0 : Int32).toNatClampNeg k.toNatClampNeg)) = vp_cell (E.2.2 0) (n, .inl (mem src)) := me_vp_congr fun j hj => by
    rw [z0, hkn]
    simp [va_cpy, hj]
  rw [e1, e2] at X' step
  have hl : E.2.1 dst < H.size := (Array.getElem?_eq_some_iff.mp h1).1
  have hheap : ((T.setVm vm').setCell (E.2.1 dst) (vp_cell (E.2.2 0) (n, .inl (mem src)))).heap = H.setIfInBounds (E.2.1 dst) (vp_cell (E.2.2 0) (n, .inl (mem src))) := by rw [← hT]; rfl
  have oq : ∀ q : Nat, q ≠ E.2.1 dst → (H.setIfInBounds (E.2.1 dst) (vp_cell (E.2.2 0) (n, .inl (mem src))))[q]? = H[q]? := fun q hq => by simp [Array.getElem?_setIfInBounds, Ne.symm hq]
  have hup : ∀ id', id' ≠ dst → cpc mem dst src id' = mem id' := fun id' hne => by simp [cpc, hne]
  have hW' : WR E (cpc mem dst src) (H.setIfInBounds (E.2.1 dst) (vp_cell (E.2.2 0) (n, .inl (mem src)))) := by
    refine hW.put hE hv1 ?_ hup oq ?_
    · unfold WR1
      rw [hk1]
      show (H.setIfInBounds _ _)[_]? = some (vp_cell _ _)
      simp [Array.getElem?_setIfInBounds, hl, cpc]
    · intro b hbo
      have h4 : ∀ t b, me_bo t b = true → ∀ q, me_kd t ≠ .inr q := by
        intro t b hb' q
        unfold me_bo at hb'
        split at hb' <;> simp at hb' <;> simp [me_kd]
      exact absurd hk1 (h4 _ _ hbo _)
  obtain ⟨t, a1, b1⟩ := h lsA _ _ hL hW' ⟨by simp; exact hS.1, fun q g1 g2 => by
      rw [oq q (fun e => g2 (by rw [e]; exact hA dst hv1))]
      exact hS.2.1 q g1 g2, fun q hq => by
      rcases List.mem_append.mp hq with h | h
      · exact hS.2.2 q h
      · obtain ⟨z, -, hz⟩ := List.mem_map.mp h
        rw [← hz]
        exact hA dst hv1⟩ _ hheap X'
  exact ⟨t, step t a1, b1⟩
end ME
section MER
variable {E : EV} {X : CX} {own : String} {cc : ByteArray} {nL : Nat} {dep pc : Nat} {ls : List VV} {mem : MEM} {l : Launch} {Q : VV → MEM → Prop}
theorem e_iret (C : CK E X own cc nL (some .int) dep) (h : EX E X l Q) {v : Int32} (hdg : decode cc pc = .ok (.ireturn, 1)) (hq : Q (iv v) mem) : G E X nL pc ls [iv v] mem := by
  obtain ⟨p, l, e, R, s, m, args, below, meth, c, cells, slots, QF, A, H0⟩ := X
  obtain ⟨hx, hb, hml, hfo, hts, hrt, hlk, -⟩ := C
  obtain ⟨rfl, rfl, rfl, rfl⟩ := h
  intro lsA H locs hL hW hS
  exact W.iret hx hb hrt (fun t ht hWm => ⟨⟨iv v, mem, hq, rfl, by rw [ht]; exact hW⟩, hS.F ht⟩) hS.2.2 hdg hlk
theorem e_zret (C : CK E X own cc nL (some .boolean) dep) (h : EX E X l Q) {v : Int32} (hdg : decode cc pc = .ok (.ireturn, 1)) (hz : v = 0 ∨ v = 1) (hq : Q (iv v) mem) : G E X nL pc ls [iv v] mem := by
  obtain ⟨p, l, e, R, s, m, args, below, meth, c, cells, slots, QF, A, H0⟩ := X
  obtain ⟨hx, hb, hml, hfo, hts, hrt, hlk, -⟩ := C
  obtain ⟨rfl, rfl, rfl, rfl⟩ := h
  intro lsA H locs hL hW hS
  exact W.zret hx hb hrt (by rcases hz with rfl | rfl <;> rfl) (fun t ht hWm => ⟨⟨iv v, mem, hq, rfl, by rw [ht]; exact hW⟩, hS.F ht⟩) hS.2.2 hdg hlk
theorem e_aret {RC : String} (C : CK E X own cc nL (some (.object RC)) dep) (h : EX E X l Q) {o : Option ID} (hdg : decode cc pc = .ok (.areturn, 1)) (hq : Q (some (.inr o)) mem) : G E X nL pc ls [some (.inr o)] mem := by
  obtain ⟨p, l, e, R, s, m, args, below, meth, c, cells, slots, QF, A, H0⟩ := X
  obtain ⟨hx, hb, hml, hfo, hts, hrt, hlk, -⟩ := C
  obtain ⟨rfl, rfl, rfl, rfl⟩ := h
  intro lsA H locs hL hW hS
  exact W.aret hx hb hrt (Or.inl ⟨_, rfl⟩) (by rcases o with _ | i; exact Or.inl rfl; exact Or.inr ⟨_, rfl⟩) (fun t ht hWm => ⟨⟨some (.inr o), mem, hq, rfl, by rw [ht]; exact hW⟩, hS.F ht⟩) hS.2.2 hdg hlk
theorem e_vret (C : CK E X own cc nL none dep) (h : EX E X l Q) (hdg : decode cc pc = .ok (.return_, 1)) (hq : Q uv mem) : G E X nL pc ls [] mem := by
  obtain ⟨p, l, e, R, s, m, args, below, meth, c, cells, slots, QF, A, H0⟩ := X
  obtain ⟨hx, hb, hml, hfo, hts, hrt, hlk, -⟩ := C
  obtain ⟨rfl, rfl, rfl, rfl⟩ := h
  intro lsA H locs hL hW hS
  exact W.vret hx hb hrt (fun t ht hWm => ⟨⟨uv, mem, hq, rfl, by rw [ht]; exact hW⟩, hS.F ht⟩) hS.2.2 hdg hlk
end MER
theorem me_entry (E : EV) (args : List VV) (nL : Nat) (h : args.length ≤ nL) : LR E (((args.map (vv E)).map Slot.val ++ List.replicate (nL - (args.map (vv E)).length) Slot.unset).toArray) nL (args ++ List.replicate (nL - args.length) uv) := by
  have key : ∀ (i : Nat) (z : Slot), (((args.map (vv E)).map Slot.val ++ List.replicate (nL - (args.map (vv E)).length) Slot.unset).toArray)[i]? = some z → z = .unset ∨ ∃ x : VV, args[i]? = some x ∧ z = .val (vv E x) := by
    intro i z hz
    rw [List.getElem?_toArray] at hz
    by_cases hi : i < args.length
    · rw [List.getElem?_append_left (by simpa using hi)] at hz
      simp only [List.getElem?_map] at hz
      rw [List.getElem?_eq_getElem hi] at hz ⊢
      cases hz
      exact Or.inr ⟨_, rfl, rfl⟩
    · rw [List.getElem?_append_right (by simpa using hi)] at hz
      exact Or.inl (List.eq_of_mem_replicate (List.mem_of_getElem? hz))
  refine ⟨by simp; omega, ⟨fun i v hv hc => ?_, fun i hi => ?_⟩, fun i x hx => ?_⟩
  · rcases key i _ hv with h | ⟨x, -, h⟩
    · cases h
    · cases h
      rw [vv_cat] at hc
      cases hc
  · rcases key i _ hi with h | ⟨x, -, h⟩ <;> cases h
  · by_cases hi : i < args.length
    · rw [List.getElem?_append_left hi] at hx
      rw [List.getElem?_toArray, List.getElem?_append_left (by simpa using hi)]
      simp only [List.getElem?_map, hx]
      rfl
    · rw [List.getElem?_append_right (by omega)] at hx
      have := List.eq_of_mem_replicate (List.mem_of_getElem? hx)
      cases this
theorem Ct.of {E : EV} {l : Launch} {y : MethodName} {cc : ByteArray} {nL n dep : Nat} {ret : Option FieldType} {RC : String} {args ls0 : List VV} {mem : MEM} {Q : VV → MEM → Prop} (mi : MI y cc nL ret RC n) (hlen : args.length ≤ nL) (hls : args ++ List.replicate (nL - args.length) uv = ls0) (h : ∀ X, CK E X RC cc nL ret dep → EX E X l Q → G E X nL 0 ls0 [] mem) : Ct E l y (me_ws y cc nL ret) dep args mem Q := by
  intro hE
  subst hls
  obtain ⟨mi1, mi2, mi3, mi4, mi5, mi6⟩ := mi
  refine Met.ofWF (cc := cc) (maxL := nL) (ret := ret) mi6 rfl ?_
  intro p e s m args' below meth c s₁ B hml hv
  obtain ⟨rfl, hW, hK, hN⟩ := hv
  have hts := atoms_spec (ws := me_ws y cc nL ret) B.pre
  have hown := findClass_of_methodNamed B.named
  rw [mi3] at hown
  rw [entry_eq m (args.map (vv E)) (fun v hv => by obtain ⟨x, -, rfl⟩ := List.mem_map.mp hv; exact vv_cat E x) nL]
  exact h (p, l, e, (headSpec (me_ws y cc nL ret) (me_rm dep)).room, s, m, (args.map (vv E)).toArray, below, meth, c, 0, 0, MQ below (QcW E Q) (args.map (vv E)).toArray s 0 0 (AW E), AW E, s.heap)
    ⟨B.exec, B.bytes, hml, hown, fun w hw => hts w (List.mem_cons_of_mem _ hw), B.returns, B.notSynchronized, hK, fun id hid => ⟨id, hid, rfl⟩, hE, Nat.le_refl dep, Nat.le_refl (36 * dep), Nat.zero_le _, Nat.zero_le _, hN⟩ ⟨rfl, rfl, rfl, rfl⟩ _ s.heap [] (me_entry E args nL hlen) hW va_S.rf
end
section
/-! ===== handy forms of the engine's rows ===== -/
noncomputable def b2i (p : Prop) : Int32 := @ite Int32 p (Classical.propDecidable p) 1 0
theorem b2i_pos {p : Prop} (h : p) : b2i p = 1 := if_pos h
theorem b2i_neg {p : Prop} (h : ¬ p) : b2i p = 0 := if_neg h
theorem b2i_ne {p : Prop} : b2i p ≠ 0 ↔ p := by
  by_cases h : p
  · rw [b2i_pos h]; exact ⟨fun _ => h, fun _ => by decide⟩
  · rw [b2i_neg h]; exact ⟨fun q => absurd rfl q, fun q => absurd q h⟩
theorem b2i_eq {p : Prop} : b2i p = 0 ↔ ¬ p := by
  by_cases h : p
  · rw [b2i_pos h]; exact ⟨fun q => absurd q (by decide), fun q => absurd h q⟩
  · rw [b2i_neg h]; exact ⟨fun _ => h, fun _ => rfl⟩
theorem b2i_01 (p : Prop) : b2i p = 0 ∨ b2i p = 1 := by
  by_cases h : p
  · exact Or.inr (b2i_pos h)
  · exact Or.inl (b2i_neg h)
theorem b2i_congr {p q : Prop} (h : p ↔ q) : b2i p = b2i q := by rw [propext h]
theorem v0 : vd (0, 0, 0) := ⟨by decide, by decide⟩
theorem v12 : vd (12, 0, 0) := ⟨by decide, by decide⟩
theorem v13 : vd (13, 0, 0) := ⟨by decide, by decide⟩
theorem v14 : vd (14, 0, 0) := ⟨by decide, by decide⟩
theorem v15 : vd (15, 0, 0) := ⟨by decide, by decide⟩
theorem v16 : vd (16, 0, 0) := ⟨by decide, by decide⟩
theorem v17 : vd (17, 0, 0) := ⟨by decide, by decide⟩
theorem v18 : vd (18, 0, 0) := ⟨by decide, by decide⟩
theorem v19 : vd (19, 0, 0) := ⟨by decide, by decide⟩
theorem v20 : vd (20, 0, 0) := ⟨by decide, by decide⟩
theorem v21 : vd (21, 0, 0) := ⟨by decide, by decide⟩
theorem v22 : vd (22, 0, 0) := ⟨by decide, by decide⟩
theorem v1 {k : Nat} (h : k < 8) : vd (1, k, 0) := ⟨h, Nat.zero_lt_one⟩
theorem v2 {k : Nat} (h : k < 8) : vd (2, k, 0) := ⟨h, Nat.zero_lt_one⟩
theorem v3 {k : Nat} (h : k < 8) : vd (3, k, 0) := ⟨h, Nat.zero_lt_one⟩
theorem v4 {k : Nat} (h : k < 8) : vd (4, k, 0) := ⟨h, Nat.zero_lt_one⟩
theorem v5 {k : Nat} (h : k < 8) : vd (5, k, 0) := ⟨h, Nat.zero_lt_one⟩
theorem v6 {k : Nat} (h : k < 8) : vd (6, k, 0) := ⟨h, Nat.zero_lt_one⟩
theorem v7 {k : Nat} (h : k < 8) : vd (7, k, 0) := ⟨h, Nat.zero_lt_one⟩
theorem v8 {k r : Nat} (h : k < 8) (hr : r < 5) : vd (8, k, r) := ⟨h, hr⟩
theorem v9 {k r : Nat} (h : k < 8) (hr : r < 8) : vd (9, k, r) := ⟨h, hr⟩
theorem v10 {k r : Nat} (h : k < 8) (hr : r < 8) : vd (10, k, r) := ⟨h, hr⟩
theorem v11 {k r : Nat} (h : k < 8) (hr : r < 8) : vd (11, k, r) := ⟨h, hr⟩
def OptQ (P : ID → Prop) (N : Prop) (mem : MEM) : VV → MEM → Prop := fun r m => m = mem ∧ ((∃ i, P i ∧ r = rv i) ∨ (N ∧ r = nv))
theorem OptQ.yes {P : ID → Prop} {N : Prop} {mem : MEM} {i : ID} (h : P i) : OptQ P N mem (some (.inr (some i))) mem := ⟨rfl, Or.inl ⟨i, h, rfl⟩⟩
theorem OptQ.no {P : ID → Prop} {N : Prop} {mem : MEM} (h : N) : OptQ P N mem (some (.inr none)) mem := ⟨rfl, Or.inr ⟨h, rfl⟩⟩
section MH
variable {E : EV} {X : CX} {own : String} {cc : ByteArray} {nL : Nat} {ret : Option FieldType} {dep pc : Nat} {ls st : List VV} {mem : MEM}
theorem f_istore_n (C : CK E X own cc nL ret dep) {k : Fin 4} {x : Int32} {ls1 : List VV} (hdg : decode cc pc = .ok (.istore_n k, 1)) (hn : (k : Nat) < nL) (hs : ls.set (k : Nat) (iv x) = ls1) (h : G E X nL (pc + 1) ls1 st mem) : G E X nL pc ls (iv x :: st) mem := e_istore_n C hdg hn (hs ▸ h)
theorem f_istore (C : CK E X own cc nL ret dep) {k : Nat} {x : Int32} {ls1 : List VV} (hdg : decode cc pc = .ok (.istore k, 2)) (hn : k < nL) (hs : ls.set k (iv x) = ls1) (h : G E X nL (pc + 2) ls1 st mem) : G E X nL pc ls (iv x :: st) mem := e_istore C hdg hn (hs ▸ h)
theorem f_astore_n (C : CK E X own cc nL ret dep) {k : Fin 4} {x : ID} {ls1 : List VV} (hdg : decode cc pc = .ok (.astore_n k, 1)) (hn : (k : Nat) < nL) (hs : ls.set (k : Nat) (rv x) = ls1) (h : G E X nL (pc + 1) ls1 st mem) : G E X nL pc ls (rv x :: st) mem := e_astore_n C hdg hn (hs ▸ h)
theorem f_astore_nN (C : CK E X own cc nL ret dep) {k : Fin 4} {ls1 : List VV} (hdg : decode cc pc = .ok (.astore_n k, 1)) (hn : (k : Nat) < nL) (hs : ls.set (k : Nat) nv = ls1) (h : G E X nL (pc + 1) ls1 st mem) : G E X nL pc ls (nv :: st) mem := e_astore_nN C hdg hn (hs ▸ h)
theorem f_astore (C : CK E X own cc nL ret dep) {k : Nat} {x : ID} {ls1 : List VV} (hdg : decode cc pc = .ok (.astore k, 2)) (hn : k < nL) (hs : ls.set k (rv x) = ls1) (h : G E X nL (pc + 2) ls1 st mem) : G E X nL pc ls (rv x :: st) mem := e_astore C hdg hn (hs ▸ h)
theorem f_astoreN (C : CK E X own cc nL ret dep) {k : Nat} {ls1 : List VV} (hdg : decode cc pc = .ok (.astore k, 2)) (hn : k < nL) (hs : ls.set k nv = ls1) (h : G E X nL (pc + 2) ls1 st mem) : G E X nL pc ls (nv :: st) mem := e_astoreN C hdg hn (hs ▸ h)
theorem f_iinc (C : CK E X own cc nL ret dep) {k : Nat} {x : Int32} {ls1 : List VV} (hdg : decode cc pc = .ok (.iinc k 1, 3)) (hl : ls[k]? = some (iv x)) (hn : k < nL) (hs : ls.set k (iv (x + 1)) = ls1) (h : G E X nL (pc + 3) ls1 st mem) : G E X nL pc ls st mem := e_iinc C hdg hl rfl hn (hs ▸ h)
theorem f_iincn (C : CK E X own cc nL ret dep) {k i : Nat} {ls1 : List VV} (hdg : decode cc pc = .ok (.iinc k 1, 3)) (hl : ls[k]? = some (iv (nI i))) (hn : k < nL) (hs : ls.set k (iv (nI (i + 1))) = ls1) (h : G E X nL (pc + 3) ls1 st mem) : G E X nL pc ls st mem := e_iinc C hdg hl (nI_succ i).symm hn (hs ▸ h)
theorem f_idec (C : CK E X own cc nL ret dep) {k i : Nat} {ls1 : List VV} (hdg : decode cc pc = .ok (.iinc k (-1), 3)) (hl : ls[k]? = some (iv (nI (i + 1)))) (hn : k < nL) (hs : ls.set k (iv (nI i)) = ls1) (h : G E X nL (pc + 3) ls1 st mem) : G E X nL pc ls st mem := e_iinc C hdg hl (by rw [nI_succ]; show nI i + 1 + -1 = nI i; rw [Int32.add_assoc]; show nI i + 0 = nI i; exact Int32.add_zero _) hn (hs ▸ h)
theorem f_if_ne (C : CK E X own cc nL ret dep) {p : Prop} {off : Int} {tgt : Nat} (hdg : decode cc pc = .ok (.ifCond .ne off, 3)) (ht : (pc : Int) + off = (tgt : Int)) (kt : p → G E X nL tgt ls st mem) (kf : ¬ p → G E X nL (pc + 3) ls st mem) : G E X nL pc ls (iv (b2i p) :: st) mem := e_if_ne C hdg ht (fun q => kt (b2i_ne.mp q)) (fun q => kf (b2i_eq.mp q))
theorem f_if_eq (C : CK E X own cc nL ret dep) {p : Prop} {off : Int} {tgt : Nat} (hdg : decode cc pc = .ok (.ifCond .eq off, 3)) (ht : (pc : Int) + off = (tgt : Int)) (kt : ¬ p → G E X nL tgt ls st mem) (kf : p → G E X nL (pc + 3) ls st mem) : G E X nL pc ls (iv (b2i p) :: st) mem := e_if_eq C hdg ht (fun q => kt (b2i_eq.mp q)) (fun q => kf (b2i_ne.mp q))
theorem f_callVr (C : CK E X own cc nL ret dep) {y2 : MethodName} {cc2 : ByteArray} {nL2 index ci N dep2 : Nat} {ret2 : Option FieldType} {RC : String} {T : u_T} {id : ID} {As rest : List VV} {x : Int32 ⊕ Option ID} {m1 : MEM} (mi : MI y2 cc2 nL2 ret2 RC As.length) (mv : MV y2 RC) (ml : Cond.methodLink own index y2 ∈ BW) (hdg : decode cc pc = .ok (.invokevirtual index, 3)) (hst : st = As.reverse ++ rv id :: rest) (hM : Ct E X.2.1 y2 (me_ws y2 cc2 nL2 ret2) dep2 (rv id :: As) mem (Ret (some x) m1)) (hdep : dep2 + 1 ≤ dep) (hv : vd id) (hk : me_kd id.1 = .inl ci) (hc : vwCl[ci]? = some (RC, T, N)) (hrest : rest.length ≤ 8) (h : G E X nL (pc + 3) ls (some x :: rest) m1) : G E X nL pc ls st mem := e_callV C mi mv ml hdg hst hM hdep hv hk hc hrest (fun r m q => by obtain ⟨rfl, rfl⟩ := q; exact h)
theorem f_callVv (C : CK E X own cc nL ret dep) {y2 : MethodName} {cc2 : ByteArray} {nL2 index ci N dep2 : Nat} {ret2 : Option FieldType} {RC : String} {T : u_T} {id : ID} {As rest : List VV} {m1 : MEM} (mi : MI y2 cc2 nL2 ret2 RC As.length) (mv : MV y2 RC) (ml : Cond.methodLink own index y2 ∈ BW) (hdg : decode cc pc = .ok (.invokevirtual index, 3)) (hst : st = As.reverse ++ rv id :: rest) (hM : Ct E X.2.1 y2 (me_ws y2 cc2 nL2 ret2) dep2 (rv id :: As) mem (Ret uv m1)) (hdep : dep2 + 1 ≤ dep) (hv : vd id) (hk : me_kd id.1 = .inl ci) (hc : vwCl[ci]? = some (RC, T, N)) (hrest : rest.length ≤ 8) (h : G E X nL (pc + 3) ls rest m1) : G E X nL pc ls st mem := e_callV C mi mv ml hdg hst hM hdep hv hk hc hrest (fun r m q => by obtain ⟨rfl, rfl⟩ := q; exact h)
theorem f_callVo (C : CK E X own cc nL ret dep) {y2 : MethodName} {cc2 : ByteArray} {nL2 index ci N dep2 : Nat} {ret2 : Option FieldType} {RC : String} {T : u_T} {id : ID} {As rest : List VV} {P : ID → Prop} {Nn : Prop} (mi : MI y2 cc2 nL2 ret2 RC As.length) (mv : MV y2 RC) (ml : Cond.methodLink own index y2 ∈ BW) (hdg : decode cc pc = .ok (.invokevirtual index, 3)) (hst : st = As.reverse ++ rv id :: rest) (hM : Ct E X.2.1 y2 (me_ws y2 cc2 nL2 ret2) dep2 (rv id :: As) mem (OptQ P Nn mem)) (hdep : dep2 + 1 ≤ dep) (hv : vd id) (hk : me_kd id.1 = .inl ci) (hc : vwCl[ci]? = some (RC, T, N)) (hrest : rest.length ≤ 8) (h1 : ∀ i, P i → G E X nL (pc + 3) ls (rv i :: rest) mem) (h2 : Nn → G E X nL (pc + 3) ls (nv :: rest) mem) : G E X nL pc ls st mem := e_callV C mi mv ml hdg hst hM hdep hv hk hc hrest (fun r m q => by obtain ⟨rfl, ⟨i, hi, rfl⟩ | ⟨hi, rfl⟩⟩ := q; exact h1 i hi; exact h2 hi)
theorem f_callVi (C : CK E X own cc nL ret dep) {y2 : MethodName} {cc2 : ByteArray} {nL2 index ci N dep2 : Nat} {ret2 : Option FieldType} {RC : String} {T : u_T} {id : ID} {As rest : List VV} {P : Int32 → MEM → Prop} (mi : MI y2 cc2 nL2 ret2 RC As.length) (mv : MV y2 RC) (ml : Cond.methodLink own index y2 ∈ BW) (hdg : decode cc pc = .ok (.invokevirtual index, 3)) (hst : st = As.reverse ++ rv id :: rest) (hM : Ct E X.2.1 y2 (me_ws y2 cc2 nL2 ret2) dep2 (rv id :: As) mem (fun r m => ∃ x : Int32, r = iv x ∧ P x m)) (hdep : dep2 + 1 ≤ dep) (hv : vd id) (hk : me_kd id.1 = .inl ci) (hc : vwCl[ci]? = some (RC, T, N)) (hrest : rest.length ≤ 8) (h1 : ∀ (x : Int32) (m : MEM), P x m → G E X nL (pc + 3) ls (iv x :: rest) m) : G E X nL pc ls st mem := e_callV C mi mv ml hdg hst hM hdep hv hk hc hrest (fun r m q => by obtain ⟨x, rfl, hi⟩ := q; exact h1 x m hi)
theorem f_callVu (C : CK E X own cc nL ret dep) {y2 : MethodName} {cc2 : ByteArray} {nL2 index ci N dep2 : Nat} {ret2 : Option FieldType} {RC : String} {T : u_T} {id : ID} {As rest : List VV} {P : MEM → Prop} (mi : MI y2 cc2 nL2 ret2 RC As.length) (mv : MV y2 RC) (ml : Cond.methodLink own index y2 ∈ BW) (hdg : decode cc pc = .ok (.invokevirtual index, 3)) (hst : st = As.reverse ++ rv id :: rest) (hM : Ct E X.2.1 y2 (me_ws y2 cc2 nL2 ret2) dep2 (rv id :: As) mem (fun r m => r = uv ∧ P m)) (hdep : dep2 + 1 ≤ dep) (hv : vd id) (hk : me_kd id.1 = .inl ci) (hc : vwCl[ci]? = some (RC, T, N)) (hrest : rest.length ≤ 8) (h1 : ∀ (m : MEM), P m → G E X nL (pc + 3) ls rest m) : G E X nL pc ls st mem := e_callV C mi mv ml hdg hst hM hdep hv hk hc hrest (fun r m q => by obtain ⟨rfl, hi⟩ := q; exact h1 m hi)
theorem f_callSr (C : CK E X own cc nL ret dep) {y2 : MethodName} {cc2 : ByteArray} {nL2 index dep2 : Nat} {ret2 : Option FieldType} {RC : String} {As rest : List VV} {x : Int32 ⊕ Option ID} {m1 : MEM} (mi : MI y2 cc2 nL2 ret2 RC As.length) (ms : Cond.static y2 ∈ BW) (ml : Cond.methodLink own index y2 ∈ BW) (hdg : decode cc pc = .ok (.invokestatic index, 3)) (hst : st = As.reverse ++ rest) (hM : Ct E X.2.1 y2 (me_ws y2 cc2 nL2 ret2) dep2 As mem (Ret (some x) m1)) (hdep : dep2 + 1 ≤ dep) (hrest : rest.length ≤ 8) (h : G E X nL (pc + 3) ls (some x :: rest) m1) : G E X nL pc ls st mem := e_callS C mi ms ml hdg hst hM hdep hrest (fun r m q => by obtain ⟨rfl, rfl⟩ := q; exact h)
theorem f_callSv (C : CK E X own cc nL ret dep) {y2 : MethodName} {cc2 : ByteArray} {nL2 index dep2 : Nat} {ret2 : Option FieldType} {RC : String} {As rest : List VV} {m1 : MEM} (mi : MI y2 cc2 nL2 ret2 RC As.length) (ms : Cond.static y2 ∈ BW) (ml : Cond.methodLink own index y2 ∈ BW) (hdg : decode cc pc = .ok (.invokestatic index, 3)) (hst : st = As.reverse ++ rest) (hM : Ct E X.2.1 y2 (me_ws y2 cc2 nL2 ret2) dep2 As mem (Ret uv m1)) (hdep : dep2 + 1 ≤ dep) (hrest : rest.length ≤ 8) (h : G E X nL (pc + 3) ls rest m1) : G E X nL pc ls st mem := e_callS C mi ms ml hdg hst hM hdep hrest (fun r m q => by obtain ⟨rfl, rfl⟩ := q; exact h)
theorem f_callSo (C : CK E X own cc nL ret dep) {y2 : MethodName} {cc2 : ByteArray} {nL2 index dep2 : Nat} {ret2 : Option FieldType} {RC : String} {As rest : List VV} {P : ID → Prop} {Nn : Prop} (mi : MI y2 cc2 nL2 ret2 RC As.length) (ms : Cond.static y2 ∈ BW) (ml : Cond.methodLink own index y2 ∈ BW) (hdg : decode cc pc = .ok (.invokestatic index, 3)) (hst : st = As.reverse ++ rest) (hM : Ct E X.2.1 y2 (me_ws y2 cc2 nL2 ret2) dep2 As mem (OptQ P Nn mem)) (hdep : dep2 + 1 ≤ dep) (hrest : rest.length ≤ 8) (h1 : ∀ i, P i → G E X nL (pc + 3) ls (rv i :: rest) mem) (h2 : Nn → G E X nL (pc + 3) ls (nv :: rest) mem) : G E X nL pc ls st mem := e_callS C mi ms ml hdg hst hM hdep hrest (fun r m q => by obtain ⟨rfl, ⟨i, hi, rfl⟩ | ⟨hi, rfl⟩⟩ := q; exact h1 i hi; exact h2 hi)
theorem f_callSi (C : CK E X own cc nL ret dep) {y2 : MethodName} {cc2 : ByteArray} {nL2 index dep2 : Nat} {ret2 : Option FieldType} {RC : String} {As rest : List VV} {P : Int32 → MEM → Prop} (mi : MI y2 cc2 nL2 ret2 RC As.length) (ms : Cond.static y2 ∈ BW) (ml : Cond.methodLink own index y2 ∈ BW) (hdg : decode cc pc = .ok (.invokestatic index, 3)) (hst : st = As.reverse ++ rest) (hM : Ct E X.2.1 y2 (me_ws y2 cc2 nL2 ret2) dep2 As mem (fun r m => ∃ x : Int32, r = iv x ∧ P x m)) (hdep : dep2 + 1 ≤ dep) (hrest : rest.length ≤ 8) (h1 : ∀ (x : Int32) (m : MEM), P x m → G E X nL (pc + 3) ls (iv x :: rest) m) : G E X nL pc ls st mem := e_callS C mi ms ml hdg hst hM hdep hrest (fun r m q => by obtain ⟨x, rfl, hi⟩ := q; exact h1 x m hi)
theorem f_callSu (C : CK E X own cc nL ret dep) {y2 : MethodName} {cc2 : ByteArray} {nL2 index dep2 : Nat} {ret2 : Option FieldType} {RC : String} {As rest : List VV} {P : MEM → Prop} (mi : MI y2 cc2 nL2 ret2 RC As.length) (ms : Cond.static y2 ∈ BW) (ml : Cond.methodLink own index y2 ∈ BW) (hdg : decode cc pc = .ok (.invokestatic index, 3)) (hst : st = As.reverse ++ rest) (hM : Ct E X.2.1 y2 (me_ws y2 cc2 nL2 ret2) dep2 As mem (fun r m => r = uv ∧ P m)) (hdep : dep2 + 1 ≤ dep) (hrest : rest.length ≤ 8) (h1 : ∀ (m : MEM), P m → G E X nL (pc + 3) ls rest m) : G E X nL pc ls st mem := e_callS C mi ms ml hdg hst hM hdep hrest (fun r m q => by obtain ⟨rfl, hi⟩ := q; exact h1 m hi)
theorem f_callNr (C : CK E X own cc nL ret dep) {y2 : MethodName} {cc2 : ByteArray} {nL2 index dep2 : Nat} {ret2 : Option FieldType} {RC host : String} {As rest : List VV} {x : Int32 ⊕ Option ID} {m1 : MEM} (mi : MI y2 cc2 nL2 ret2 RC As.length) (ms : Cond.static y2 ∈ BW) (ml : Cond.methodLinkNest own index y2 host ∈ nestWs) (hdg : decode cc pc = .ok (.invokestatic index, 3)) (hst : st = As.reverse ++ rest) (hM : Ct E X.2.1 y2 (me_ws y2 cc2 nL2 ret2) dep2 As mem (Ret (some x) m1)) (hdep : dep2 + 1 ≤ dep) (hrest : rest.length ≤ 8) (h : G E X nL (pc + 3) ls (some x :: rest) m1) : G E X nL pc ls st mem := e_callN C mi ms ml hdg hst hM hdep hrest (fun r m q => by obtain ⟨rfl, rfl⟩ := q; exact h)
theorem f_callNv (C : CK E X own cc nL ret dep) {y2 : MethodName} {cc2 : ByteArray} {nL2 index dep2 : Nat} {ret2 : Option FieldType} {RC host : String} {As rest : List VV} {m1 : MEM} (mi : MI y2 cc2 nL2 ret2 RC As.length) (ms : Cond.static y2 ∈ BW) (ml : Cond.methodLinkNest own index y2 host ∈ nestWs) (hdg : decode cc pc = .ok (.invokestatic index, 3)) (hst : st = As.reverse ++ rest) (hM : Ct E X.2.1 y2 (me_ws y2 cc2 nL2 ret2) dep2 As mem (Ret uv m1)) (hdep : dep2 + 1 ≤ dep) (hrest : rest.length ≤ 8) (h : G E X nL (pc + 3) ls rest m1) : G E X nL pc ls st mem := e_callN C mi ms ml hdg hst hM hdep hrest (fun r m q => by obtain ⟨rfl, rfl⟩ := q; exact h)
theorem f_callNo (C : CK E X own cc nL ret dep) {y2 : MethodName} {cc2 : ByteArray} {nL2 index dep2 : Nat} {ret2 : Option FieldType} {RC host : String} {As rest : List VV} {P : ID → Prop} {Nn : Prop} (mi : MI y2 cc2 nL2 ret2 RC As.length) (ms : Cond.static y2 ∈ BW) (ml : Cond.methodLinkNest own index y2 host ∈ nestWs) (hdg : decode cc pc = .ok (.invokestatic index, 3)) (hst : st = As.reverse ++ rest) (hM : Ct E X.2.1 y2 (me_ws y2 cc2 nL2 ret2) dep2 As mem (OptQ P Nn mem)) (hdep : dep2 + 1 ≤ dep) (hrest : rest.length ≤ 8) (h1 : ∀ i, P i → G E X nL (pc + 3) ls (rv i :: rest) mem) (h2 : Nn → G E X nL (pc + 3) ls (nv :: rest) mem) : G E X nL pc ls st mem := e_callN C mi ms ml hdg hst hM hdep hrest (fun r m q => by obtain ⟨rfl, ⟨i, hi, rfl⟩ | ⟨hi, rfl⟩⟩ := q; exact h1 i hi; exact h2 hi)
theorem f_callNi (C : CK E X own cc nL ret dep) {y2 : MethodName} {cc2 : ByteArray} {nL2 index dep2 : Nat} {ret2 : Option FieldType} {RC host : String} {As rest : List VV} {P : Int32 → MEM → Prop} (mi : MI y2 cc2 nL2 ret2 RC As.length) (ms : Cond.static y2 ∈ BW) (ml : Cond.methodLinkNest own index y2 host ∈ nestWs) (hdg : decode cc pc = .ok (.invokestatic index, 3)) (hst : st = As.reverse ++ rest) (hM : Ct E X.2.1 y2 (me_ws y2 cc2 nL2 ret2) dep2 As mem (fun r m => ∃ x : Int32, r = iv x ∧ P x m)) (hdep : dep2 + 1 ≤ dep) (hrest : rest.length ≤ 8) (h1 : ∀ (x : Int32) (m : MEM), P x m → G E X nL (pc + 3) ls (iv x :: rest) m) : G E X nL pc ls st mem := e_callN C mi ms ml hdg hst hM hdep hrest (fun r m q => by obtain ⟨x, rfl, hi⟩ := q; exact h1 x m hi)
theorem f_callNu (C : CK E X own cc nL ret dep) {y2 : MethodName} {cc2 : ByteArray} {nL2 index dep2 : Nat} {ret2 : Option FieldType} {RC host : String} {As rest : List VV} {P : MEM → Prop} (mi : MI y2 cc2 nL2 ret2 RC As.length) (ms : Cond.static y2 ∈ BW) (ml : Cond.methodLinkNest own index y2 host ∈ nestWs) (hdg : decode cc pc = .ok (.invokestatic index, 3)) (hst : st = As.reverse ++ rest) (hM : Ct E X.2.1 y2 (me_ws y2 cc2 nL2 ret2) dep2 As mem (fun r m => r = uv ∧ P m)) (hdep : dep2 + 1 ≤ dep) (hrest : rest.length ≤ 8) (h1 : ∀ (m : MEM), P m → G E X nL (pc + 3) ls rest m) : G E X nL pc ls st mem := e_callN C mi ms ml hdg hst hM hdep hrest (fun r m q => by obtain ⟨rfl, hi⟩ := q; exact h1 m hi)
theorem e_getz (C : CK E X own cc nL ret dep) {id : ID} {ci N index : Nat} {RC : String} {T : u_T} (j : Nat) (hk : me_kd id.1 = .inl ci) (hc : vwCl[ci]? = some (RC, T, N)) (hNf : me_nf ci = N) (hj : j < N) (hin : ∀ w ∈ u_ws RC T N, w ∈ BW) (ho : (T j).1 = RC) (hl : Cond.fieldLink own index RC (T j).2.1 (T j).2.2.1 ∈ BW) (hv : vd id) (hs : me_sl id j = none) (hbo : me_bo id.1 j = true) (hdg : decode cc pc = .ok (.getfield index, 3)) (h : (mem id j = 0 ∨ mem id j = 1) → G E X nL (pc + 3) ls (iv (mem id j) :: st) mem) : G E X nL pc ls (rv id :: st) mem := e_bool j hv hbo (fun q => e_geti C j hk hc hNf hj hin ho hl hv hs hdg (h q))
theorem f_iald (C : CK E X own cc nL ret dep) {id : ID} {n : Nat} (hk : me_kd id.1 = .inr (0, n)) (hv : vd id) {j : Nat} (hj : j < n) (hn : n < 2 ^ 31) (hdg : decode cc pc = .ok (.iaload, 1)) (h : G E X nL (pc + 1) ls (iv (mem id j) :: st) mem) : G E X nL pc ls (iv (nI j) :: rv id :: st) mem :=
  e_iald C hk hv (nI_in hj hn) hdg (by rw [nI_clamp (Nat.lt_trans hj hn)]; exact h)
theorem f_cald (C : CK E X own cc nL ret dep) {id : ID} {n : Nat} (hk : me_kd id.1 = .inr (1, n)) (hv : vd id) {j : Nat} (hj : j < n) (hn : n < 2 ^ 31) (hdg : decode cc pc = .ok (.caload, 1)) (h : G E X nL (pc + 1) ls (iv (mem id j) :: st) mem) : G E X nL pc ls (iv (nI j) :: rv id :: st) mem :=
  e_cald C hk hv (nI_in hj hn) hdg (by rw [nI_clamp (Nat.lt_trans hj hn)]; exact h)
theorem f_iast (C : CK E X own cc nL ret dep) {id : ID} {n : Nat} (hk : me_kd id.1 = .inr (0, n)) (hv : vd id) {j : Nat} {x : Int32} (hj : j < n) (hn : n < 2 ^ 31) (hdg : decode cc pc = .ok (.iastore, 1)) (h : G E X nL (pc + 1) ls st (up mem id j x)) : G E X nL pc ls (iv x :: iv (nI j) :: rv id :: st) mem :=
  e_iast C hk hv (nI_in hj hn) hdg (by rw [nI_clamp (Nat.lt_trans hj hn)]; exact h)
theorem f_cast (C : CK E X own cc nL ret dep) {id : ID} {n : Nat} (hk : me_kd id.1 = .inr (1, n)) (hv : vd id) {j : Nat} {x : Int32} (hj : j < n) (hn : n < 2 ^ 31) (hx0 : vp_nar .char x = x) (hdg : decode cc pc = .ok (.castore, 1)) (h : G E X nL (pc + 1) ls st (up mem id j x)) : G E X nL pc ls (iv x :: iv (nI j) :: rv id :: st) mem :=
  e_cast C hk hv (nI_in hj hn) hx0 hdg (by rw [nI_clamp (Nat.lt_trans hj hn)]; exact h)
theorem f_aaldR (C : CK E X own cc nL ret dep) {k r : Nat} (hk : k < 8) (hr : r < 5) (hdg : decode cc pc = .ok (.aaload, 1)) (h : G E X nL (pc + 1) ls (rv (8, k, r) :: st) mem) : G E X nL pc ls (iv (nI r) :: rv (6, k, 0) :: st) mem :=
  e_aald (id := (6, k, 0)) (r := (8, k, r)) (n := 5) (ty := 2) (RC := "ReplicaSessions$Replica") C rfl (by decide) rfl (v6 hk) (nI_in hr (by decide)) (by rw [nI_clamp (Nat.lt_trans hr (by decide))]; rfl) hdg h
theorem f_aaldS (C : CK E X own cc nL ret dep) {k r : Nat} (hk : k < 8) (hr : r < 8) (hdg : decode cc pc = .ok (.aaload, 1)) (h : G E X nL (pc + 1) ls (rv (9, k, r) :: st) mem) : G E X nL pc ls (iv (nI r) :: rv (7, k, 0) :: st) mem :=
  e_aald (id := (7, k, 0)) (r := (9, k, r)) (n := 8) (ty := 3) (RC := "ReplicaSessions$Session") C rfl (by decide) rfl (v7 hk) (nI_in hr (by decide)) (by rw [nI_clamp (Nat.lt_trans hr (by decide))]; rfl) hdg h
theorem f_aaldH (C : CK E X own cc nL ret dep) {r : Nat} (hr : r < 6) (hdg : decode cc pc = .ok (.aaload, 1)) (h : G E X nL (pc + 1) ls (rv (1, r + 2, 0) :: st) mem) : G E X nL pc ls (iv (nI r) :: rv (13, 0, 0) :: st) mem :=
  e_aald (id := (13, 0, 0)) (r := (1, r + 2, 0)) (n := 6) (ty := 4) (RC := "ReplicaSessions$State") C rfl (by decide) rfl v13 (nI_in hr (by decide)) (by rw [nI_clamp (Nat.lt_trans hr (by decide))]; rfl) hdg h
end MH
section MHR
variable {E : EV} {X : CX} {own : String} {cc : ByteArray} {nL : Nat} {dep pc : Nat} {ls : List VV} {mem : MEM} {l : Launch} {Q : VV → MEM → Prop}
end MHR
theorem mi_yX6_init : MI yX6_init cX6_init 1 none RX6 0 := ⟨b_co_yX6_init, b_in_X6, rfl, ⟨by decide +kernel, by decide +kernel, by decide +kernel⟩, by decide, by decide +kernel⟩
theorem mi_yX4_init : MI yX4_init cX4_init 2 none RX4 0 := ⟨b_co_yX4_init, b_in_X4, rfl, ⟨by decide +kernel, by decide +kernel, by decide +kernel⟩, by decide, by decide +kernel⟩
theorem mi_yX1_init : MI yX1_init cX1_init 1 none RX1 0 := ⟨b_co_yX1_init, b_in_X1, rfl, ⟨by decide +kernel, by decide +kernel, by decide +kernel⟩, by decide, by decide +kernel⟩
theorem mi_yX2_init : MI yX2_init cX2_init 1 none RX2 0 := ⟨b_co_yX2_init, b_in_X2, rfl, ⟨by decide +kernel, by decide +kernel, by decide +kernel⟩, by decide, by decide +kernel⟩
theorem mi_yX3_init : MI yX3_init cX3_init 1 none RX3 0 := ⟨b_co_yX3_init, b_in_X3, rfl, ⟨by decide +kernel, by decide +kernel, by decide +kernel⟩, by decide, by decide +kernel⟩
theorem mi_yX0_init : MI yX0_init cX0_init 2 none RX0 0 := ⟨b_co_yX0_init, b_in_X0, rfl, ⟨by decide +kernel, by decide +kernel, by decide +kernel⟩, by decide, by decide +kernel⟩
theorem mi_yX5_init : MI yX5_init cX5_init 1 none RX5 0 := ⟨b_co_yX5_init, b_in_X5, rfl, ⟨by decide +kernel, by decide +kernel, by decide +kernel⟩, by decide, by decide +kernel⟩
theorem mi_yX6_addReplica : MI yX6_addReplica cX6_addReplica 3 (some .int) RX6 2 := ⟨b_co_yX6_addReplica, b_in_X6, rfl, ⟨by decide +kernel, by decide +kernel, by decide +kernel⟩, by decide, by decide +kernel⟩
theorem mv_yX6_addReplica : MV yX6_addReplica RX6 := ⟨b_in_yX6_addReplica, b_se_yX6_addReplica⟩
theorem mi_yX0_prepare : MI yX0_prepare cX0_prepare 3 none RX0 1 := ⟨b_co_yX0_prepare, b_in_X0, rfl, ⟨by decide +kernel, by decide +kernel, by decide +kernel⟩, by decide, by decide +kernel⟩
theorem mv_yX0_prepare : MV yX0_prepare RX0 := ⟨b_in_yX0_prepare, b_se_yX0_prepare⟩
theorem mi_yX0_stateAfterOldest : MI yX0_stateAfterOldest cX0_stateAfterOldest 2 (some (.object "ReplicaSessions$State")) RX0 1 := ⟨b_co_yX0_stateAfterOldest, b_in_X0, rfl, ⟨by decide +kernel, by decide +kernel, by decide +kernel⟩, by decide, by decide +kernel⟩
theorem mv_yX0_stateAfterOldest : MV yX0_stateAfterOldest RX0 := ⟨b_in_yX0_stateAfterOldest, b_se_yX0_stateAfterOldest⟩
theorem mi_yJ9_floorMod_7cf53 : MI yJ9_floorMod_7cf53 cJ9_floorMod_7cf53 3 (some .int) RJ9 2 := ⟨b_co_yJ9_floorMod_7cf53, b_in_J9, rfl, ⟨by decide +kernel, by decide +kernel, by decide +kernel⟩, by decide, by decide +kernel⟩
theorem mi_yX4_copyFrom : MI yX4_copyFrom cX4_copyFrom 5 none RX4 1 := ⟨b_co_yX4_copyFrom, b_in_X4, rfl, ⟨by decide +kernel, by decide +kernel, by decide +kernel⟩, by decide, by decide +kernel⟩
theorem mv_yX4_copyFrom : MV yX4_copyFrom RX4 := ⟨b_in_yX4_copyFrom, b_se_yX4_copyFrom⟩
theorem mi_yX1_copyFrom : MI yX1_copyFrom cX1_copyFrom 2 none RX1 1 := ⟨b_co_yX1_copyFrom, b_in_X1, rfl, ⟨by decide +kernel, by decide +kernel, by decide +kernel⟩, by decide, by decide +kernel⟩
theorem mv_yX1_copyFrom : MV yX1_copyFrom RX1 := ⟨b_in_yX1_copyFrom, b_se_yX1_copyFrom⟩
theorem mi_yX2_copyFrom : MI yX2_copyFrom cX2_copyFrom 2 none RX2 1 := ⟨b_co_yX2_copyFrom, b_in_X2, rfl, ⟨by decide +kernel, by decide +kernel, by decide +kernel⟩, by decide, by decide +kernel⟩
theorem mv_yX2_copyFrom : MV yX2_copyFrom RX2 := ⟨b_in_yX2_copyFrom, b_se_yX2_copyFrom⟩
theorem mi_yX3_copyFrom : MI yX3_copyFrom cX3_copyFrom 2 none RX3 1 := ⟨b_co_yX3_copyFrom, b_in_X3, rfl, ⟨by decide +kernel, by decide +kernel, by decide +kernel⟩, by decide, by decide +kernel⟩
theorem mv_yX3_copyFrom : MV yX3_copyFrom RX3 := ⟨b_in_yX3_copyFrom, b_se_yX3_copyFrom⟩
theorem mi_yX6_startReplica : MI yX6_startReplica cX6_startReplica 4 (some .int) RX6 2 := ⟨b_co_yX6_startReplica, b_in_X6, rfl, ⟨by decide +kernel, by decide +kernel, by decide +kernel⟩, by decide, by decide +kernel⟩
theorem mv_yX6_startReplica : MV yX6_startReplica RX6 := ⟨b_in_yX6_startReplica, b_se_yX6_startReplica⟩
theorem mi_yX4_positionOf : MI yX4_positionOf cX4_positionOf 3 (some .int) RX4 1 := ⟨b_co_yX4_positionOf, b_in_X4, rfl, ⟨by decide +kernel, by decide +kernel, by decide +kernel⟩, by decide, by decide +kernel⟩
theorem mv_yX4_positionOf : MV yX4_positionOf RX4 := ⟨b_in_yX4_positionOf, b_se_yX4_positionOf⟩
theorem mi_yX4_findReplica : MI yX4_findReplica cX4_findReplica 3 (some (.object "ReplicaSessions$Replica")) RX4 1 := ⟨b_co_yX4_findReplica, b_in_X4, rfl, ⟨by decide +kernel, by decide +kernel, by decide +kernel⟩, by decide, by decide +kernel⟩
theorem mv_yX4_findReplica : MV yX4_findReplica RX4 := ⟨b_in_yX4_findReplica, b_se_yX4_findReplica⟩
theorem mi_yX6_isWithin : MI yX6_isWithin cX6_isWithin 3 (some .boolean) RX6 3 := ⟨b_co_yX6_isWithin, b_in_X6, rfl, ⟨by decide +kernel, by decide +kernel, by decide +kernel⟩, by decide, by decide +kernel⟩
theorem mi_yX4_takeFreeReplica : MI yX4_takeFreeReplica cX4_takeFreeReplica 5 (some .int) RX4 2 := ⟨b_co_yX4_takeFreeReplica, b_in_X4, rfl, ⟨by decide +kernel, by decide +kernel, by decide +kernel⟩, by decide, by decide +kernel⟩
theorem mv_yX4_takeFreeReplica : MV yX4_takeFreeReplica RX4 := ⟨b_in_yX4_takeFreeReplica, b_se_yX4_takeFreeReplica⟩
theorem mi_yX2_begin : MI yX2_begin cX2_begin 3 none RX2 2 := ⟨b_co_yX2_begin, b_in_X2, rfl, ⟨by decide +kernel, by decide +kernel, by decide +kernel⟩, by decide, by decide +kernel⟩
theorem mv_yX2_begin : MV yX2_begin RX2 := ⟨b_in_yX2_begin, b_se_yX2_begin⟩
theorem mi_yX0_keepUnlessError : MI yX0_keepUnlessError cX0_keepUnlessError 2 (some .int) RX0 1 := ⟨b_co_yX0_keepUnlessError, b_in_X0, rfl, ⟨by decide +kernel, by decide +kernel, by decide +kernel⟩, by decide, by decide +kernel⟩
theorem mv_yX0_keepUnlessError : MV yX0_keepUnlessError RX0 := ⟨b_in_yX0_keepUnlessError, b_se_yX0_keepUnlessError⟩
theorem mi_yX6_isError : MI yX6_isError cX6_isError 1 (some .boolean) RX6 1 := ⟨b_co_yX6_isError, b_in_X6, rfl, ⟨by decide +kernel, by decide +kernel, by decide +kernel⟩, by decide, by decide +kernel⟩
theorem mi_yX6_drop : MI yX6_drop cX6_drop 2 (some .int) RX6 1 := ⟨b_co_yX6_drop, b_in_X6, rfl, ⟨by decide +kernel, by decide +kernel, by decide +kernel⟩, by decide, by decide +kernel⟩
theorem mv_yX6_drop : MV yX6_drop RX6 := ⟨b_in_yX6_drop, b_se_yX6_drop⟩
theorem mi_yX6_removeReplica : MI yX6_removeReplica cX6_removeReplica 3 (some .int) RX6 1 := ⟨b_co_yX6_removeReplica, b_in_X6, rfl, ⟨by decide +kernel, by decide +kernel, by decide +kernel⟩, by decide, by decide +kernel⟩
theorem mv_yX6_removeReplica : MV yX6_removeReplica RX6 := ⟨b_in_yX6_removeReplica, b_se_yX6_removeReplica⟩
theorem mi_yX4_sendSessionsToPrimary : MI yX4_sendSessionsToPrimary cX4_sendSessionsToPrimary 5 (some .int) RX4 1 := ⟨b_co_yX4_sendSessionsToPrimary, b_in_X4, rfl, ⟨by decide +kernel, by decide +kernel, by decide +kernel⟩, by decide, by decide +kernel⟩
theorem mv_yX4_sendSessionsToPrimary : MV yX4_sendSessionsToPrimary RX4 := ⟨b_in_yX4_sendSessionsToPrimary, b_se_yX4_sendSessionsToPrimary⟩
theorem mi_yX4_findSession : MI yX4_findSession cX4_findSession 3 (some (.object "ReplicaSessions$Session")) RX4 1 := ⟨b_co_yX4_findSession, b_in_X4, rfl, ⟨by decide +kernel, by decide +kernel, by decide +kernel⟩, by decide, by decide +kernel⟩
theorem mv_yX4_findSession : MV yX4_findSession RX4 := ⟨b_in_yX4_findSession, b_se_yX4_findSession⟩
theorem mi_yX6_setRate : MI yX6_setRate cX6_setRate 3 (some .int) RX6 2 := ⟨b_co_yX6_setRate, b_in_X6, rfl, ⟨by decide +kernel, by decide +kernel, by decide +kernel⟩, by decide, by decide +kernel⟩
theorem mv_yX6_setRate : MV yX6_setRate RX6 := ⟨b_in_yX6_setRate, b_se_yX6_setRate⟩
theorem mi_yX6_changeRate : MI yX6_changeRate cX6_changeRate 5 (some .int) RX6 2 := ⟨b_co_yX6_changeRate, b_in_X6, rfl, ⟨by decide +kernel, by decide +kernel, by decide +kernel⟩, by decide, by decide +kernel⟩
theorem mv_yX6_changeRate : MV yX6_changeRate RX6 := ⟨b_in_yX6_changeRate, b_se_yX6_changeRate⟩
theorem mi_yX6_stop : MI yX6_stop cX6_stop 3 (some .int) RX6 2 := ⟨b_co_yX6_stop, b_in_X6, rfl, ⟨by decide +kernel, by decide +kernel, by decide +kernel⟩, by decide, by decide +kernel⟩
theorem mv_yX6_stop : MV yX6_stop RX6 := ⟨b_in_yX6_stop, b_se_yX6_stop⟩
theorem mi_yX6_changeStopped : MI yX6_changeStopped cX6_changeStopped 5 (some .int) RX6 2 := ⟨b_co_yX6_changeStopped, b_in_X6, rfl, ⟨by decide +kernel, by decide +kernel, by decide +kernel⟩, by decide, by decide +kernel⟩
theorem mv_yX6_changeStopped : MV yX6_changeStopped RX6 := ⟨b_in_yX6_changeStopped, b_se_yX6_changeStopped⟩
theorem mi_yX6_jumpBack : MI yX6_jumpBack cX6_jumpBack 3 (some .int) RX6 2 := ⟨b_co_yX6_jumpBack, b_in_X6, rfl, ⟨by decide +kernel, by decide +kernel, by decide +kernel⟩, by decide, by decide +kernel⟩
theorem mv_yX6_jumpBack : MV yX6_jumpBack RX6 := ⟨b_in_yX6_jumpBack, b_se_yX6_jumpBack⟩
theorem mi_yX6_setBack : MI yX6_setBack cX6_setBack 5 (some .int) RX6 2 := ⟨b_co_yX6_setBack, b_in_X6, rfl, ⟨by decide +kernel, by decide +kernel, by decide +kernel⟩, by decide, by decide +kernel⟩
theorem mv_yX6_setBack : MV yX6_setBack RX6 := ⟨b_in_yX6_setBack, b_se_yX6_setBack⟩
theorem mi_yX6_tick : MI yX6_tick cX6_tick 2 (some .int) RX6 1 := ⟨b_co_yX6_tick, b_in_X6, rfl, ⟨by decide +kernel, by decide +kernel, by decide +kernel⟩, by decide, by decide +kernel⟩
theorem mv_yX6_tick : MV yX6_tick RX6 := ⟨b_in_yX6_tick, b_se_yX6_tick⟩
theorem mi_yX6_letTicksPass : MI yX6_letTicksPass cX6_letTicksPass 2 (some .int) RX6 1 := ⟨b_co_yX6_letTicksPass, b_in_X6, rfl, ⟨by decide +kernel, by decide +kernel, by decide +kernel⟩, by decide, by decide +kernel⟩
theorem mv_yX6_letTicksPass : MV yX6_letTicksPass RX6 := ⟨b_in_yX6_letTicksPass, b_se_yX6_letTicksPass⟩
theorem mi_yX4_passTicks : MI yX4_passTicks cX4_passTicks 4 none RX4 1 := ⟨b_co_yX4_passTicks, b_in_X4, rfl, ⟨by decide +kernel, by decide +kernel, by decide +kernel⟩, by decide, by decide +kernel⟩
theorem mv_yX4_passTicks : MV yX4_passTicks RX4 := ⟨b_in_yX4_passTicks, b_se_yX4_passTicks⟩
theorem mi_yX2_passTicks : MI yX2_passTicks cX2_passTicks 3 none RX2 2 := ⟨b_co_yX2_passTicks, b_in_X2, rfl, ⟨by decide +kernel, by decide +kernel, by decide +kernel⟩, by decide, by decide +kernel⟩
theorem mv_yX2_passTicks : MV yX2_passTicks RX2 := ⟨b_in_yX2_passTicks, b_se_yX2_passTicks⟩
theorem mi_yX4_countCaughtUp : MI yX4_countCaughtUp cX4_countCaughtUp 4 (some .int) RX4 0 := ⟨b_co_yX4_countCaughtUp, b_in_X4, rfl, ⟨by decide +kernel, by decide +kernel, by decide +kernel⟩, by decide, by decide +kernel⟩
theorem mv_yX4_countCaughtUp : MV yX4_countCaughtUp RX4 := ⟨b_in_yX4_countCaughtUp, b_se_yX4_countCaughtUp⟩
theorem mi_yX6_replicas : MI yX6_replicas cX6_replicas 1 (some .int) RX6 0 := ⟨b_co_yX6_replicas, b_in_X6, rfl, ⟨by decide +kernel, by decide +kernel, by decide +kernel⟩, by decide, by decide +kernel⟩
theorem mv_yX6_replicas : MV yX6_replicas RX6 := ⟨b_in_yX6_replicas, b_se_yX6_replicas⟩
theorem mi_yX4_replicaMask : MI yX4_replicaMask cX4_replicaMask 3 (some .int) RX4 0 := ⟨b_co_yX4_replicaMask, b_in_X4, rfl, ⟨by decide +kernel, by decide +kernel, by decide +kernel⟩, by decide, by decide +kernel⟩
theorem mv_yX4_replicaMask : MV yX4_replicaMask RX4 := ⟨b_in_yX4_replicaMask, b_se_yX4_replicaMask⟩
theorem mi_yX6_replica : MI yX6_replica cX6_replica 4 (some .int) RX6 2 := ⟨b_co_yX6_replica, b_in_X6, rfl, ⟨by decide +kernel, by decide +kernel, by decide +kernel⟩, by decide, by decide +kernel⟩
theorem mv_yX6_replica : MV yX6_replica RX6 := ⟨b_in_yX6_replica, b_se_yX6_replica⟩
theorem mi_yX4_countSessionsAt : MI yX4_countSessionsAt cX4_countSessionsAt 5 (some .int) RX4 1 := ⟨b_co_yX4_countSessionsAt, b_in_X4, rfl, ⟨by decide +kernel, by decide +kernel, by decide +kernel⟩, by decide, by decide +kernel⟩
theorem mv_yX4_countSessionsAt : MV yX4_countSessionsAt RX4 := ⟨b_in_yX4_countSessionsAt, b_se_yX4_countSessionsAt⟩
theorem mi_yX6_length : MI yX6_length cX6_length 1 (some .int) RX6 0 := ⟨b_co_yX6_length, b_in_X6, rfl, ⟨by decide +kernel, by decide +kernel, by decide +kernel⟩, by decide, by decide +kernel⟩
theorem mv_yX6_length : MV yX6_length RX6 := ⟨b_in_yX6_length, b_se_yX6_length⟩
theorem mi_yX6_logged : MI yX6_logged cX6_logged 3 (some .int) RX6 2 := ⟨b_co_yX6_logged, b_in_X6, rfl, ⟨by decide +kernel, by decide +kernel, by decide +kernel⟩, by decide, by decide +kernel⟩
theorem mv_yX6_logged : MV yX6_logged RX6 := ⟨b_in_yX6_logged, b_se_yX6_logged⟩
theorem mi_yX1_contains : MI yX1_contains cX1_contains 2 (some .boolean) RX1 1 := ⟨b_co_yX1_contains, b_in_X1, rfl, ⟨by decide +kernel, by decide +kernel, by decide +kernel⟩, by decide, by decide +kernel⟩
theorem mv_yX1_contains : MV yX1_contains RX1 := ⟨b_in_yX1_contains, b_se_yX1_contains⟩
theorem mi_yX1_keyOf : MI yX1_keyOf cX1_keyOf 2 (some .int) RX1 1 := ⟨b_co_yX1_keyOf, b_in_X1, rfl, ⟨by decide +kernel, by decide +kernel, by decide +kernel⟩, by decide, by decide +kernel⟩
theorem mv_yX1_keyOf : MV yX1_keyOf RX1 := ⟨b_in_yX1_keyOf, b_se_yX1_keyOf⟩
theorem mi_yX1_valueOf : MI yX1_valueOf cX1_valueOf 2 (some .int) RX1 1 := ⟨b_co_yX1_valueOf, b_in_X1, rfl, ⟨by decide +kernel, by decide +kernel, by decide +kernel⟩, by decide, by decide +kernel⟩
theorem mv_yX1_valueOf : MV yX1_valueOf RX1 := ⟨b_in_yX1_valueOf, b_se_yX1_valueOf⟩
theorem mi_yX1_writerOf : MI yX1_writerOf cX1_writerOf 2 (some .int) RX1 1 := ⟨b_co_yX1_writerOf, b_in_X1, rfl, ⟨by decide +kernel, by decide +kernel, by decide +kernel⟩, by decide, by decide +kernel⟩
theorem mv_yX1_writerOf : MV yX1_writerOf RX1 := ⟨b_in_yX1_writerOf, b_se_yX1_writerOf⟩
theorem mi_yX6_position : MI yX6_position cX6_position 2 (some .int) RX6 1 := ⟨b_co_yX6_position, b_in_X6, rfl, ⟨by decide +kernel, by decide +kernel, by decide +kernel⟩, by decide, by decide +kernel⟩
theorem mv_yX6_position : MV yX6_position RX6 := ⟨b_in_yX6_position, b_se_yX6_position⟩
theorem mi_yX6_version : MI yX6_version cX6_version 3 (some .int) RX6 2 := ⟨b_co_yX6_version, b_in_X6, rfl, ⟨by decide +kernel, by decide +kernel, by decide +kernel⟩, by decide, by decide +kernel⟩
theorem mv_yX6_version : MV yX6_version RX6 := ⟨b_in_yX6_version, b_se_yX6_version⟩
theorem mi_yX4_hasPlace : MI yX4_hasPlace cX4_hasPlace 2 (some .boolean) RX4 1 := ⟨b_co_yX4_hasPlace, b_in_X4, rfl, ⟨by decide +kernel, by decide +kernel, by decide +kernel⟩, by decide, by decide +kernel⟩
theorem mv_yX4_hasPlace : MV yX4_hasPlace RX4 := ⟨b_in_yX4_hasPlace, b_se_yX4_hasPlace⟩
theorem mi_yX6_isKey : MI yX6_isKey cX6_isKey 1 (some .boolean) RX6 1 := ⟨b_co_yX6_isKey, b_in_X6, rfl, ⟨by decide +kernel, by decide +kernel, by decide +kernel⟩, by decide, by decide +kernel⟩
theorem mi_yX1_versionAt : MI yX1_versionAt cX1_versionAt 4 (some .int) RX1 2 := ⟨b_co_yX1_versionAt, b_in_X1, rfl, ⟨by decide +kernel, by decide +kernel, by decide +kernel⟩, by decide, by decide +kernel⟩
theorem mv_yX1_versionAt : MV yX1_versionAt RX1 := ⟨b_in_yX1_versionAt, b_se_yX1_versionAt⟩
theorem mi_yX6_value : MI yX6_value cX6_value 3 (some .int) RX6 2 := ⟨b_co_yX6_value, b_in_X6, rfl, ⟨by decide +kernel, by decide +kernel, by decide +kernel⟩, by decide, by decide +kernel⟩
theorem mv_yX6_value : MV yX6_value RX6 := ⟨b_in_yX6_value, b_se_yX6_value⟩
theorem mi_yX6_missing : MI yX6_missing cX6_missing 3 (some .int) RX6 2 := ⟨b_co_yX6_missing, b_in_X6, rfl, ⟨by decide +kernel, by decide +kernel, by decide +kernel⟩, by decide, by decide +kernel⟩
theorem mv_yX6_missing : MV yX6_missing RX6 := ⟨b_in_yX6_missing, b_se_yX6_missing⟩
theorem mi_yX1_countAfter : MI yX1_countAfter cX1_countAfter 5 (some .int) RX1 2 := ⟨b_co_yX1_countAfter, b_in_X1, rfl, ⟨by decide +kernel, by decide +kernel, by decide +kernel⟩, by decide, by decide +kernel⟩
theorem mv_yX1_countAfter : MV yX1_countAfter RX1 := ⟨b_in_yX1_countAfter, b_se_yX1_countAfter⟩
theorem mi_yX6_answers : MI yX6_answers cX6_answers 3 (some .int) RX6 1 := ⟨b_co_yX6_answers, b_in_X6, rfl, ⟨by decide +kernel, by decide +kernel, by decide +kernel⟩, by decide, by decide +kernel⟩
theorem mv_yX6_answers : MV yX6_answers RX6 := ⟨b_in_yX6_answers, b_se_yX6_answers⟩
theorem mi_yX6_open : MI yX6_open cX6_open 4 (some .int) RX6 3 := ⟨b_co_yX6_open, b_in_X6, rfl, ⟨by decide +kernel, by decide +kernel, by decide +kernel⟩, by decide, by decide +kernel⟩
theorem mv_yX6_open : MV yX6_open RX6 := ⟨b_in_yX6_open, b_se_yX6_open⟩
theorem mi_yX6_startSession : MI yX6_startSession cX6_startSession 4 (some .int) RX6 3 := ⟨b_co_yX6_startSession, b_in_X6, rfl, ⟨by decide +kernel, by decide +kernel, by decide +kernel⟩, by decide, by decide +kernel⟩
theorem mv_yX6_startSession : MV yX6_startSession RX6 := ⟨b_in_yX6_startSession, b_se_yX6_startSession⟩
theorem mi_yX4_takeFreeSession : MI yX4_takeFreeSession cX4_takeFreeSession 6 (some .int) RX4 3 := ⟨b_co_yX4_takeFreeSession, b_in_X4, rfl, ⟨by decide +kernel, by decide +kernel, by decide +kernel⟩, by decide, by decide +kernel⟩
theorem mv_yX4_takeFreeSession : MV yX4_takeFreeSession RX4 := ⟨b_in_yX4_takeFreeSession, b_se_yX4_takeFreeSession⟩
theorem mi_yX3_begin : MI yX3_begin cX3_begin 4 none RX3 3 := ⟨b_co_yX3_begin, b_in_X3, rfl, ⟨by decide +kernel, by decide +kernel, by decide +kernel⟩, by decide, by decide +kernel⟩
theorem mv_yX3_begin : MV yX3_begin RX3 := ⟨b_in_yX3_begin, b_se_yX3_begin⟩
theorem mi_yJ7_fill_53178 : MI yJ7_fill_53178 cJ7_fill_53178 4 none RJ7 2 := ⟨b_co_yJ7_fill_53178, b_in_J7, rfl, ⟨by decide +kernel, by decide +kernel, by decide +kernel⟩, by decide, by decide +kernel⟩
theorem mi_yX6_close : MI yX6_close cX6_close 2 (some .int) RX6 1 := ⟨b_co_yX6_close, b_in_X6, rfl, ⟨by decide +kernel, by decide +kernel, by decide +kernel⟩, by decide, by decide +kernel⟩
theorem mv_yX6_close : MV yX6_close RX6 := ⟨b_in_yX6_close, b_se_yX6_close⟩
theorem mi_yX6_endSession : MI yX6_endSession cX6_endSession 3 (some .int) RX6 1 := ⟨b_co_yX6_endSession, b_in_X6, rfl, ⟨by decide +kernel, by decide +kernel, by decide +kernel⟩, by decide, by decide +kernel⟩
theorem mv_yX6_endSession : MV yX6_endSession RX6 := ⟨b_in_yX6_endSession, b_se_yX6_endSession⟩
theorem mi_yX6_move : MI yX6_move cX6_move 3 (some .int) RX6 2 := ⟨b_co_yX6_move, b_in_X6, rfl, ⟨by decide +kernel, by decide +kernel, by decide +kernel⟩, by decide, by decide +kernel⟩
theorem mv_yX6_move : MV yX6_move RX6 := ⟨b_in_yX6_move, b_se_yX6_move⟩
theorem mi_yX6_changeHome : MI yX6_changeHome cX6_changeHome 5 (some .int) RX6 2 := ⟨b_co_yX6_changeHome, b_in_X6, rfl, ⟨by decide +kernel, by decide +kernel, by decide +kernel⟩, by decide, by decide +kernel⟩
theorem mv_yX6_changeHome : MV yX6_changeHome RX6 := ⟨b_in_yX6_changeHome, b_se_yX6_changeHome⟩
theorem mi_yX6_change : MI yX6_change cX6_change 4 (some .int) RX6 3 := ⟨b_co_yX6_change, b_in_X6, rfl, ⟨by decide +kernel, by decide +kernel, by decide +kernel⟩, by decide, by decide +kernel⟩
theorem mv_yX6_change : MV yX6_change RX6 := ⟨b_in_yX6_change, b_se_yX6_change⟩
theorem mi_yX6_changeOptions : MI yX6_changeOptions cX6_changeOptions 6 (some .int) RX6 3 := ⟨b_co_yX6_changeOptions, b_in_X6, rfl, ⟨by decide +kernel, by decide +kernel, by decide +kernel⟩, by decide, by decide +kernel⟩
theorem mv_yX6_changeOptions : MV yX6_changeOptions RX6 := ⟨b_in_yX6_changeOptions, b_se_yX6_changeOptions⟩
theorem mi_yX6_hand : MI yX6_hand cX6_hand 3 (some .int) RX6 2 := ⟨b_co_yX6_hand, b_in_X6, rfl, ⟨by decide +kernel, by decide +kernel, by decide +kernel⟩, by decide, by decide +kernel⟩
theorem mv_yX6_hand : MV yX6_hand RX6 := ⟨b_in_yX6_hand, b_se_yX6_hand⟩
theorem mi_yX6_handMarks : MI yX6_handMarks cX6_handMarks 5 (some .int) RX6 2 := ⟨b_co_yX6_handMarks, b_in_X6, rfl, ⟨by decide +kernel, by decide +kernel, by decide +kernel⟩, by decide, by decide +kernel⟩
theorem mv_yX6_handMarks : MV yX6_handMarks RX6 := ⟨b_in_yX6_handMarks, b_se_yX6_handMarks⟩
theorem mi_yX6_sessions : MI yX6_sessions cX6_sessions 1 (some .int) RX6 0 := ⟨b_co_yX6_sessions, b_in_X6, rfl, ⟨by decide +kernel, by decide +kernel, by decide +kernel⟩, by decide, by decide +kernel⟩
theorem mv_yX6_sessions : MV yX6_sessions RX6 := ⟨b_in_yX6_sessions, b_se_yX6_sessions⟩
theorem mi_yX4_sessionMask : MI yX4_sessionMask cX4_sessionMask 3 (some .int) RX4 0 := ⟨b_co_yX4_sessionMask, b_in_X4, rfl, ⟨by decide +kernel, by decide +kernel, by decide +kernel⟩, by decide, by decide +kernel⟩
theorem mv_yX4_sessionMask : MV yX4_sessionMask RX4 := ⟨b_in_yX4_sessionMask, b_se_yX4_sessionMask⟩
theorem mi_yX6_session : MI yX6_session cX6_session 4 (some .int) RX6 2 := ⟨b_co_yX6_session, b_in_X6, rfl, ⟨by decide +kernel, by decide +kernel, by decide +kernel⟩, by decide, by decide +kernel⟩
theorem mv_yX6_session : MV yX6_session RX6 := ⟨b_in_yX6_session, b_se_yX6_session⟩
theorem mi_yX3_need : MI yX3_need cX3_need 1 (some .int) RX3 0 := ⟨b_co_yX3_need, b_in_X3, rfl, ⟨by decide +kernel, by decide +kernel, by decide +kernel⟩, by decide, by decide +kernel⟩
theorem mv_yX3_need : MV yX3_need RX3 := ⟨b_in_yX3_need, b_se_yX3_need⟩
theorem mi_yX3_has : MI yX3_has cX3_has 2 (some .boolean) RX3 1 := ⟨b_co_yX3_has, b_in_X3, rfl, ⟨by decide +kernel, by decide +kernel, by decide +kernel⟩, by decide, by decide +kernel⟩
theorem mv_yX3_has : MV yX3_has RX3 := ⟨b_in_yX3_has, b_se_yX3_has⟩
theorem mi_yX6_write : MI yX6_write cX6_write 4 (some .int) RX6 3 := ⟨b_co_yX6_write, b_in_X6, rfl, ⟨by decide +kernel, by decide +kernel, by decide +kernel⟩, by decide, by decide +kernel⟩
theorem mv_yX6_write : MV yX6_write RX6 := ⟨b_in_yX6_write, b_se_yX6_write⟩
theorem mi_yX6_addWrite : MI yX6_addWrite cX6_addWrite 6 (some .int) RX6 3 := ⟨b_co_yX6_addWrite, b_in_X6, rfl, ⟨by decide +kernel, by decide +kernel, by decide +kernel⟩, by decide, by decide +kernel⟩
theorem mv_yX6_addWrite : MV yX6_addWrite RX6 := ⟨b_in_yX6_addWrite, b_se_yX6_addWrite⟩
theorem mi_yX1_add : MI yX1_add cX1_add 4 (some .int) RX1 3 := ⟨b_co_yX1_add, b_in_X1, rfl, ⟨by decide +kernel, by decide +kernel, by decide +kernel⟩, by decide, by decide +kernel⟩
theorem mv_yX1_add : MV yX1_add RX1 := ⟨b_in_yX1_add, b_se_yX1_add⟩
theorem mi_yX3_noteWrite : MI yX3_noteWrite cX3_noteWrite 3 none RX3 2 := ⟨b_co_yX3_noteWrite, b_in_X3, rfl, ⟨by decide +kernel, by decide +kernel, by decide +kernel⟩, by decide, by decide +kernel⟩
theorem mv_yX3_noteWrite : MV yX3_noteWrite RX3 := ⟨b_in_yX3_noteWrite, b_se_yX3_noteWrite⟩
theorem mi_yX6_read : MI yX6_read cX6_read 3 (some .int) RX6 2 := ⟨b_co_yX6_read, b_in_X6, rfl, ⟨by decide +kernel, by decide +kernel, by decide +kernel⟩, by decide, by decide +kernel⟩
theorem mv_yX6_read : MV yX6_read RX6 := ⟨b_in_yX6_read, b_se_yX6_read⟩
theorem mi_yX6_readAtHome : MI yX6_readAtHome cX6_readAtHome 5 (some .int) RX6 2 := ⟨b_co_yX6_readAtHome, b_in_X6, rfl, ⟨by decide +kernel, by decide +kernel, by decide +kernel⟩, by decide, by decide +kernel⟩
theorem mv_yX6_readAtHome : MV yX6_readAtHome RX6 := ⟨b_in_yX6_readAtHome, b_se_yX6_readAtHome⟩
theorem mi_yX4_waitOf : MI yX4_waitOf cX4_waitOf 5 (some .int) RX4 3 := ⟨b_co_yX4_waitOf, b_in_X4, rfl, ⟨by decide +kernel, by decide +kernel, by decide +kernel⟩, by decide, by decide +kernel⟩
theorem mv_yX4_waitOf : MV yX4_waitOf RX4 := ⟨b_in_yX4_waitOf, b_se_yX4_waitOf⟩
theorem mi_yX4_neededPosition : MI yX4_neededPosition cX4_neededPosition 4 (some .int) RX4 2 := ⟨b_co_yX4_neededPosition, b_in_X4, rfl, ⟨by decide +kernel, by decide +kernel, by decide +kernel⟩, by decide, by decide +kernel⟩
theorem mv_yX4_neededPosition : MV yX4_neededPosition RX4 := ⟨b_in_yX4_neededPosition, b_se_yX4_neededPosition⟩
theorem mi_yX2_ticksTo : MI yX2_ticksTo cX2_ticksTo 2 (some .int) RX2 1 := ⟨b_co_yX2_ticksTo, b_in_X2, rfl, ⟨by decide +kernel, by decide +kernel, by decide +kernel⟩, by decide, by decide +kernel⟩
theorem mv_yX2_ticksTo : MV yX2_ticksTo RX2 := ⟨b_in_yX2_ticksTo, b_se_yX2_ticksTo⟩
theorem mi_yX4_answer : MI yX4_answer cX4_answer 7 (some .int) RX4 4 := ⟨b_co_yX4_answer, b_in_X4, rfl, ⟨by decide +kernel, by decide +kernel, by decide +kernel⟩, by decide, by decide +kernel⟩
theorem mv_yX4_answer : MV yX4_answer RX4 := ⟨b_in_yX4_answer, b_se_yX4_answer⟩
theorem mi_yX3_noteRead : MI yX3_noteRead cX3_noteRead 4 none RX3 3 := ⟨b_co_yX3_noteRead, b_in_X3, rfl, ⟨by decide +kernel, by decide +kernel, by decide +kernel⟩, by decide, by decide +kernel⟩
theorem mv_yX3_noteRead : MV yX3_noteRead RX3 := ⟨b_in_yX3_noteRead, b_se_yX3_noteRead⟩
theorem mi_yX4_countAnswer : MI yX4_countAnswer cX4_countAnswer 3 none RX4 1 := ⟨b_co_yX4_countAnswer, b_in_X4, rfl, ⟨by decide +kernel, by decide +kernel, by decide +kernel⟩, by decide, by decide +kernel⟩
theorem mv_yX4_countAnswer : MV yX4_countAnswer RX4 := ⟨b_in_yX4_countAnswer, b_se_yX4_countAnswer⟩
theorem mi_yX6_readAt : MI yX6_readAt cX6_readAt 4 (some .int) RX6 3 := ⟨b_co_yX6_readAt, b_in_X6, rfl, ⟨by decide +kernel, by decide +kernel, by decide +kernel⟩, by decide, by decide +kernel⟩
theorem mv_yX6_readAt : MV yX6_readAt RX6 := ⟨b_in_yX6_readAt, b_se_yX6_readAt⟩
theorem mi_yX6_readAtPlace : MI yX6_readAtPlace cX6_readAtPlace 5 (some .int) RX6 3 := ⟨b_co_yX6_readAtPlace, b_in_X6, rfl, ⟨by decide +kernel, by decide +kernel, by decide +kernel⟩, by decide, by decide +kernel⟩
theorem mv_yX6_readAtPlace : MV yX6_readAtPlace RX6 := ⟨b_in_yX6_readAtPlace, b_se_yX6_readAtPlace⟩
theorem mi_yX6_latest : MI yX6_latest cX6_latest 2 (some .int) RX6 1 := ⟨b_co_yX6_latest, b_in_X6, rfl, ⟨by decide +kernel, by decide +kernel, by decide +kernel⟩, by decide, by decide +kernel⟩
theorem mv_yX6_latest : MV yX6_latest RX6 := ⟨b_in_yX6_latest, b_se_yX6_latest⟩
theorem mi_yX6_waitFor : MI yX6_waitFor cX6_waitFor 5 (some .int) RX6 3 := ⟨b_co_yX6_waitFor, b_in_X6, rfl, ⟨by decide +kernel, by decide +kernel, by decide +kernel⟩, by decide, by decide +kernel⟩
theorem mv_yX6_waitFor : MV yX6_waitFor RX6 := ⟨b_in_yX6_waitFor, b_se_yX6_waitFor⟩
theorem mi_yX6_bestReplica : MI yX6_bestReplica cX6_bestReplica 8 (some .int) RX6 2 := ⟨b_co_yX6_bestReplica, b_in_X6, rfl, ⟨by decide +kernel, by decide +kernel, by decide +kernel⟩, by decide, by decide +kernel⟩
theorem mv_yX6_bestReplica : MV yX6_bestReplica RX6 := ⟨b_in_yX6_bestReplica, b_se_yX6_bestReplica⟩
theorem mi_yX6_keysAfter : MI yX6_keysAfter cX6_keysAfter 8 (some .int) RX6 3 := ⟨b_co_yX6_keysAfter, b_in_X6, rfl, ⟨by decide +kernel, by decide +kernel, by decide +kernel⟩, by decide, by decide +kernel⟩
theorem mv_yX6_keysAfter : MV yX6_keysAfter RX6 := ⟨b_in_yX6_keysAfter, b_se_yX6_keysAfter⟩
theorem mi_yX6_catchUp : MI yX6_catchUp cX6_catchUp 5 (some .int) RX6 0 := ⟨b_co_yX6_catchUp, b_in_X6, rfl, ⟨by decide +kernel, by decide +kernel, by decide +kernel⟩, by decide, by decide +kernel⟩
theorem mv_yX6_catchUp : MV yX6_catchUp RX6 := ⟨b_in_yX6_catchUp, b_se_yX6_catchUp⟩
theorem mi_yX6_append : MI yX6_append cX6_append 2 (some .int) RX6 1 := ⟨b_co_yX6_append, b_in_X6, rfl, ⟨by decide +kernel, by decide +kernel, by decide +kernel⟩, by decide, by decide +kernel⟩
theorem mv_yX6_append : MV yX6_append RX6 := ⟨b_in_yX6_append, b_se_yX6_append⟩
theorem mi_yX5_add : MI yX5_add cX5_add 2 (some .int) RX5 1 := ⟨b_co_yX5_add, b_in_X5, rfl, ⟨by decide +kernel, by decide +kernel, by decide +kernel⟩, by decide, by decide +kernel⟩
theorem mv_yX5_add : MV yX5_add RX5 := ⟨b_in_yX5_add, b_se_yX5_add⟩
theorem mi_yX6_clearText : MI yX6_clearText cX6_clearText 1 (some .int) RX6 0 := ⟨b_co_yX6_clearText, b_in_X6, rfl, ⟨by decide +kernel, by decide +kernel, by decide +kernel⟩, by decide, by decide +kernel⟩
theorem mv_yX6_clearText : MV yX6_clearText RX6 := ⟨b_in_yX6_clearText, b_se_yX6_clearText⟩
theorem mi_yX5_empty : MI yX5_empty cX5_empty 2 (some .int) RX5 0 := ⟨b_co_yX5_empty, b_in_X5, rfl, ⟨by decide +kernel, by decide +kernel, by decide +kernel⟩, by decide, by decide +kernel⟩
theorem mv_yX5_empty : MV yX5_empty RX5 := ⟨b_in_yX5_empty, b_se_yX5_empty⟩
theorem mi_yX6_errorPosition : MI yX6_errorPosition cX6_errorPosition 1 (some .int) RX6 0 := ⟨b_co_yX6_errorPosition, b_in_X6, rfl, ⟨by decide +kernel, by decide +kernel, by decide +kernel⟩, by decide, by decide +kernel⟩
theorem mv_yX6_errorPosition : MV yX6_errorPosition RX6 := ⟨b_in_yX6_errorPosition, b_se_yX6_errorPosition⟩
theorem mi_yX5_findError : MI yX5_findError cX5_findError 2 (some .int) RX5 0 := ⟨b_co_yX5_findError, b_in_X5, rfl, ⟨by decide +kernel, by decide +kernel, by decide +kernel⟩, by decide, by decide +kernel⟩
theorem mv_yX5_findError : MV yX5_findError RX5 := ⟨b_in_yX5_findError, b_se_yX5_findError⟩
theorem mi_yX5_rewind : MI yX5_rewind cX5_rewind 1 none RX5 0 := ⟨b_co_yX5_rewind, b_in_X5, rfl, ⟨by decide +kernel, by decide +kernel, by decide +kernel⟩, by decide, by decide +kernel⟩
theorem mv_yX5_rewind : MV yX5_rewind RX5 := ⟨b_in_yX5_rewind, b_se_yX5_rewind⟩
theorem mi_yX5_readCommand : MI yX5_readCommand cX5_readCommand 1 (some .boolean) RX5 0 := ⟨b_co_yX5_readCommand, b_in_X5, rfl, ⟨by decide +kernel, by decide +kernel, by decide +kernel⟩, by decide, by decide +kernel⟩
theorem mv_yX5_readCommand : MV yX5_readCommand RX5 := ⟨b_in_yX5_readCommand, b_se_yX5_readCommand⟩
theorem mi_yX5_codeHere : MI yX5_codeHere cX5_codeHere 1 (some .int) RX5 0 := ⟨b_co_yX5_codeHere, b_in_X5, rfl, ⟨by decide +kernel, by decide +kernel, by decide +kernel⟩, by decide, by decide +kernel⟩
theorem mv_yX5_codeHere : MV yX5_codeHere RX5 := ⟨b_in_yX5_codeHere, b_se_yX5_codeHere⟩
theorem mi_yX5_readSign : MI yX5_readSign cX5_readSign 2 (some .boolean) RX5 1 := ⟨b_co_yX5_readSign, b_in_X5, rfl, ⟨by decide +kernel, by decide +kernel, by decide +kernel⟩, by decide, by decide +kernel⟩
theorem mv_yX5_readSign : MV yX5_readSign RX5 := ⟨b_in_yX5_readSign, b_se_yX5_readSign⟩
theorem mi_yX5_readDigit : MI yX5_readDigit cX5_readDigit 1 (some .boolean) RX5 0 := ⟨b_co_yX5_readDigit, b_in_X5, rfl, ⟨by decide +kernel, by decide +kernel, by decide +kernel⟩, by decide, by decide +kernel⟩
theorem mv_yX5_readDigit : MV yX5_readDigit RX5 := ⟨b_in_yX5_readDigit, b_se_yX5_readDigit⟩
theorem mi_yX5_takeDigit : MI yX5_takeDigit cX5_takeDigit 2 (some .int) RX5 0 := ⟨b_co_yX5_takeDigit, b_in_X5, rfl, ⟨by decide +kernel, by decide +kernel, by decide +kernel⟩, by decide, by decide +kernel⟩
theorem mv_yX5_takeDigit : MV yX5_takeDigit RX5 := ⟨b_in_yX5_takeDigit, b_se_yX5_takeDigit⟩
theorem mi_yX5_addArgument : MI yX5_addArgument cX5_addArgument 2 (some .boolean) RX5 1 := ⟨b_co_yX5_addArgument, b_in_X5, rfl, ⟨by decide +kernel, by decide +kernel, by decide +kernel⟩, by decide, by decide +kernel⟩
theorem mv_yX5_addArgument : MV yX5_addArgument RX5 := ⟨b_in_yX5_addArgument, b_se_yX5_addArgument⟩
theorem mi_yX5_readNumber : MI yX5_readNumber cX5_readNumber 3 (some .boolean) RX5 0 := ⟨b_co_yX5_readNumber, b_in_X5, rfl, ⟨by decide +kernel, by decide +kernel, by decide +kernel⟩, by decide, by decide +kernel⟩
theorem mv_yX5_readNumber : MV yX5_readNumber RX5 := ⟨b_in_yX5_readNumber, b_se_yX5_readNumber⟩
theorem mi_yX5_readPlace : MI yX5_readPlace cX5_readPlace 1 (some .boolean) RX5 0 := ⟨b_co_yX5_readPlace, b_in_X5, rfl, ⟨by decide +kernel, by decide +kernel, by decide +kernel⟩, by decide, by decide +kernel⟩
theorem mv_yX5_readPlace : MV yX5_readPlace RX5 := ⟨b_in_yX5_readPlace, b_se_yX5_readPlace⟩
theorem mi_yX6_execute : MI yX6_execute cX6_execute 2 (some .int) RX6 0 := ⟨b_co_yX6_execute, b_in_X6, rfl, ⟨by decide +kernel, by decide +kernel, by decide +kernel⟩, by decide, by decide +kernel⟩
theorem mv_yX6_execute : MV yX6_execute RX6 := ⟨b_in_yX6_execute, b_se_yX6_execute⟩
theorem mi_yX6_runCommand : MI yX6_runCommand cX6_runCommand 3 (some .int) RX6 0 := ⟨b_co_yX6_runCommand, b_in_X6, rfl, ⟨by decide +kernel, by decide +kernel, by decide +kernel⟩, by decide, by decide +kernel⟩
theorem mv_yX6_runCommand : MV yX6_runCommand RX6 := ⟨b_in_yX6_runCommand, b_se_yX6_runCommand⟩
theorem mi_yX5_argument : MI yX5_argument cX5_argument 2 (some .int) RX5 1 := ⟨b_co_yX5_argument, b_in_X5, rfl, ⟨by decide +kernel, by decide +kernel, by decide +kernel⟩, by decide, by decide +kernel⟩
theorem mv_yX5_argument : MV yX5_argument RX5 := ⟨b_in_yX5_argument, b_se_yX5_argument⟩
theorem mi_yX6_undo : MI yX6_undo cX6_undo 1 (some .int) RX6 0 := ⟨b_co_yX6_undo, b_in_X6, rfl, ⟨by decide +kernel, by decide +kernel, by decide +kernel⟩, by decide, by decide +kernel⟩
theorem mv_yX6_undo : MV yX6_undo RX6 := ⟨b_in_yX6_undo, b_se_yX6_undo⟩
theorem mi_yX0_takeLatest : MI yX0_takeLatest cX0_takeLatest 3 (some .int) RX0 1 := ⟨b_co_yX0_takeLatest, b_in_X0, rfl, ⟨by decide +kernel, by decide +kernel, by decide +kernel⟩, by decide, by decide +kernel⟩
theorem mv_yX0_takeLatest : MV yX0_takeLatest RX0 := ⟨b_in_yX0_takeLatest, b_se_yX0_takeLatest⟩
theorem mi_yX6_save : MI yX6_save cX6_save 1 (some .int) RX6 0 := ⟨b_co_yX6_save, b_in_X6, rfl, ⟨by decide +kernel, by decide +kernel, by decide +kernel⟩, by decide, by decide +kernel⟩
theorem mv_yX6_save : MV yX6_save RX6 := ⟨b_in_yX6_save, b_se_yX6_save⟩
theorem mi_yX6_restore : MI yX6_restore cX6_restore 1 (some .int) RX6 0 := ⟨b_co_yX6_restore, b_in_X6, rfl, ⟨by decide +kernel, by decide +kernel, by decide +kernel⟩, by decide, by decide +kernel⟩
theorem mv_yX6_restore : MV yX6_restore RX6 := ⟨b_in_yX6_restore, b_se_yX6_restore⟩
theorem mi_yX7_init : MI yX7_init cX7_init 2 none RX7 0 := ⟨b_co_yX7_init, b_in_X7, rfl, ⟨by decide +kernel, by decide +kernel, by decide +kernel⟩, by decide, by decide +kernel⟩
theorem mi_yX7_undo : MI yX7_undo cX7_undo 2 (some .int) RX7 0 := ⟨b_co_yX7_undo, b_in_X7, rfl, ⟨by decide +kernel, by decide +kernel, by decide +kernel⟩, by decide, by decide +kernel⟩
theorem mv_yX7_undo : MV yX7_undo RX7 := ⟨b_in_yX7_undo, b_se_yX7_undo⟩
theorem mi_yX7_save : MI yX7_save cX7_save 2 (some .int) RX7 0 := ⟨b_co_yX7_save, b_in_X7, rfl, ⟨by decide +kernel, by decide +kernel, by decide +kernel⟩, by decide, by decide +kernel⟩
theorem mv_yX7_save : MV yX7_save RX7 := ⟨b_in_yX7_save, b_se_yX7_save⟩
theorem mi_yX7_restore : MI yX7_restore cX7_restore 2 (some .int) RX7 0 := ⟨b_co_yX7_restore, b_in_X7, rfl, ⟨by decide +kernel, by decide +kernel, by decide +kernel⟩, by decide, by decide +kernel⟩
theorem mv_yX7_restore : MV yX7_restore RX7 := ⟨b_in_yX7_restore, b_se_yX7_restore⟩
theorem mi_yX7_record : MI yX7_record cX7_record 2 none RX7 0 := ⟨b_co_yX7_record, b_in_X7, rfl, ⟨by decide +kernel, by decide +kernel, by decide +kernel⟩, by decide, by decide +kernel⟩
theorem mv_yX7_record : MV yX7_record RX7 := ⟨b_in_yX7_record, b_se_yX7_record⟩
theorem mi_yX7_addReplica : MI yX7_addReplica cX7_addReplica 4 (some .int) RX7 2 := ⟨b_co_yX7_addReplica, b_in_X7, rfl, ⟨by decide +kernel, by decide +kernel, by decide +kernel⟩, by decide, by decide +kernel⟩
theorem mv_yX7_addReplica : MV yX7_addReplica RX7 := ⟨b_in_yX7_addReplica, b_se_yX7_addReplica⟩
theorem mi_yX7_isPlace : MI yX7_isPlace cX7_isPlace 2 (some .boolean) RX7 1 := ⟨b_co_yX7_isPlace, b_in_X7, rfl, ⟨by decide +kernel, by decide +kernel, by decide +kernel⟩, by decide, by decide +kernel⟩
theorem mv_yX7_isPlace : MV yX7_isPlace RX7 := ⟨b_in_yX7_isPlace, b_se_yX7_isPlace⟩
theorem mi_yX7_isReplica : MI yX7_isReplica cX7_isReplica 2 (some .boolean) RX7 1 := ⟨b_co_yX7_isReplica, b_in_X7, rfl, ⟨by decide +kernel, by decide +kernel, by decide +kernel⟩, by decide, by decide +kernel⟩
theorem mv_yX7_isReplica : MV yX7_isReplica RX7 := ⟨b_in_yX7_isReplica, b_se_yX7_isReplica⟩
theorem mi_yX7_in : MI yX7_in cX7_in 3 (some .boolean) RX7 3 := ⟨b_co_yX7_in, b_in_X7, rfl, ⟨by decide +kernel, by decide +kernel, by decide +kernel⟩, by decide, by decide +kernel⟩
theorem mi_yX7_ofReplica : MI yX7_ofReplica cX7_ofReplica 3 (some .int) RX7 2 := ⟨b_co_yX7_ofReplica, b_in_X7, rfl, ⟨by decide +kernel, by decide +kernel, by decide +kernel⟩, by decide, by decide +kernel⟩
theorem mv_yX7_ofReplica : MV yX7_ofReplica RX7 := ⟨b_in_yX7_ofReplica, b_se_yX7_ofReplica⟩
theorem mi_yX7_layReplica : MI yX7_layReplica cX7_layReplica 4 none RX7 3 := ⟨b_co_yX7_layReplica, b_in_X7, rfl, ⟨by decide +kernel, by decide +kernel, by decide +kernel⟩, by decide, by decide +kernel⟩
theorem mv_yX7_layReplica : MV yX7_layReplica RX7 := ⟨b_in_yX7_layReplica, b_se_yX7_layReplica⟩
theorem mi_yX7_at : MI yX7_at cX7_at 2 (some .int) RX7 1 := ⟨b_co_yX7_at, b_in_X7, rfl, ⟨by decide +kernel, by decide +kernel, by decide +kernel⟩, by decide, by decide +kernel⟩
theorem mv_yX7_at : MV yX7_at RX7 := ⟨b_in_yX7_at, b_se_yX7_at⟩
theorem mi_yX7_drop : MI yX7_drop cX7_drop 4 (some .int) RX7 1 := ⟨b_co_yX7_drop, b_in_X7, rfl, ⟨by decide +kernel, by decide +kernel, by decide +kernel⟩, by decide, by decide +kernel⟩
theorem mv_yX7_drop : MV yX7_drop RX7 := ⟨b_in_yX7_drop, b_se_yX7_drop⟩
theorem mi_yX7_homes : MI yX7_homes cX7_homes 4 (some .int) RX7 1 := ⟨b_co_yX7_homes, b_in_X7, rfl, ⟨by decide +kernel, by decide +kernel, by decide +kernel⟩, by decide, by decide +kernel⟩
theorem mv_yX7_homes : MV yX7_homes RX7 := ⟨b_in_yX7_homes, b_se_yX7_homes⟩
theorem mi_yX7_ofSession : MI yX7_ofSession cX7_ofSession 3 (some .int) RX7 2 := ⟨b_co_yX7_ofSession, b_in_X7, rfl, ⟨by decide +kernel, by decide +kernel, by decide +kernel⟩, by decide, by decide +kernel⟩
theorem mv_yX7_ofSession : MV yX7_ofSession RX7 := ⟨b_in_yX7_ofSession, b_se_yX7_ofSession⟩
theorem mi_yX7_laySession : MI yX7_laySession cX7_laySession 4 none RX7 3 := ⟨b_co_yX7_laySession, b_in_X7, rfl, ⟨by decide +kernel, by decide +kernel, by decide +kernel⟩, by decide, by decide +kernel⟩
theorem mv_yX7_laySession : MV yX7_laySession RX7 := ⟨b_in_yX7_laySession, b_se_yX7_laySession⟩
theorem mi_yX7_setRate : MI yX7_setRate cX7_setRate 4 (some .int) RX7 2 := ⟨b_co_yX7_setRate, b_in_X7, rfl, ⟨by decide +kernel, by decide +kernel, by decide +kernel⟩, by decide, by decide +kernel⟩
theorem mv_yX7_setRate : MV yX7_setRate RX7 := ⟨b_in_yX7_setRate, b_se_yX7_setRate⟩
theorem mi_yX7_stop : MI yX7_stop cX7_stop 4 (some .int) RX7 2 := ⟨b_co_yX7_stop, b_in_X7, rfl, ⟨by decide +kernel, by decide +kernel, by decide +kernel⟩, by decide, by decide +kernel⟩
theorem mv_yX7_stop : MV yX7_stop RX7 := ⟨b_in_yX7_stop, b_se_yX7_stop⟩
theorem mi_yX7_jumpBack : MI yX7_jumpBack cX7_jumpBack 4 (some .int) RX7 2 := ⟨b_co_yX7_jumpBack, b_in_X7, rfl, ⟨by decide +kernel, by decide +kernel, by decide +kernel⟩, by decide, by decide +kernel⟩
theorem mv_yX7_jumpBack : MV yX7_jumpBack RX7 := ⟨b_in_yX7_jumpBack, b_se_yX7_jumpBack⟩
theorem mi_yX7_whyNotJump : MI yX7_whyNotJump cX7_whyNotJump 3 (some .int) RX7 2 := ⟨b_co_yX7_whyNotJump, b_in_X7, rfl, ⟨by decide +kernel, by decide +kernel, by decide +kernel⟩, by decide, by decide +kernel⟩
theorem mv_yX7_whyNotJump : MV yX7_whyNotJump RX7 := ⟨b_in_yX7_whyNotJump, b_se_yX7_whyNotJump⟩
theorem mi_yX7_jumps : MI yX7_jumps cX7_jumps 4 (some .int) RX7 2 := ⟨b_co_yX7_jumps, b_in_X7, rfl, ⟨by decide +kernel, by decide +kernel, by decide +kernel⟩, by decide, by decide +kernel⟩
theorem mv_yX7_jumps : MV yX7_jumps RX7 := ⟨b_in_yX7_jumps, b_se_yX7_jumps⟩
theorem mi_yX7_tick : MI yX7_tick cX7_tick 4 (some .int) RX7 1 := ⟨b_co_yX7_tick, b_in_X7, rfl, ⟨by decide +kernel, by decide +kernel, by decide +kernel⟩, by decide, by decide +kernel⟩
theorem mv_yX7_tick : MV yX7_tick RX7 := ⟨b_in_yX7_tick, b_se_yX7_tick⟩
theorem mi_yX7_ticks : MI yX7_ticks cX7_ticks 3 none RX7 1 := ⟨b_co_yX7_ticks, b_in_X7, rfl, ⟨by decide +kernel, by decide +kernel, by decide +kernel⟩, by decide, by decide +kernel⟩
theorem mv_yX7_ticks : MV yX7_ticks RX7 := ⟨b_in_yX7_ticks, b_se_yX7_ticks⟩
theorem mi_yX7_atBehind : MI yX7_atBehind cX7_atBehind 4 (some .int) RX7 2 := ⟨b_co_yX7_atBehind, b_in_X7, rfl, ⟨by decide +kernel, by decide +kernel, by decide +kernel⟩, by decide, by decide +kernel⟩
theorem mv_yX7_atBehind : MV yX7_atBehind RX7 := ⟨b_in_yX7_atBehind, b_se_yX7_atBehind⟩
theorem mi_yX7_replicas : MI yX7_replicas cX7_replicas 3 (some .int) RX7 0 := ⟨b_co_yX7_replicas, b_in_X7, rfl, ⟨by decide +kernel, by decide +kernel, by decide +kernel⟩, by decide, by decide +kernel⟩
theorem mv_yX7_replicas : MV yX7_replicas RX7 := ⟨b_in_yX7_replicas, b_se_yX7_replicas⟩
theorem mi_yX7_replica : MI yX7_replica cX7_replica 3 (some .int) RX7 2 := ⟨b_co_yX7_replica, b_in_X7, rfl, ⟨by decide +kernel, by decide +kernel, by decide +kernel⟩, by decide, by decide +kernel⟩
theorem mv_yX7_replica : MV yX7_replica RX7 := ⟨b_in_yX7_replica, b_se_yX7_replica⟩
theorem mi_yX7_length : MI yX7_length cX7_length 1 (some .int) RX7 0 := ⟨b_co_yX7_length, b_in_X7, rfl, ⟨by decide +kernel, by decide +kernel, by decide +kernel⟩, by decide, by decide +kernel⟩
theorem mv_yX7_length : MV yX7_length RX7 := ⟨b_in_yX7_length, b_se_yX7_length⟩
theorem mi_yX7_logged : MI yX7_logged cX7_logged 3 (some .int) RX7 2 := ⟨b_co_yX7_logged, b_in_X7, rfl, ⟨by decide +kernel, by decide +kernel, by decide +kernel⟩, by decide, by decide +kernel⟩
theorem mv_yX7_logged : MV yX7_logged RX7 := ⟨b_in_yX7_logged, b_se_yX7_logged⟩
theorem mi_yX7_ofWrite : MI yX7_ofWrite cX7_ofWrite 3 (some .int) RX7 2 := ⟨b_co_yX7_ofWrite, b_in_X7, rfl, ⟨by decide +kernel, by decide +kernel, by decide +kernel⟩, by decide, by decide +kernel⟩
theorem mv_yX7_ofWrite : MV yX7_ofWrite RX7 := ⟨b_in_yX7_ofWrite, b_se_yX7_ofWrite⟩
theorem mi_yX7_position : MI yX7_position cX7_position 2 (some .int) RX7 1 := ⟨b_co_yX7_position, b_in_X7, rfl, ⟨by decide +kernel, by decide +kernel, by decide +kernel⟩, by decide, by decide +kernel⟩
theorem mv_yX7_position : MV yX7_position RX7 := ⟨b_in_yX7_position, b_se_yX7_position⟩
theorem mi_yX7_version : MI yX7_version cX7_version 3 (some .int) RX7 2 := ⟨b_co_yX7_version, b_in_X7, rfl, ⟨by decide +kernel, by decide +kernel, by decide +kernel⟩, by decide, by decide +kernel⟩
theorem mv_yX7_version : MV yX7_version RX7 := ⟨b_in_yX7_version, b_se_yX7_version⟩
theorem mi_yX7_isKey : MI yX7_isKey cX7_isKey 1 (some .boolean) RX7 1 := ⟨b_co_yX7_isKey, b_in_X7, rfl, ⟨by decide +kernel, by decide +kernel, by decide +kernel⟩, by decide, by decide +kernel⟩
theorem mi_yX7_versionAt : MI yX7_versionAt cX7_versionAt 4 (some .int) RX7 2 := ⟨b_co_yX7_versionAt, b_in_X7, rfl, ⟨by decide +kernel, by decide +kernel, by decide +kernel⟩, by decide, by decide +kernel⟩
theorem mv_yX7_versionAt : MV yX7_versionAt RX7 := ⟨b_in_yX7_versionAt, b_se_yX7_versionAt⟩
theorem mi_yX7_value : MI yX7_value cX7_value 3 (some .int) RX7 2 := ⟨b_co_yX7_value, b_in_X7, rfl, ⟨by decide +kernel, by decide +kernel, by decide +kernel⟩, by decide, by decide +kernel⟩
theorem mv_yX7_value : MV yX7_value RX7 := ⟨b_in_yX7_value, b_se_yX7_value⟩
theorem mi_yX7_valueOf : MI yX7_valueOf cX7_valueOf 2 (some .int) RX7 1 := ⟨b_co_yX7_valueOf, b_in_X7, rfl, ⟨by decide +kernel, by decide +kernel, by decide +kernel⟩, by decide, by decide +kernel⟩
theorem mv_yX7_valueOf : MV yX7_valueOf RX7 := ⟨b_in_yX7_valueOf, b_se_yX7_valueOf⟩
theorem mi_yX7_missing : MI yX7_missing cX7_missing 5 (some .int) RX7 2 := ⟨b_co_yX7_missing, b_in_X7, rfl, ⟨by decide +kernel, by decide +kernel, by decide +kernel⟩, by decide, by decide +kernel⟩
theorem mv_yX7_missing : MV yX7_missing RX7 := ⟨b_in_yX7_missing, b_se_yX7_missing⟩
theorem mi_yX7_answers : MI yX7_answers cX7_answers 2 (some .int) RX7 1 := ⟨b_co_yX7_answers, b_in_X7, rfl, ⟨by decide +kernel, by decide +kernel, by decide +kernel⟩, by decide, by decide +kernel⟩
theorem mv_yX7_answers : MV yX7_answers RX7 := ⟨b_in_yX7_answers, b_se_yX7_answers⟩
theorem mi_yX7_open : MI yX7_open cX7_open 6 (some .int) RX7 3 := ⟨b_co_yX7_open, b_in_X7, rfl, ⟨by decide +kernel, by decide +kernel, by decide +kernel⟩, by decide, by decide +kernel⟩
theorem mv_yX7_open : MV yX7_open RX7 := ⟨b_in_yX7_open, b_se_yX7_open⟩
theorem mi_yX7_close : MI yX7_close cX7_close 2 (some .int) RX7 1 := ⟨b_co_yX7_close, b_in_X7, rfl, ⟨by decide +kernel, by decide +kernel, by decide +kernel⟩, by decide, by decide +kernel⟩
theorem mv_yX7_close : MV yX7_close RX7 := ⟨b_in_yX7_close, b_se_yX7_close⟩
theorem mi_yX7_isSession : MI yX7_isSession cX7_isSession 2 (some .boolean) RX7 1 := ⟨b_co_yX7_isSession, b_in_X7, rfl, ⟨by decide +kernel, by decide +kernel, by decide +kernel⟩, by decide, by decide +kernel⟩
theorem mv_yX7_isSession : MV yX7_isSession RX7 := ⟨b_in_yX7_isSession, b_se_yX7_isSession⟩
theorem mi_yX7_move : MI yX7_move cX7_move 3 (some .int) RX7 2 := ⟨b_co_yX7_move, b_in_X7, rfl, ⟨by decide +kernel, by decide +kernel, by decide +kernel⟩, by decide, by decide +kernel⟩
theorem mv_yX7_move : MV yX7_move RX7 := ⟨b_in_yX7_move, b_se_yX7_move⟩
theorem mi_yX7_moves : MI yX7_moves cX7_moves 4 (some .int) RX7 2 := ⟨b_co_yX7_moves, b_in_X7, rfl, ⟨by decide +kernel, by decide +kernel, by decide +kernel⟩, by decide, by decide +kernel⟩
theorem mv_yX7_moves : MV yX7_moves RX7 := ⟨b_in_yX7_moves, b_se_yX7_moves⟩
theorem mi_yX7_change : MI yX7_change cX7_change 5 (some .int) RX7 3 := ⟨b_co_yX7_change, b_in_X7, rfl, ⟨by decide +kernel, by decide +kernel, by decide +kernel⟩, by decide, by decide +kernel⟩
theorem mv_yX7_change : MV yX7_change RX7 := ⟨b_in_yX7_change, b_se_yX7_change⟩
theorem mi_yX7_hand : MI yX7_hand cX7_hand 4 (some .int) RX7 2 := ⟨b_co_yX7_hand, b_in_X7, rfl, ⟨by decide +kernel, by decide +kernel, by decide +kernel⟩, by decide, by decide +kernel⟩
theorem mv_yX7_hand : MV yX7_hand RX7 := ⟨b_in_yX7_hand, b_se_yX7_hand⟩
theorem mi_yX7_whyNotHand : MI yX7_whyNotHand cX7_whyNotHand 3 (some .int) RX7 2 := ⟨b_co_yX7_whyNotHand, b_in_X7, rfl, ⟨by decide +kernel, by decide +kernel, by decide +kernel⟩, by decide, by decide +kernel⟩
theorem mv_yX7_whyNotHand : MV yX7_whyNotHand RX7 := ⟨b_in_yX7_whyNotHand, b_se_yX7_whyNotHand⟩
theorem mi_yX7_hands : MI yX7_hands cX7_hands 3 (some .int) RX7 2 := ⟨b_co_yX7_hands, b_in_X7, rfl, ⟨by decide +kernel, by decide +kernel, by decide +kernel⟩, by decide, by decide +kernel⟩
theorem mv_yX7_hands : MV yX7_hands RX7 := ⟨b_in_yX7_hands, b_se_yX7_hands⟩
theorem mi_yX7_more : MI yX7_more cX7_more 2 (some .int) RX7 2 := ⟨b_co_yX7_more, b_in_X7, rfl, ⟨by decide +kernel, by decide +kernel, by decide +kernel⟩, by decide, by decide +kernel⟩
theorem mi_yX7_sessions : MI yX7_sessions cX7_sessions 3 (some .int) RX7 0 := ⟨b_co_yX7_sessions, b_in_X7, rfl, ⟨by decide +kernel, by decide +kernel, by decide +kernel⟩, by decide, by decide +kernel⟩
theorem mv_yX7_sessions : MV yX7_sessions RX7 := ⟨b_in_yX7_sessions, b_se_yX7_sessions⟩
theorem mi_yX7_session : MI yX7_session cX7_session 3 (some .int) RX7 2 := ⟨b_co_yX7_session, b_in_X7, rfl, ⟨by decide +kernel, by decide +kernel, by decide +kernel⟩, by decide, by decide +kernel⟩
theorem mv_yX7_session : MV yX7_session RX7 := ⟨b_in_yX7_session, b_se_yX7_session⟩
theorem mi_yX7_need : MI yX7_need cX7_need 2 (some .int) RX7 1 := ⟨b_co_yX7_need, b_in_X7, rfl, ⟨by decide +kernel, by decide +kernel, by decide +kernel⟩, by decide, by decide +kernel⟩
theorem mv_yX7_need : MV yX7_need RX7 := ⟨b_in_yX7_need, b_se_yX7_need⟩
theorem mi_yX7_has : MI yX7_has cX7_has 3 (some .boolean) RX7 2 := ⟨b_co_yX7_has, b_in_X7, rfl, ⟨by decide +kernel, by decide +kernel, by decide +kernel⟩, by decide, by decide +kernel⟩
theorem mv_yX7_has : MV yX7_has RX7 := ⟨b_in_yX7_has, b_se_yX7_has⟩
theorem mi_yX7_write : MI yX7_write cX7_write 5 (some .int) RX7 3 := ⟨b_co_yX7_write, b_in_X7, rfl, ⟨by decide +kernel, by decide +kernel, by decide +kernel⟩, by decide, by decide +kernel⟩
theorem mv_yX7_write : MV yX7_write RX7 := ⟨b_in_yX7_write, b_se_yX7_write⟩
theorem mi_yX7_whyNotWrite : MI yX7_whyNotWrite cX7_whyNotWrite 4 (some .int) RX7 3 := ⟨b_co_yX7_whyNotWrite, b_in_X7, rfl, ⟨by decide +kernel, by decide +kernel, by decide +kernel⟩, by decide, by decide +kernel⟩
theorem mv_yX7_whyNotWrite : MV yX7_whyNotWrite RX7 := ⟨b_in_yX7_whyNotWrite, b_se_yX7_whyNotWrite⟩
theorem mi_yX7_writes : MI yX7_writes cX7_writes 5 (some .int) RX7 3 := ⟨b_co_yX7_writes, b_in_X7, rfl, ⟨by decide +kernel, by decide +kernel, by decide +kernel⟩, by decide, by decide +kernel⟩
theorem mv_yX7_writes : MV yX7_writes RX7 := ⟨b_in_yX7_writes, b_se_yX7_writes⟩
theorem mi_yX7_read : MI yX7_read cX7_read 4 (some .int) RX7 2 := ⟨b_co_yX7_read, b_in_X7, rfl, ⟨by decide +kernel, by decide +kernel, by decide +kernel⟩, by decide, by decide +kernel⟩
theorem mv_yX7_read : MV yX7_read RX7 := ⟨b_in_yX7_read, b_se_yX7_read⟩
theorem mi_yX7_whyNotRead : MI yX7_whyNotRead cX7_whyNotRead 3 (some .int) RX7 2 := ⟨b_co_yX7_whyNotRead, b_in_X7, rfl, ⟨by decide +kernel, by decide +kernel, by decide +kernel⟩, by decide, by decide +kernel⟩
theorem mv_yX7_whyNotRead : MV yX7_whyNotRead RX7 := ⟨b_in_yX7_whyNotRead, b_se_yX7_whyNotRead⟩
theorem mi_yX7_waitsAtHome : MI yX7_waitsAtHome cX7_waitsAtHome 4 (some .int) RX7 2 := ⟨b_co_yX7_waitsAtHome, b_in_X7, rfl, ⟨by decide +kernel, by decide +kernel, by decide +kernel⟩, by decide, by decide +kernel⟩
theorem mv_yX7_waitsAtHome : MV yX7_waitsAtHome RX7 := ⟨b_in_yX7_waitsAtHome, b_se_yX7_waitsAtHome⟩
theorem mi_yX7_waitOf : MI yX7_waitOf cX7_waitOf 6 (some .int) RX7 3 := ⟨b_co_yX7_waitOf, b_in_X7, rfl, ⟨by decide +kernel, by decide +kernel, by decide +kernel⟩, by decide, by decide +kernel⟩
theorem mv_yX7_waitOf : MV yX7_waitOf RX7 := ⟨b_in_yX7_waitOf, b_se_yX7_waitOf⟩
theorem mi_yX7_needed : MI yX7_needed cX7_needed 4 (some .int) RX7 2 := ⟨b_co_yX7_needed, b_in_X7, rfl, ⟨by decide +kernel, by decide +kernel, by decide +kernel⟩, by decide, by decide +kernel⟩
theorem mv_yX7_needed : MV yX7_needed RX7 := ⟨b_in_yX7_needed, b_se_yX7_needed⟩
theorem mi_yX7_reads : MI yX7_reads cX7_reads 4 (some .int) RX7 2 := ⟨b_co_yX7_reads, b_in_X7, rfl, ⟨by decide +kernel, by decide +kernel, by decide +kernel⟩, by decide, by decide +kernel⟩
theorem mv_yX7_reads : MV yX7_reads RX7 := ⟨b_in_yX7_reads, b_se_yX7_reads⟩
theorem mi_yX7_answer : MI yX7_answer cX7_answer 6 (some .int) RX7 4 := ⟨b_co_yX7_answer, b_in_X7, rfl, ⟨by decide +kernel, by decide +kernel, by decide +kernel⟩, by decide, by decide +kernel⟩
theorem mv_yX7_answer : MV yX7_answer RX7 := ⟨b_in_yX7_answer, b_se_yX7_answer⟩
theorem mi_yX7_readAt : MI yX7_readAt cX7_readAt 4 (some .int) RX7 3 := ⟨b_co_yX7_readAt, b_in_X7, rfl, ⟨by decide +kernel, by decide +kernel, by decide +kernel⟩, by decide, by decide +kernel⟩
theorem mv_yX7_readAt : MV yX7_readAt RX7 := ⟨b_in_yX7_readAt, b_se_yX7_readAt⟩
theorem mi_yX7_latest : MI yX7_latest cX7_latest 2 (some .int) RX7 1 := ⟨b_co_yX7_latest, b_in_X7, rfl, ⟨by decide +kernel, by decide +kernel, by decide +kernel⟩, by decide, by decide +kernel⟩
theorem mv_yX7_latest : MV yX7_latest RX7 := ⟨b_in_yX7_latest, b_se_yX7_latest⟩
theorem mi_yX7_waitFor : MI yX7_waitFor cX7_waitFor 4 (some .int) RX7 3 := ⟨b_co_yX7_waitFor, b_in_X7, rfl, ⟨by decide +kernel, by decide +kernel, by decide +kernel⟩, by decide, by decide +kernel⟩
theorem mv_yX7_waitFor : MV yX7_waitFor RX7 := ⟨b_in_yX7_waitFor, b_se_yX7_waitFor⟩
theorem mi_yX7_bestReplica : MI yX7_bestReplica cX7_bestReplica 8 (some .int) RX7 2 := ⟨b_co_yX7_bestReplica, b_in_X7, rfl, ⟨by decide +kernel, by decide +kernel, by decide +kernel⟩, by decide, by decide +kernel⟩
theorem mv_yX7_bestReplica : MV yX7_bestReplica RX7 := ⟨b_in_yX7_bestReplica, b_se_yX7_bestReplica⟩
theorem mi_yX7_keysAfter : MI yX7_keysAfter cX7_keysAfter 6 (some .int) RX7 3 := ⟨b_co_yX7_keysAfter, b_in_X7, rfl, ⟨by decide +kernel, by decide +kernel, by decide +kernel⟩, by decide, by decide +kernel⟩
theorem mv_yX7_keysAfter : MV yX7_keysAfter RX7 := ⟨b_in_yX7_keysAfter, b_se_yX7_keysAfter⟩
theorem mi_yX7_catchUp : MI yX7_catchUp cX7_catchUp 5 (some .int) RX7 0 := ⟨b_co_yX7_catchUp, b_in_X7, rfl, ⟨by decide +kernel, by decide +kernel, by decide +kernel⟩, by decide, by decide +kernel⟩
theorem mv_yX7_catchUp : MV yX7_catchUp RX7 := ⟨b_in_yX7_catchUp, b_se_yX7_catchUp⟩
theorem mi_yX7_append : MI yX7_append cX7_append 2 (some .int) RX7 1 := ⟨b_co_yX7_append, b_in_X7, rfl, ⟨by decide +kernel, by decide +kernel, by decide +kernel⟩, by decide, by decide +kernel⟩
theorem mv_yX7_append : MV yX7_append RX7 := ⟨b_in_yX7_append, b_se_yX7_append⟩
theorem mi_yX7_clearText : MI yX7_clearText cX7_clearText 2 (some .int) RX7 0 := ⟨b_co_yX7_clearText, b_in_X7, rfl, ⟨by decide +kernel, by decide +kernel, by decide +kernel⟩, by decide, by decide +kernel⟩
theorem mv_yX7_clearText : MV yX7_clearText RX7 := ⟨b_in_yX7_clearText, b_se_yX7_clearText⟩
theorem mi_yX7_errorPosition : MI yX7_errorPosition cX7_errorPosition 2 (some .int) RX7 0 := ⟨b_co_yX7_errorPosition, b_in_X7, rfl, ⟨by decide +kernel, by decide +kernel, by decide +kernel⟩, by decide, by decide +kernel⟩
theorem mv_yX7_errorPosition : MV yX7_errorPosition RX7 := ⟨b_in_yX7_errorPosition, b_se_yX7_errorPosition⟩
theorem mi_yX7_readCommand : MI yX7_readCommand cX7_readCommand 3 none RX7 0 := ⟨b_co_yX7_readCommand, b_in_X7, rfl, ⟨by decide +kernel, by decide +kernel, by decide +kernel⟩, by decide, by decide +kernel⟩
theorem mv_yX7_readCommand : MV yX7_readCommand RX7 := ⟨b_in_yX7_readCommand, b_se_yX7_readCommand⟩
theorem mi_yX7_letter : MI yX7_letter cX7_letter 1 (some .int) RX7 0 := ⟨b_co_yX7_letter, b_in_X7, rfl, ⟨by decide +kernel, by decide +kernel, by decide +kernel⟩, by decide, by decide +kernel⟩
theorem mv_yX7_letter : MV yX7_letter RX7 := ⟨b_in_yX7_letter, b_se_yX7_letter⟩
theorem mi_yX7_wants : MI yX7_wants cX7_wants 2 none RX7 1 := ⟨b_co_yX7_wants, b_in_X7, rfl, ⟨by decide +kernel, by decide +kernel, by decide +kernel⟩, by decide, by decide +kernel⟩
theorem mv_yX7_wants : MV yX7_wants RX7 := ⟨b_in_yX7_wants, b_se_yX7_wants⟩
theorem mi_yX7_number : MI yX7_number cX7_number 3 (some .int) RX7 0 := ⟨b_co_yX7_number, b_in_X7, rfl, ⟨by decide +kernel, by decide +kernel, by decide +kernel⟩, by decide, by decide +kernel⟩
theorem mv_yX7_number : MV yX7_number RX7 := ⟨b_in_yX7_number, b_se_yX7_number⟩
theorem mi_yX7_digit : MI yX7_digit cX7_digit 2 (some .int) RX7 0 := ⟨b_co_yX7_digit, b_in_X7, rfl, ⟨by decide +kernel, by decide +kernel, by decide +kernel⟩, by decide, by decide +kernel⟩
theorem mv_yX7_digit : MV yX7_digit RX7 := ⟨b_in_yX7_digit, b_se_yX7_digit⟩
theorem mi_yX7_place : MI yX7_place cX7_place 2 (some .int) RX7 0 := ⟨b_co_yX7_place, b_in_X7, rfl, ⟨by decide +kernel, by decide +kernel, by decide +kernel⟩, by decide, by decide +kernel⟩
theorem mv_yX7_place : MV yX7_place RX7 := ⟨b_in_yX7_place, b_se_yX7_place⟩
theorem mi_yX7_execute : MI yX7_execute cX7_execute 2 (some .int) RX7 0 := ⟨b_co_yX7_execute, b_in_X7, rfl, ⟨by decide +kernel, by decide +kernel, by decide +kernel⟩, by decide, by decide +kernel⟩
theorem mv_yX7_execute : MV yX7_execute RX7 := ⟨b_in_yX7_execute, b_se_yX7_execute⟩
theorem mi_yX7_executeOne : MI yX7_executeOne cX7_executeOne 6 (some .int) RX7 1 := ⟨b_co_yX7_executeOne, b_in_X7, rfl, ⟨by decide +kernel, by decide +kernel, by decide +kernel⟩, by decide, by decide +kernel⟩
theorem mv_yX7_executeOne : MV yX7_executeOne RX7 := ⟨b_in_yX7_executeOne, b_se_yX7_executeOne⟩
end
section
/-! ===== numbers ===== -/
theorem xI_inj {a b : Nat} (ha : a < 2 ^ 31) (hb : b < 2 ^ 31) (h : nI a = nI b) : a = b := by
  have h1 := nI_toInt ha
  rw [h, nI_toInt hb] at h1
  omega
theorem xI_leD {a b : Nat} (ha : a < 2 ^ 31) (hb : b < 2 ^ 31) (h : nI a ≤ nI b) : a ≤ b := by
  rw [Int32.le_iff_toInt_le, nI_toInt ha, nI_toInt hb] at h; omega
theorem xI_nleD {a b : Nat} (ha : a < 2 ^ 31) (hb : b < 2 ^ 31) (h : ¬ nI a ≤ nI b) : b < a := by
  rw [Int32.le_iff_toInt_le, nI_toInt ha, nI_toInt hb] at h; omega
theorem xI_ltD {a b : Nat} (ha : a < 2 ^ 31) (hb : b < 2 ^ 31) (h : nI a < nI b) : a < b := by
  rw [Int32.lt_iff_toInt_lt, nI_toInt ha, nI_toInt hb] at h; omega
theorem xI_nltD {a b : Nat} (ha : a < 2 ^ 31) (hb : b < 2 ^ 31) (h : ¬ nI a < nI b) : b ≤ a := by
  rw [Int32.lt_iff_toInt_lt, nI_toInt ha, nI_toInt hb] at h; omega
theorem xI_neD {a b : Nat} (h : ¬ nI a = nI b) : a ≠ b := fun e => h (by rw [e])
theorem xI_le {a b : Nat} (ha : a < 2 ^ 31) (hb : b < 2 ^ 31) : nI a ≤ nI b ↔ a ≤ b := ⟨xI_leD ha hb, fun h => nI_le h hb⟩
theorem xI_lt {a b : Nat} (ha : a < 2 ^ 31) (hb : b < 2 ^ 31) : nI a < nI b ↔ a < b := ⟨xI_ltD ha hb, fun h => nI_lt h hb⟩
theorem xI_eq {a b : Nat} (ha : a < 2 ^ 31) (hb : b < 2 ^ 31) : nI a = nI b ↔ a = b := ⟨xI_inj ha hb, fun h => by rw [h]⟩
theorem xI_add (a b : Nat) : nI a + nI b = nI (a + b) := (Int32.ofNat_add a b).symm
theorem xI_mul (a b : Nat) : nI a * nI b = nI (a * b) := (Int32.ofNat_mul a b).symm
theorem xI_sub {a b : Nat} (h : b ≤ a) : nI a - nI b = nI (a - b) := by
  have e : nI a = nI (a - b) + nI b := by rw [xI_add]; congr 1; omega
  rw [e, Int32.add_sub_cancel]
theorem xI_of {x : Int32} (h : 0 ≤ x) : ∃ n : Nat, n < 2 ^ 31 ∧ x = nI n := by
  rw [Int32.le_iff_toInt_le, Int32.toInt_zero] at h
  have h2 := Int32.toInt_lt x
  refine ⟨x.toInt.toNat, by omega, ?_⟩
  apply Int32.toInt_inj.mp
  rw [nI_toInt (by omega)]
  omega
theorem xI_le_of {x : Int32} {N : Nat} (h : 0 ≤ x) (h1 : x ≤ nI N) (hN : N < 2 ^ 31) : ∃ n : Nat, n ≤ N ∧ x = nI n := by
  obtain ⟨n, hn, rfl⟩ := xI_of h
  exact ⟨n, xI_leD hn hN h1, rfl⟩
theorem xI_lt_of {x : Int32} {N : Nat} (h : 0 ≤ x) (h1 : x < nI N) (hN : N < 2 ^ 31) : ∃ n : Nat, n < N ∧ x = nI n := by
  obtain ⟨n, hn, rfl⟩ := xI_of h
  exact ⟨n, xI_ltD hn hN h1, rfl⟩
theorem xI_div {a b : Nat} (ha : a < 2 ^ 31) (hb : b < 2 ^ 31) : nI a / nI b = nI (a / b) := by
  apply Int32.toInt_inj.mp
  have hd : a / b < 2 ^ 31 := Nat.lt_of_le_of_lt (Nat.div_le_self a b) ha
  rw [Int32.toInt_div, nI_toInt ha, nI_toInt hb, nI_toInt hd]
  rw [Int.tdiv_eq_ediv_of_nonneg (by omega)]
  have hdd : ((a : Int) / (b : Int)) = ((a / b : Nat) : Int) := by norm_cast
  rw [hdd]
  generalize a / b = q at hd
  first
  | exact Int.bmod_eq_of_le (by omega) (by omega)
  | (unfold Int.bmod; simp; split <;> omega)
theorem xI_ne {a b : Nat} (ha : a < 2 ^ 31) (hb : b < 2 ^ 31) (h : a ≠ b) : ¬ nI a = nI b := fun q => h (xI_inj ha hb q)
theorem xI_ge0 (a : Nat) (h : a < 2 ^ 31) : (0 : Int32) ≤ nI a := nI_le (Nat.zero_le a) h
theorem xI_nlt0 {a : Nat} (h : a < 2 ^ 31) : ¬ nI a < (0 : Int32) := nI_pos h
section MN
variable {E : EV} {X : CX} {own : String} {cc : ByteArray} {nL : Nat} {ret : Option FieldType} {dep pc : Nat} {ls st : List VV} {mem : MEM}
theorem f_iaddn (C : CK E X own cc nL ret dep) {a b : Nat} (hdg : decode cc pc = .ok (.iadd, 1)) (h : G E X nL (pc + 1) ls (iv (nI (a + b)) :: st) mem) : G E X nL pc ls (iv (nI b) :: iv (nI a) :: st) mem := e_iadd C hdg (by rw [xI_add]; exact h)
theorem f_imuln (C : CK E X own cc nL ret dep) {a b : Nat} (hdg : decode cc pc = .ok (.imul, 1)) (h : G E X nL (pc + 1) ls (iv (nI (a * b)) :: st) mem) : G E X nL pc ls (iv (nI b) :: iv (nI a) :: st) mem := e_imul C hdg (by rw [xI_mul]; exact h)
theorem f_isubn (C : CK E X own cc nL ret dep) {a b : Nat} (hle : b ≤ a) (hdg : decode cc pc = .ok (.isub, 1)) (h : G E X nL (pc + 1) ls (iv (nI (a - b)) :: st) mem) : G E X nL pc ls (iv (nI b) :: iv (nI a) :: st) mem := e_isub C hdg (by rw [xI_sub hle]; exact h)
theorem f_idivn (C : CK E X own cc nL ret dep) {a b : Nat} (ha : a < 2 ^ 31) (hb : b < 2 ^ 31) (h0 : 0 < b) (hdg : decode cc pc = .ok (.idiv, 1)) (h : G E X nL (pc + 1) ls (iv (nI (a / b)) :: st) mem) : G E X nL pc ls (iv (nI b) :: iv (nI a) :: st) mem := e_idiv C hdg (nI_ne0 h0 hb) (by rw [xI_div ha hb]; exact h)
theorem f_val {x y : Int32} (e : x = y) (h : G E X nL pc ls (iv y :: st) mem) : G E X nL pc ls (iv x :: st) mem := by rw [e]; exact h
end MN
section MRET
variable {E : EV} {X : CX} {own : String} {cc : ByteArray} {nL : Nat} {dep pc : Nat} {ls : List VV} {mem m1 : MEM} {l : Launch} {P P' : Prop}
theorem f_zt (C : CK E X own cc nL (some .boolean) dep) (h : EX E X l (Ret (iv (b2i P)) m1)) (hdg : decode cc pc = .ok (.ireturn, 1)) (hp : P) (hm : mem = m1) : G E X nL pc ls [iv (nI 1)] mem := e_zret C h hdg (Or.inr rfl) ⟨by rw [b2i_pos hp]; rfl, hm⟩
theorem f_zf (C : CK E X own cc nL (some .boolean) dep) (h : EX E X l (Ret (iv (b2i P)) m1)) (hdg : decode cc pc = .ok (.ireturn, 1)) (hp : ¬ P) (hm : mem = m1) : G E X nL pc ls [iv (nI 0)] mem := e_zret C h hdg (Or.inl rfl) ⟨by rw [b2i_neg hp]; rfl, hm⟩
theorem f_zb (C : CK E X own cc nL (some .boolean) dep) (h : EX E X l (Ret (iv (b2i P)) m1)) (hdg : decode cc pc = .ok (.ireturn, 1)) (hp : P' ↔ P) (hm : mem = m1) : G E X nL pc ls [iv (b2i P')] mem := e_zret C h hdg (b2i_01 P') ⟨by rw [propext hp], hm⟩
theorem f_ir {v w : Int32} (C : CK E X own cc nL (some .int) dep) (h : EX E X l (Ret (iv w) m1)) (hdg : decode cc pc = .ok (.ireturn, 1)) (hv : v = w) (hm : mem = m1) : G E X nL pc ls [iv v] mem := e_iret C h hdg ⟨by rw [hv], hm⟩
theorem f_vr (C : CK E X own cc nL none dep) (h : EX E X l (Ret uv m1)) (hdg : decode cc pc = .ok (.return_, 1)) (hm : mem = m1) : G E X nL pc ls [] mem := e_vret C h hdg ⟨rfl, hm⟩
theorem f_ii {Pq : Int32 → MEM → Prop} {v : Int32} (C : CK E X own cc nL (some .int) dep) (h : EX E X l (fun r m => ∃ x : Int32, r = iv x ∧ Pq x m)) (hdg : decode cc pc = .ok (.ireturn, 1)) (hv : Pq v mem) : G E X nL pc ls [iv v] mem := e_iret C h hdg ⟨v, rfl, hv⟩
theorem f_vu {Pq : MEM → Prop} (C : CK E X own cc nL none dep) (h : EX E X l (fun r m => r = uv ∧ Pq m)) (hdg : decode cc pc = .ok (.return_, 1)) (hv : Pq mem) : G E X nL pc ls [] mem := e_vret C h hdg ⟨rfl, hv⟩
theorem f_ay {RC : String} {Po : ID → Prop} {Pn : Prop} {i : ID} (C : CK E X own cc nL (some (.object RC)) dep) (h : EX E X l (OptQ Po Pn m1)) (hdg : decode cc pc = .ok (.areturn, 1)) (hp : Po i) (hm : mem = m1) : G E X nL pc ls [rv i] mem := e_aret C h hdg (by rw [hm]; exact OptQ.yes hp)
theorem f_an {RC : String} {Po : ID → Prop} {Pn : Prop} (C : CK E X own cc nL (some (.object RC)) dep) (h : EX E X l (OptQ Po Pn m1)) (hdg : decode cc pc = .ok (.areturn, 1)) (hp : Pn) (hm : mem = m1) : G E X nL pc ls [nv] mem := e_aret C h hdg (by rw [hm]; exact OptQ.no hp)
end MRET
end
section
/-! ===== lists of writes ===== -/
/-- the number of the latest of the first n writes with the key, 0 if there is none; f: the keys by place -/
def lastw (f : Nat → Int32) : Nat → Int32 → Nat
  | 0, _ => 0
  | n + 1, key => @ite Nat (f n = key) (instDecidableEqInt32 (f n) key) (n + 1) (lastw f n key)
theorem lastw_le (f : Nat → Int32) (key : Int32) : ∀ n, lastw f n key ≤ n
  | 0 => Nat.le_refl 0
  | n + 1 => by
    unfold lastw
    split
    · exact Nat.le_refl _
    · exact Nat.le_succ_of_le (lastw_le f key n)
theorem lastw_congr {f g : Nat → Int32} (key : Int32) : ∀ n, (∀ j, j < n → f j = g j) → lastw f n key = lastw g n key
  | 0, _ => rfl
  | n + 1, h => by
    unfold lastw
    rw [h n (Nat.lt_succ_self n), lastw_congr key n (fun j hj => h j (Nat.lt_succ_of_lt hj))]
theorem lastw_yes {f : Nat → Int32} {n : Nat} {key : Int32} (h : f n = key) : lastw f (n + 1) key = n + 1 := by unfold lastw; rw [if_pos h]
theorem lastw_no {f : Nat → Int32} {n : Nat} {key : Int32} (h : ¬ f n = key) : lastw f (n + 1) key = lastw f n key := by rw [lastw, if_neg h]
/-- how many of the writes at places p to n - 1 have the key -/
def cntw (f : Nat → Int32) (p : Nat) (key : Int32) : Nat → Nat
  | 0 => 0
  | n + 1 => cntw f p key n + if p ≤ n ∧ f n = key then 1 else 0
theorem cntw_le (f : Nat → Int32) (p : Nat) (key : Int32) : ∀ n, cntw f p key n ≤ n
  | 0 => Nat.le_refl 0
  | n + 1 => by
    unfold cntw
    have := cntw_le f p key n
    split <;> omega
theorem cntw_0 (f : Nat → Int32) (p : Nat) (key : Int32) : ∀ n, n ≤ p → cntw f p key n = 0
  | 0, _ => rfl
  | n + 1, h => by
    unfold cntw
    rw [cntw_0 f p key n (by omega), if_neg (by omega)]
theorem cntw_congr {f g : Nat → Int32} (p : Nat) (key : Int32) : ∀ n, (∀ j, j < n → f j = g j) → cntw f p key n = cntw g p key n
  | 0, _ => rfl
  | n + 1, h => by
    unfold cntw
    rw [h n (Nat.lt_succ_self n), cntw_congr p key n (fun j hj => h j (Nat.lt_succ_of_lt hj))]
/-! ===== what each call means, on the model's row of numbers ===== -/
abbrev ZZ : Type := Nat → Int32
noncomputable def cif {α : Type} (p : Prop) (a b : α) : α := @ite α p (Classical.propDecidable p) a b
theorem cif_pos {α : Type} {p : Prop} {a b : α} (h : p) : cif p a b = a := if_pos h
theorem cif_neg {α : Type} {p : Prop} {a b : α} (h : ¬ p) : cif p a b = b := if_neg h
/-- a replica's, a session's, a write's number (the write's place: its number less one) -/
def rz (z : ZZ) (r w : Nat) : Int32 := z (5 + 5 * r + w)
def sz (z : ZZ) (s w : Nat) : Int32 := z (30 + 33 * s + w)
def wz (z : ZZ) (j w : Nat) : Int32 := z (294 + 3 * j + w)
def rs (z : ZZ) (r w : Nat) (v : Int32) : ZZ := upd z (5 + 5 * r + w) v
def ss (z : ZZ) (s w : Nat) (v : Int32) : ZZ := upd z (30 + 33 * s + w) v
def wsx (z : ZZ) (j w : Nat) (v : Int32) : ZZ := upd z (294 + 3 * j + w) v
theorem rz_rs {z : ZZ} {r w r' w' : Nat} {v : Int32} (hw : w < 5) (hw' : w' < 5) : rz (rs z r w v) r' w' = if r' = r ∧ w' = w then v else rz z r' w' := by
  unfold rz rs upd
  by_cases h : r' = r ∧ w' = w
  · rw [if_pos h, if_pos (by omega)]
  · rw [if_neg h, if_neg (by omega)]
theorem sz_rs {z : ZZ} {r w s' w' : Nat} {v : Int32} (hr : r < 5) (hw : w < 5) : sz (rs z r w v) s' w' = sz z s' w' := by
  unfold sz rs upd
  rw [if_neg (by omega)]
theorem wz_rs {z : ZZ} {r w s' w' : Nat} {v : Int32} (hr : r < 5) (hw : w < 5) : wz (rs z r w v) s' w' = wz z s' w' := by
  unfold wz rs upd
  rw [if_neg (by omega)]
theorem hz_rs {z : ZZ} {r w j : Nat} {v : Int32} (hj : j < 5) : rs z r w v j = z j := by
  unfold rs upd
  rw [if_neg (by omega)]
theorem sz_ss {z : ZZ} {r w r' w' : Nat} {v : Int32} (hw : w < 33) (hw' : w' < 33) : sz (ss z r w v) r' w' = if r' = r ∧ w' = w then v else sz z r' w' := by
  unfold sz ss upd
  by_cases h : r' = r ∧ w' = w
  · rw [if_pos h, if_pos (by omega)]
  · rw [if_neg h, if_neg (by omega)]
theorem rz_ss {z : ZZ} {s w r' w' : Nat} {v : Int32} (hr : r' < 5) (hw : w' < 5) : rz (ss z s w v) r' w' = rz z r' w' := by
  unfold rz ss upd
  rw [if_neg (by omega)]
theorem wz_ss {z : ZZ} {s w j w' : Nat} {v : Int32} (hs : s < 8) (hw : w < 33) : wz (ss z s w v) j w' = wz z j w' := by
  unfold wz ss upd
  rw [if_neg (by omega)]
theorem hz_ss {z : ZZ} {s w j : Nat} {v : Int32} (hj : j < 5) : ss z s w v j = z j := by
  unfold ss upd
  rw [if_neg (by omega)]
theorem wz_ws {z : ZZ} {r w r' w' : Nat} {v : Int32} (hw : w < 3) (hw' : w' < 3) : wz (wsx z r w v) r' w' = if r' = r ∧ w' = w then v else wz z r' w' := by
  unfold wz wsx upd
  by_cases h : r' = r ∧ w' = w
  · rw [if_pos h, if_pos (by omega)]
  · rw [if_neg h, if_neg (by omega)]
theorem rz_ws {z : ZZ} {s w r' w' : Nat} {v : Int32} (hr : r' < 5) (hw : w' < 5) : rz (wsx z s w v) r' w' = rz z r' w' := by
  unfold rz wsx upd
  rw [if_neg (by omega)]
theorem sz_ws {z : ZZ} {s w j w' : Nat} {v : Int32} (hs : j < 8) (hw : w' < 33) : sz (wsx z s w v) j w' = sz z j w' := by
  unfold sz wsx upd
  rw [if_neg (by omega)]
theorem hz_ws {z : ZZ} {s w j : Nat} {v : Int32} (hj : j < 5) : wsx z s w v j = z j := by
  unfold wsx upd
  rw [if_neg (by omega)]
theorem rz_h {z : ZZ} {j r w : Nat} {v : Int32} (hj : j < 5) : rz (upd z j v) r w = rz z r w := by
  unfold rz upd
  rw [if_neg (by omega)]
theorem sz_h {z : ZZ} {j r w : Nat} {v : Int32} (hj : j < 5) : sz (upd z j v) r w = sz z r w := by
  unfold sz upd
  rw [if_neg (by omega)]
theorem wz_h {z : ZZ} {j r w : Nat} {v : Int32} (hj : j < 5) : wz (upd z j v) r w = wz z r w := by
  unfold wz upd
  rw [if_neg (by omega)]
theorem upd_at {z : ZZ} {j i : Nat} {v : Int32} : upd z j v i = if i = j then v else z i := rfl
def isR (z : ZZ) (r : Int32) : Prop := ∃ i, i < 5 ∧ r = nI i ∧ rz z i 0 = 1
def isS (z : ZZ) (s : Int32) : Prop := ∃ i, i < 8 ∧ s = nI i ∧ sz z i 0 = 1
def isP (z : ZZ) (p : Int32) : Prop := p = nI 9 ∨ isR z p
def isK (k : Int32) : Prop := nI 0 ≤ k ∧ k ≤ nI 11
theorem isK_nat {k : Int32} (h : isK k) : ∃ q, q < 12 ∧ k = nI q := by
  obtain ⟨n, hn, e⟩ := xI_le_of (x := k) (N := 11) h.1 h.2 (by decide)
  exact ⟨n, by omega, e⟩
theorem isR_nat {z : ZZ} {i : Nat} (hi : i < 2 ^ 31) : isR z (nI i) ↔ i < 5 ∧ rz z i 0 = 1 := by
  constructor
  · rintro ⟨j, hj, e, h⟩
    have := xI_inj hi (by omega) e
    subst this
    exact ⟨hj, h⟩
  · rintro ⟨h1, h2⟩
    exact ⟨i, h1, rfl, h2⟩
theorem isS_nat {z : ZZ} {i : Nat} (hi : i < 2 ^ 31) : isS z (nI i) ↔ i < 8 ∧ sz z i 0 = 1 := by
  constructor
  · rintro ⟨j, hj, e, h⟩
    have := xI_inj hi (by omega) e
    subst this
    exact ⟨hj, h⟩
  · rintro ⟨h1, h2⟩
    exact ⟨i, h1, rfl, h2⟩
/-- a place by its number -/
def isPn (z : ZZ) (p : Nat) : Prop := p = 9 ∨ (p < 5 ∧ rz z p 0 = 1)
theorem isP_nat {z : ZZ} {p : Int32} (h : isP z p) : ∃ q, p = nI q ∧ isPn z q := by
  rcases h with h | ⟨i, h1, h2, h3⟩
  · exact ⟨9, h, Or.inl rfl⟩
  · exact ⟨i, h2, Or.inr ⟨h1, h3⟩⟩
theorem isP_of {z : ZZ} {p : Nat} (h : isPn z p) : isP z (nI p) := by
  rcases h with rfl | ⟨h1, h2⟩
  · exact Or.inl rfl
  · exact Or.inr ⟨p, h1, rfl, h2⟩
def posz (z : ZZ) (p : Nat) : Int32 := if p = 9 then z 0 else rz z p 1
def keyf (z : ZZ) (j : Nat) : Int32 := wz z j 0
def nt (x : Int32) : Nat := x.toNatClampNeg
theorem nt_nI {n : Nat} (h : n < 2 ^ 31) : nt (nI n) = n := nI_clamp h
def valz (z : ZZ) (v : Nat) : Int32 := if v = 0 then -6 else wz z (v - 1) 1
noncomputable def hasz (z : ZZ) (s : Nat) (o : Int32) : Prop := ¬ (sz z s 2 &&& o) = 0
noncomputable def needz (z : ZZ) (s : Nat) : Nat := max (cif (hasz z s (nI 1)) (nt (sz z s 4)) 0) (cif (hasz z s (nI 2)) (nt (sz z s 5)) 0)
noncomputable def nedz (z : ZZ) (s : Nat) (key : Int32) : Nat := cif (hasz z s (nI 4)) (lastw (keyf z) (needz z s) key) (needz z s)
/-- the wait of n positions at most for a place: what a replica at p with its rate and stop needs for a position n -/
noncomputable def tkz (p n : Nat) (st rate : Int32) : Int32 := cif (n ≤ p) (nI 0) (cif (st = 1 ∨ rate = 0) (-6) ((nI (n - p) + rate - nI 1) / rate))
noncomputable def waitz (z : ZZ) (s : Nat) (key : Int32) (p : Nat) : Int32 := cif (p = 9) (nI 0) (tkz (nt (rz z p 1)) (nedz z s key) (rz z p 3) (rz z p 2))
/-- what holds of each state -/
def Inv (z : ZZ) (c : Nat) : Prop := c ≤ 200 ∧ z 0 = nI c ∧
  (∀ r, r < 5 → (rz z r 0 = 0 ∨ rz z r 0 = 1) ∧ (rz z r 0 = 1 → (∃ p, p ≤ c ∧ rz z r 1 = nI p) ∧ (∃ q, q ≤ 9 ∧ rz z r 2 = nI q) ∧ (rz z r 3 = 0 ∨ rz z r 3 = 1))) ∧
  (∀ s, s < 8 → (sz z s 0 = 0 ∨ sz z s 0 = 1) ∧ (sz z s 0 = 1 → isP z (sz z s 1) ∧ (∃ b, b ≤ 20 ∧ sz z s 3 = nI b) ∧ (∃ a, a ≤ c ∧ sz z s 4 = nI a) ∧ (∃ a, a ≤ c ∧ sz z s 5 = nI a)))
end
section
/-! ===== leaves: the class's small methods ===== -/

set_option maxRecDepth 100000 in
set_option maxHeartbeats 4000000 in
theorem c_X6_isWithin {E : EV} {l : Launch} {mem : MEM} {a b c : Int32} : Ct E l yX6_isWithin (me_ws yX6_isWithin cX6_isWithin 3 (some .boolean)) 1 [iv a, iv b, iv c] mem (Ret (iv (b2i (b ≤ a ∧ a ≤ c))) mem) := by
  refine Ct.of (RC := RX6) (ls0 := [iv a, iv b, iv c]) mi_yX6_isWithin (Nat.le_of_ble_eq_true rfl) rfl (fun X C hX => ?_)
  refine e_iload_n C dX6_isWithin_0 rfl ?_
  refine e_iload_n C dX6_isWithin_1 rfl ?_
  refine e_icmp_lt (tgt := 14) C dX6_isWithin_2 (by decide) (fun h_2 => ?_) (fun h_2 => ?_)
  · skip
    refine e_iconst (v := nI 0) C dX6_isWithin_14 (by decide) ?_
    exact f_zf C hX dX6_isWithin_15 (by simp only [Int32.lt_iff_toInt_lt, Int32.le_iff_toInt_le, ← Int32.toInt_inj, Int32.toInt_zero, nI_toInt, Nat.reducePow, Nat.reduceLT] at *; omega) rfl
  · skip
    refine e_iload_n C dX6_isWithin_5 rfl ?_
    refine e_iload_n C dX6_isWithin_6 rfl ?_
    refine e_icmp_gt (tgt := 14) C dX6_isWithin_7 (by decide) (fun h_7 => ?_) (fun h_7 => ?_)
    · skip
      refine e_iconst (v := nI 0) C dX6_isWithin_14 (by decide) ?_
      exact f_zf C hX dX6_isWithin_15 (by simp only [Int32.lt_iff_toInt_lt, Int32.le_iff_toInt_le, ← Int32.toInt_inj, Int32.toInt_zero, nI_toInt, Nat.reducePow, Nat.reduceLT] at *; omega) rfl
    · skip
      refine e_iconst (v := nI 1) C dX6_isWithin_10 (by decide) ?_
      refine e_goto (tgt := 15) C dX6_isWithin_11 (by decide) ?_
      exact f_zt C hX dX6_isWithin_15 (by simp only [Int32.lt_iff_toInt_lt, Int32.le_iff_toInt_le, ← Int32.toInt_inj, Int32.toInt_zero, nI_toInt, Nat.reducePow, Nat.reduceLT] at *; omega) rfl
set_option maxRecDepth 100000 in
set_option maxHeartbeats 4000000 in
theorem c_X6_isKey {E : EV} {l : Launch} {mem : MEM} {a : Int32} : Ct E l yX6_isKey (me_ws yX6_isKey cX6_isKey 1 (some .boolean)) 2 [iv a] mem (Ret (iv (b2i (nI 0 ≤ a ∧ a ≤ nI 11))) mem) := by
  refine Ct.of (RC := RX6) (ls0 := [iv a]) mi_yX6_isKey (Nat.le_of_ble_eq_true rfl) rfl (fun X C hX => ?_)
  refine e_iload_n C dX6_isKey_0 rfl ?_
  refine e_iconst (v := nI 0) C dX6_isKey_1 (by decide) ?_
  refine e_bipush (v := nI 11) C dX6_isKey_2 (by decide) ?_
  refine f_callSr (As := [_, _, _]) C mi_yX6_isWithin b_st_yX6_isWithin b_ml_X6_189 dX6_isKey_4 rfl c_X6_isWithin (by decide) (Nat.le_of_ble_eq_true rfl) ?_
  exact f_zb C hX dX6_isKey_7 Iff.rfl rfl
set_option maxRecDepth 100000 in
set_option maxHeartbeats 4000000 in
theorem c_X6_isError {E : EV} {l : Launch} {mem : MEM} {a : Int32} : Ct E l yX6_isError (me_ws yX6_isError cX6_isError 1 (some .boolean)) 2 [iv a] mem (Ret (iv (b2i (-5 ≤ a ∧ a ≤ -1))) mem) := by
  refine Ct.of (RC := RX6) (ls0 := [iv a]) mi_yX6_isError (Nat.le_of_ble_eq_true rfl) rfl (fun X C hX => ?_)
  refine e_iload_n C dX6_isError_0 rfl ?_
  refine e_bipush (v := -5) C dX6_isError_1 (by decide) ?_
  refine e_iconst (v := -1) C dX6_isError_3 (by decide) ?_
  refine f_callSr (As := [_, _, _]) C mi_yX6_isWithin b_st_yX6_isWithin b_ml_X6_189 dX6_isError_4 rfl c_X6_isWithin (by decide) (Nat.le_of_ble_eq_true rfl) ?_
  exact f_zb C hX dX6_isError_7 Iff.rfl rfl
set_option maxRecDepth 100000 in
set_option maxHeartbeats 4000000 in
theorem c_X1_contains {E : EV} {l : Launch} {mem : MEM} {k : Nat} (hk : k < 8) {n : Int32} : Ct E l yX1_contains (me_ws yX1_contains cX1_contains 2 (some .boolean)) 1 [rv (2, k, 0), iv n] mem (Ret (iv (b2i (nI 1 ≤ n ∧ n ≤ mem (2, k, 0) 0 ∧ n ≤ nI 200))) mem) := by
  refine Ct.of (RC := RX1) (ls0 := [rv (2, k, 0), iv n]) mi_yX1_contains (Nat.le_of_ble_eq_true rfl) rfl (fun X C hX => ?_)
  refine e_iload_n C dX1_contains_0 rfl ?_
  refine e_iconst (v := nI 1) C dX1_contains_1 (by decide) ?_
  refine e_icmp_lt (tgt := 24) C dX1_contains_2 (by decide) (fun h_2 => ?_) (fun h_2 => ?_)
  · skip
    refine e_iconst (v := nI 0) C dX1_contains_24 (by decide) ?_
    exact f_zf C hX dX1_contains_25 (by simp only [Int32.lt_iff_toInt_lt, Int32.le_iff_toInt_le, ← Int32.toInt_inj, Int32.toInt_zero, nI_toInt, Nat.reducePow, Nat.reduceLT] at *; omega) rfl
  · skip
    refine e_iload_n C dX1_contains_5 rfl ?_
    refine e_aload_n C dX1_contains_6 rfl ?_
    refine e_geti C (ci := 1) 0 rfl rfl rfl (by decide) b_X1 rfl b_fl_X1_9 (v2 hk) rfl dX1_contains_7 ?_
    refine e_icmp_gt (tgt := 24) C dX1_contains_10 (by decide) (fun h_10 => ?_) (fun h_10 => ?_)
    · skip
      refine e_iconst (v := nI 0) C dX1_contains_24 (by decide) ?_
      exact f_zf C hX dX1_contains_25 (by simp only [Int32.lt_iff_toInt_lt, Int32.le_iff_toInt_le, ← Int32.toInt_inj, Int32.toInt_zero, nI_toInt, Nat.reducePow, Nat.reduceLT] at *; omega) rfl
    · skip
      refine e_iload_n C dX1_contains_13 rfl ?_
      refine e_sipush (v := nI 200) C dX1_contains_14 (by decide) ?_
      refine e_icmp_gt (tgt := 24) C dX1_contains_17 (by decide) (fun h_17 => ?_) (fun h_17 => ?_)
      · skip
        refine e_iconst (v := nI 0) C dX1_contains_24 (by decide) ?_
        exact f_zf C hX dX1_contains_25 (by simp only [Int32.lt_iff_toInt_lt, Int32.le_iff_toInt_le, ← Int32.toInt_inj, Int32.toInt_zero, nI_toInt, Nat.reducePow, Nat.reduceLT] at *; omega) rfl
      · skip
        refine e_iconst (v := nI 1) C dX1_contains_20 (by decide) ?_
        refine e_goto (tgt := 25) C dX1_contains_21 (by decide) ?_
        exact f_zt C hX dX1_contains_25 (by simp only [Int32.lt_iff_toInt_lt, Int32.le_iff_toInt_le, ← Int32.toInt_inj, Int32.toInt_zero, nI_toInt, Nat.reducePow, Nat.reduceLT] at *; omega) rfl
theorem c_X1_contains_n {E : EV} {l : Launch} {mem : MEM} {k : Nat} (hk : k < 8) {c j : Nat} (hc : mem (2, k, 0) 0 = nI c) (hcl : c ≤ 200) (hj : j < 2 ^ 31) : Ct E l yX1_contains (me_ws yX1_contains cX1_contains 2 (some .boolean)) 1 [rv (2, k, 0), iv (nI j)] mem (Ret (iv (b2i (1 ≤ j ∧ j ≤ c))) mem) := by
  have h := c_X1_contains (E := E) (l := l) (mem := mem) hk (n := nI j)
  have e : b2i (nI 1 ≤ nI j ∧ nI j ≤ mem (2, k, 0) 0 ∧ nI j ≤ nI 200) = b2i (1 ≤ j ∧ j ≤ c) := b2i_congr (by
    rw [hc, nI_leI (by omega) (by omega), nI_leI (by omega) (by omega), nI_leI (by omega) (by omega)]
    omega)
  rw [e] at h
  exact h
set_option maxRecDepth 100000 in
set_option maxHeartbeats 4000000 in
theorem c_X1_keyOf {E : EV} {l : Launch} {mem : MEM} {k : Nat} (hk : k < 8) {c : Nat} (hc : mem (2, k, 0) 0 = nI c) (hcl : c ≤ 200) {i : Nat} (hi : i < c) : Ct E l yX1_keyOf (me_ws yX1_keyOf cX1_keyOf 2 (some .int)) 2 [rv (2, k, 0), iv (nI (i + 1))] mem (Ret (iv (mem (3, k, 0) i)) mem) := by
  refine Ct.of (RC := RX1) (ls0 := [rv (2, k, 0), iv (nI (i + 1))]) mi_yX1_keyOf (Nat.le_of_ble_eq_true rfl) rfl (fun X C hX => ?_)
  refine e_aload_n C dX1_keyOf_0 rfl ?_
  refine e_iload_n C dX1_keyOf_1 rfl ?_
  refine f_callVr (As := [_]) (ci := 1) C mi_yX1_contains mv_yX1_contains b_ml_X1_25 dX1_keyOf_2 rfl (c_X1_contains_n hk hc hcl (by omega)) (by decide) (v2 hk) rfl rfl (Nat.le_of_ble_eq_true rfl) ?_
  refine f_if_eq (tgt := 19) C dX1_keyOf_5 (by decide) (fun h_5 => ?_) (fun h_5 => ?_)
  · skip
    omega
  · skip
    refine e_aload_n C dX1_keyOf_8 rfl ?_
    refine e_getr C (ci := 1) 1 rfl rfl rfl (by decide) b_X1 rfl b_fl_X1_15 (v2 hk) rfl dX1_keyOf_9 ?_
    refine e_iload_n C dX1_keyOf_12 rfl ?_
    refine e_iconst (v := nI 1) C dX1_keyOf_13 (by decide) ?_
    refine f_isubn C (by omega) dX1_keyOf_14 ?_
    refine f_iald C rfl (v3 hk) (by omega) (by decide) dX1_keyOf_15 ?_
    refine e_goto (tgt := 21) C dX1_keyOf_16 (by decide) ?_
    exact f_ir C hX dX1_keyOf_21 rfl rfl
set_option maxRecDepth 100000 in
set_option maxHeartbeats 4000000 in
theorem c_X1_valueOf {E : EV} {l : Launch} {mem : MEM} {k : Nat} (hk : k < 8) {c : Nat} (hc : mem (2, k, 0) 0 = nI c) (hcl : c ≤ 200) {i : Nat} (hi : i < c) : Ct E l yX1_valueOf (me_ws yX1_valueOf cX1_valueOf 2 (some .int)) 2 [rv (2, k, 0), iv (nI (i + 1))] mem (Ret (iv (mem (4, k, 0) i)) mem) := by
  refine Ct.of (RC := RX1) (ls0 := [rv (2, k, 0), iv (nI (i + 1))]) mi_yX1_valueOf (Nat.le_of_ble_eq_true rfl) rfl (fun X C hX => ?_)
  refine e_aload_n C dX1_valueOf_0 rfl ?_
  refine e_iload_n C dX1_valueOf_1 rfl ?_
  refine f_callVr (As := [_]) (ci := 1) C mi_yX1_contains mv_yX1_contains b_ml_X1_25 dX1_valueOf_2 rfl (c_X1_contains_n hk hc hcl (by omega)) (by decide) (v2 hk) rfl rfl (Nat.le_of_ble_eq_true rfl) ?_
  refine f_if_eq (tgt := 19) C dX1_valueOf_5 (by decide) (fun h_5 => ?_) (fun h_5 => ?_)
  · skip
    omega
  · skip
    refine e_aload_n C dX1_valueOf_8 rfl ?_
    refine e_getr C (ci := 1) 2 rfl rfl rfl (by decide) b_X1 rfl b_fl_X1_19 (v2 hk) rfl dX1_valueOf_9 ?_
    refine e_iload_n C dX1_valueOf_12 rfl ?_
    refine e_iconst (v := nI 1) C dX1_valueOf_13 (by decide) ?_
    refine f_isubn C (by omega) dX1_valueOf_14 ?_
    refine f_iald C rfl (v4 hk) (by omega) (by decide) dX1_valueOf_15 ?_
    refine e_goto (tgt := 21) C dX1_valueOf_16 (by decide) ?_
    exact f_ir C hX dX1_valueOf_21 rfl rfl
set_option maxRecDepth 100000 in
set_option maxHeartbeats 4000000 in
theorem c_X1_writerOf {E : EV} {l : Launch} {mem : MEM} {k : Nat} (hk : k < 8) {c : Nat} (hc : mem (2, k, 0) 0 = nI c) (hcl : c ≤ 200) {i : Nat} (hi : i < c) : Ct E l yX1_writerOf (me_ws yX1_writerOf cX1_writerOf 2 (some .int)) 2 [rv (2, k, 0), iv (nI (i + 1))] mem (Ret (iv (mem (5, k, 0) i)) mem) := by
  refine Ct.of (RC := RX1) (ls0 := [rv (2, k, 0), iv (nI (i + 1))]) mi_yX1_writerOf (Nat.le_of_ble_eq_true rfl) rfl (fun X C hX => ?_)
  refine e_aload_n C dX1_writerOf_0 rfl ?_
  refine e_iload_n C dX1_writerOf_1 rfl ?_
  refine f_callVr (As := [_]) (ci := 1) C mi_yX1_contains mv_yX1_contains b_ml_X1_25 dX1_writerOf_2 rfl (c_X1_contains_n hk hc hcl (by omega)) (by decide) (v2 hk) rfl rfl (Nat.le_of_ble_eq_true rfl) ?_
  refine f_if_eq (tgt := 19) C dX1_writerOf_5 (by decide) (fun h_5 => ?_) (fun h_5 => ?_)
  · skip
    omega
  · skip
    refine e_aload_n C dX1_writerOf_8 rfl ?_
    refine e_getr C (ci := 1) 3 rfl rfl rfl (by decide) b_X1 rfl b_fl_X1_22 (v2 hk) rfl dX1_writerOf_9 ?_
    refine e_iload_n C dX1_writerOf_12 rfl ?_
    refine e_iconst (v := nI 1) C dX1_writerOf_13 (by decide) ?_
    refine f_isubn C (by omega) dX1_writerOf_14 ?_
    refine f_iald C rfl (v5 hk) (by omega) (by decide) dX1_writerOf_15 ?_
    refine e_goto (tgt := 21) C dX1_writerOf_16 (by decide) ?_
    exact f_ir C hX dX1_writerOf_21 rfl rfl
set_option maxRecDepth 100000 in
set_option maxHeartbeats 4000000 in
theorem c_X1_valueOf_0 {E : EV} {l : Launch} {mem : MEM} {k : Nat} (hk : k < 8) {c : Nat} (hc : mem (2, k, 0) 0 = nI c) (hcl : c ≤ 200) : Ct E l yX1_valueOf (me_ws yX1_valueOf cX1_valueOf 2 (some .int)) 2 [rv (2, k, 0), iv (nI 0)] mem (Ret (iv (-6)) mem) := by
  refine Ct.of (RC := RX1) (ls0 := [rv (2, k, 0), iv (nI 0)]) mi_yX1_valueOf (Nat.le_of_ble_eq_true rfl) rfl (fun X C hX => ?_)
  refine e_aload_n C dX1_valueOf_0 rfl ?_
  refine e_iload_n C dX1_valueOf_1 rfl ?_
  refine f_callVr (As := [_]) (ci := 1) C mi_yX1_contains mv_yX1_contains b_ml_X1_25 dX1_valueOf_2 rfl (c_X1_contains_n hk hc hcl (by omega)) (by decide) (v2 hk) rfl rfl (Nat.le_of_ble_eq_true rfl) ?_
  refine f_if_eq (tgt := 19) C dX1_valueOf_5 (by decide) (fun h_5 => ?_) (fun h_5 => ?_)
  · skip
    refine e_bipush (v := -6) C dX1_valueOf_19 (by decide) ?_
    exact f_ir C hX dX1_valueOf_21 rfl rfl
  · skip
    omega
set_option maxRecDepth 100000 in
set_option maxHeartbeats 4000000 in
theorem c_X1_add {E : EV} {l : Launch} {mem : MEM} {k : Nat} (hk : k < 8) {c : Nat} (hc : mem (2, k, 0) 0 = nI c) (hcl : c < 200) {key value writer : Int32} : Ct E l yX1_add (me_ws yX1_add cX1_add 4 (some .int)) 1 [rv (2, k, 0), iv key, iv value, iv writer] mem (Ret (iv (nI (c + 1))) (up (up (up (up mem (3, k, 0) c key) (4, k, 0) c value) (5, k, 0) c writer) (2, k, 0) 0 (nI (c + 1)))) := by
  refine Ct.of (RC := RX1) (ls0 := [rv (2, k, 0), iv key, iv value, iv writer]) mi_yX1_add (Nat.le_of_ble_eq_true rfl) rfl (fun X C hX => ?_)
  refine e_aload_n C dX1_add_0 rfl ?_
  refine e_geti C (ci := 1) 0 rfl rfl rfl (by decide) b_X1 rfl b_fl_X1_9 (v2 hk) rfl dX1_add_1 ?_
  refine f_val (y := nI (c)) (by first | exact hc | simp [up, hc]) ?_
  refine e_if_lt (tgt := 17) C dX1_add_4 (by decide) (fun h_4 => ?_) (fun h_4 => ?_)
  · skip
    have nh_4 := xI_ltD (a := c) (b := 0) (by omega) (by omega) h_4
    exact absurd nh_4 (Nat.not_lt_zero _)
  · skip
    have nh_4 := xI_nltD (a := c) (b := 0) (by omega) (by omega) h_4
    refine e_aload_n C dX1_add_7 rfl ?_
    refine e_geti C (ci := 1) 0 rfl rfl rfl (by decide) b_X1 rfl b_fl_X1_9 (v2 hk) rfl dX1_add_8 ?_
    refine f_val (y := nI (c)) (by first | exact hc | simp [up, hc]) ?_
    refine e_sipush (v := nI 200) C dX1_add_11 (by decide) ?_
    refine e_icmp_lt (tgt := 20) C dX1_add_14 (by decide) (fun h_14 => ?_) (fun h_14 => ?_)
    · skip
      have nh_14 := xI_ltD (by omega) (by omega) h_14
      refine e_aload_n C dX1_add_20 rfl ?_
      refine e_getr C (ci := 1) 1 rfl rfl rfl (by decide) b_X1 rfl b_fl_X1_15 (v2 hk) rfl dX1_add_21 ?_
      refine e_aload_n C dX1_add_24 rfl ?_
      refine e_geti C (ci := 1) 0 rfl rfl rfl (by decide) b_X1 rfl b_fl_X1_9 (v2 hk) rfl dX1_add_25 ?_
      refine f_val (y := nI (c)) (by first | exact hc | simp [up, hc]) ?_
      refine e_iload_n C dX1_add_28 rfl ?_
      refine f_iast C rfl (v3 hk) (by omega) (by decide) dX1_add_29 ?_
      refine e_aload_n C dX1_add_30 rfl ?_
      refine e_getr C (ci := 1) 2 rfl rfl rfl (by decide) b_X1 rfl b_fl_X1_19 (v2 hk) rfl dX1_add_31 ?_
      refine e_aload_n C dX1_add_34 rfl ?_
      refine e_geti C (ci := 1) 0 rfl rfl rfl (by decide) b_X1 rfl b_fl_X1_9 (v2 hk) rfl dX1_add_35 ?_
      refine f_val (y := nI (c)) (by first | exact hc | simp [up, hc]) ?_
      refine e_iload_n C dX1_add_38 rfl ?_
      refine f_iast C rfl (v4 hk) (by omega) (by decide) dX1_add_39 ?_
      refine e_aload_n C dX1_add_40 rfl ?_
      refine e_getr C (ci := 1) 3 rfl rfl rfl (by decide) b_X1 rfl b_fl_X1_22 (v2 hk) rfl dX1_add_41 ?_
      refine e_aload_n C dX1_add_44 rfl ?_
      refine e_geti C (ci := 1) 0 rfl rfl rfl (by decide) b_X1 rfl b_fl_X1_9 (v2 hk) rfl dX1_add_45 ?_
      refine f_val (y := nI (c)) (by first | exact hc | simp [up, hc]) ?_
      refine e_iload_n C dX1_add_48 rfl ?_
      refine f_iast C rfl (v5 hk) (by omega) (by decide) dX1_add_49 ?_
      refine e_aload_n C dX1_add_50 rfl ?_
      refine e_dup C dX1_add_51 ?_
      refine e_geti C (ci := 1) 0 rfl rfl rfl (by decide) b_X1 rfl b_fl_X1_9 (v2 hk) rfl dX1_add_52 ?_
      refine f_val (y := nI (c)) (by first | exact hc | simp [up, hc]) ?_
      refine e_iconst (v := nI 1) C dX1_add_55 (by decide) ?_
      refine f_iaddn C dX1_add_56 ?_
      refine e_puti C (ci := 1) 0 rfl rfl rfl (by decide) b_X1 rfl b_fl_X1_9 (v2 hk) tyX1 tyX1_ok nmX1 rfl (.inl ⟨rfl, rfl⟩) rfl dX1_add_57 ?_
      refine e_aload_n C dX1_add_60 rfl ?_
      refine e_geti C (ci := 1) 0 rfl rfl rfl (by decide) b_X1 rfl b_fl_X1_9 (v2 hk) rfl dX1_add_61 ?_
      refine f_val (y := nI (c + 1)) (by simp [up]) ?_
      exact f_ir C hX dX1_add_64 rfl rfl
    · skip
      have nh_14 := xI_nltD (by omega) (by omega) h_14
      omega
set_option maxRecDepth 100000 in
set_option maxHeartbeats 4000000 in
theorem c_X1_add_full {E : EV} {l : Launch} {mem : MEM} {k : Nat} (hk : k < 8) (hc : mem (2, k, 0) 0 = nI 200) {key value writer : Int32} : Ct E l yX1_add (me_ws yX1_add cX1_add 4 (some .int)) 1 [rv (2, k, 0), iv key, iv value, iv writer] mem (Ret (iv (-4)) mem) := by
  refine Ct.of (RC := RX1) (ls0 := [rv (2, k, 0), iv key, iv value, iv writer]) mi_yX1_add (Nat.le_of_ble_eq_true rfl) rfl (fun X C hX => ?_)
  refine e_aload_n C dX1_add_0 rfl ?_
  refine e_geti C (ci := 1) 0 rfl rfl rfl (by decide) b_X1 rfl b_fl_X1_9 (v2 hk) rfl dX1_add_1 ?_
  refine f_val (y := nI (200)) (by first | exact hc | simp [up, hc]) ?_
  refine e_if_lt (tgt := 17) C dX1_add_4 (by decide) (fun h_4 => ?_) (fun h_4 => ?_)
  · skip
    have nh_4 := xI_ltD (a := 200) (b := 0) (by omega) (by omega) h_4
    exact absurd nh_4 (Nat.not_lt_zero _)
  · skip
    have nh_4 := xI_nltD (a := 200) (b := 0) (by omega) (by omega) h_4
    refine e_aload_n C dX1_add_7 rfl ?_
    refine e_geti C (ci := 1) 0 rfl rfl rfl (by decide) b_X1 rfl b_fl_X1_9 (v2 hk) rfl dX1_add_8 ?_
    refine f_val (y := nI (200)) (by first | exact hc | simp [up, hc]) ?_
    refine e_sipush (v := nI 200) C dX1_add_11 (by decide) ?_
    refine e_icmp_lt (tgt := 20) C dX1_add_14 (by decide) (fun h_14 => ?_) (fun h_14 => ?_)
    · skip
      have nh_14 := xI_ltD (by omega) (by omega) h_14
      omega
    · skip
      have nh_14 := xI_nltD (by omega) (by omega) h_14
      refine e_bipush (v := -4) C dX1_add_17 (by decide) ?_
      exact f_ir C hX dX1_add_19 rfl rfl
set_option maxRecDepth 100000 in
set_option maxHeartbeats 4000000 in
theorem lp_X1_versionAt {E : EV} {l : Launch} {X : CX} {mem : MEM} {k : Nat} (hk : k < 8) {c : Nat} (hc : mem (2, k, 0) 0 = nI c) (hcl : c ≤ 200) {p : Nat} (hp : p ≤ c) {key : Int32} (C : CK E X RX1 cX1_versionAt 4 (some .int) 3) (hX : EX E X l (Ret (iv (nI (lastw (mem (3, k, 0)) p key))) mem)) : ∀ (lpn : Nat) (j : Nat), j < lpn → j ≤ p → lastw (mem (3, k, 0)) j key = lastw (mem (3, k, 0)) p key → G E X 4 9 [rv (2, k, 0), iv (nI p), iv key, iv (nI j)] [] mem := by
  intro lpn
  induction lpn with
  | zero => intro j hlpn; exact absurd hlpn (Nat.not_lt_zero _)
  | succ lpn ih =>
    intro j hlpn hj hv
    refine e_iload_n C dX1_versionAt_9 rfl ?_
    refine e_if_le (tgt := 28) C dX1_versionAt_10 (by decide) (fun h_10 => ?_) (fun h_10 => ?_)
    · skip
      have nh_10 := xI_leD (a := j) (b := 0) (by omega) (by omega) h_10
      obtain rfl : j = 0 := by omega
      refine e_iload_n C dX1_versionAt_28 rfl ?_
      exact f_ir C hX dX1_versionAt_29 (by rw [← hv]; rfl) rfl
    · skip
      have nh_10 := xI_nleD (a := j) (b := 0) (by omega) (by omega) h_10
      obtain ⟨i, rfl⟩ : ∃ i, j = i + 1 := ⟨j - 1, by omega⟩
      refine e_aload_n C dX1_versionAt_13 rfl ?_
      refine e_iload_n C dX1_versionAt_14 rfl ?_
      refine f_callVr (As := [_]) (ci := 1) C mi_yX1_keyOf mv_yX1_keyOf b_ml_X1_35 dX1_versionAt_15 rfl (c_X1_keyOf hk hc hcl (by omega)) (by decide) (v2 hk) rfl rfl (Nat.le_of_ble_eq_true rfl) ?_
      refine e_iload_n C dX1_versionAt_18 rfl ?_
      refine e_icmp_eq (tgt := 28) C dX1_versionAt_19 (by decide) (fun h_19 => ?_) (fun h_19 => ?_)
      · skip
        refine e_iload_n C dX1_versionAt_28 rfl ?_
        exact f_ir C hX dX1_versionAt_29 (by rw [← hv, lastw_yes (by assumption)]) rfl
      · skip
        refine f_idec (ls1 := [_, _, _, _]) C dX1_versionAt_22 rfl (by decide) rfl ?_
        refine e_goto (tgt := 9) C dX1_versionAt_25 (by decide) ?_
        exact ih i (by omega) (by omega) (by rw [← hv, lastw_no (by assumption)])
set_option maxRecDepth 100000 in
set_option maxHeartbeats 4000000 in
theorem c_X1_versionAt {E : EV} {l : Launch} {mem : MEM} {k : Nat} (hk : k < 8) {c : Nat} (hc : mem (2, k, 0) 0 = nI c) (hcl : c ≤ 200) {p : Nat} (hp : p ≤ c) {key : Int32} : Ct E l yX1_versionAt (me_ws yX1_versionAt cX1_versionAt 4 (some .int)) 3 [rv (2, k, 0), iv (nI p), iv key] mem (Ret (iv (nI (lastw (mem (3, k, 0)) p key))) mem) := by
  refine Ct.of (RC := RX1) (ls0 := [rv (2, k, 0), iv (nI p), iv key, uv]) mi_yX1_versionAt (Nat.le_of_ble_eq_true rfl) rfl (fun X C hX => ?_)
  refine e_iload_n C dX1_versionAt_0 rfl ?_
  refine e_aload_n C dX1_versionAt_1 rfl ?_
  refine e_geti C (ci := 1) 0 rfl rfl rfl (by decide) b_X1 rfl b_fl_X1_9 (v2 hk) rfl dX1_versionAt_2 ?_
  refine f_val (y := nI (c)) hc ?_
  refine e_mmin C b_ml_X1_29 dX1_versionAt_5 (Nat.le_of_ble_eq_true rfl) (by decide) ?_
  refine f_val (y := nI (p)) (if_neg (nI_nlt hp (by omega))) ?_
  refine f_istore_n (ls1 := [_, _, _, _]) C dX1_versionAt_8 (by decide) rfl ?_
  exact lp_X1_versionAt hk hc hcl hp C hX (p + 1) p (Nat.lt_succ_self p) (Nat.le_refl p) rfl
set_option maxRecDepth 100000 in
set_option maxHeartbeats 4000000 in
theorem lp_X1_countAfter {E : EV} {l : Launch} {X : CX} {mem : MEM} {k : Nat} (hk : k < 8) {c : Nat} (hc : mem (2, k, 0) 0 = nI c) (hcl : c ≤ 200) {p : Nat} (hp : p ≤ c) {key : Int32} (C : CK E X RX1 cX1_countAfter 5 (some .int) 3) (hX : EX E X l (Ret (iv (nI (cntw (mem (3, k, 0)) p key c))) mem)) : ∀ (lpn : Nat) (j w : Nat), j < lpn → j ≤ c → w + cntw (mem (3, k, 0)) p key j = cntw (mem (3, k, 0)) p key c → G E X 5 8 [rv (2, k, 0), iv (nI p), iv key, iv (nI w), iv (nI j)] [] mem := by
  intro lpn
  induction lpn with
  | zero => intro j w hlpn; exact absurd hlpn (Nat.not_lt_zero _)
  | succ lpn ih =>
    intro j w hlpn hj hv
    refine e_iload C dX1_countAfter_8 rfl ?_
    refine e_iload_n C dX1_countAfter_10 rfl ?_
    refine e_icmp_le (tgt := 38) C dX1_countAfter_11 (by decide) (fun h_11 => ?_) (fun h_11 => ?_)
    · skip
      have nh_11 := xI_leD (by omega) (by omega) h_11
      refine e_iload_n C dX1_countAfter_38 rfl ?_
      exact f_ir C hX dX1_countAfter_39 (by rw [← hv, cntw_0 _ _ _ j (by omega)]; rfl) rfl
    · skip
      have nh_11 := xI_nleD (by omega) (by omega) h_11
      refine e_iload C dX1_countAfter_14 rfl ?_
      refine e_if_le (tgt := 38) C dX1_countAfter_16 (by decide) (fun h_16 => ?_) (fun h_16 => ?_)
      · skip
        have nh_16 := xI_leD (a := j) (b := 0) (by omega) (by omega) h_16
        refine e_iload_n C dX1_countAfter_38 rfl ?_
        exact f_ir C hX dX1_countAfter_39 (by rw [← hv, cntw_0 _ _ _ j (by omega)]; rfl) rfl
      · skip
        have nh_16 := xI_nleD (a := j) (b := 0) (by omega) (by omega) h_16
        obtain ⟨i, rfl⟩ : ∃ i, j = i + 1 := ⟨j - 1, by omega⟩
        refine e_aload_n C dX1_countAfter_19 rfl ?_
        refine e_iload C dX1_countAfter_20 rfl ?_
        refine f_callVr (As := [_]) (ci := 1) C mi_yX1_keyOf mv_yX1_keyOf b_ml_X1_35 dX1_countAfter_22 rfl (c_X1_keyOf hk hc hcl (by omega)) (by decide) (v2 hk) rfl rfl (Nat.le_of_ble_eq_true rfl) ?_
        refine e_iload_n C dX1_countAfter_25 rfl ?_
        refine e_icmp_ne (tgt := 32) C dX1_countAfter_26 (by decide) (fun h_26 => ?_) (fun h_26 => ?_)
        · skip
          refine f_idec (ls1 := [_, _, _, _, _]) C dX1_countAfter_32 rfl (by decide) rfl ?_
          refine e_goto (tgt := 8) C dX1_countAfter_35 (by decide) ?_
          exact ih i w (by omega) (by omega) (by rw [← hv, cntw, if_neg (fun q => absurd q.2 (by assumption))]; rfl)
        · skip
          refine f_iincn (ls1 := [_, _, _, _, _]) C dX1_countAfter_29 rfl (by decide) rfl ?_
          refine f_idec (ls1 := [_, _, _, _, _]) C dX1_countAfter_32 rfl (by decide) rfl ?_
          refine e_goto (tgt := 8) C dX1_countAfter_35 (by decide) ?_
          exact ih i (w + 1) (by omega) (by omega) (by rw [← hv, cntw, if_pos ⟨by omega, by assumption⟩]; omega)
set_option maxRecDepth 100000 in
set_option maxHeartbeats 4000000 in
theorem c_X1_countAfter {E : EV} {l : Launch} {mem : MEM} {k : Nat} (hk : k < 8) {c : Nat} (hc : mem (2, k, 0) 0 = nI c) (hcl : c ≤ 200) {p : Nat} (hp : p ≤ c) {key : Int32} : Ct E l yX1_countAfter (me_ws yX1_countAfter cX1_countAfter 5 (some .int)) 3 [rv (2, k, 0), iv (nI p), iv key] mem (Ret (iv (nI (cntw (mem (3, k, 0)) p key c))) mem) := by
  refine Ct.of (RC := RX1) (ls0 := [rv (2, k, 0), iv (nI p), iv key, uv, uv]) mi_yX1_countAfter (Nat.le_of_ble_eq_true rfl) rfl (fun X C hX => ?_)
  refine e_iconst (v := nI 0) C dX1_countAfter_0 (by decide) ?_
  refine f_istore_n (ls1 := [_, _, _, _, _]) C dX1_countAfter_1 (by decide) rfl ?_
  refine e_aload_n C dX1_countAfter_2 rfl ?_
  refine e_geti C (ci := 1) 0 rfl rfl rfl (by decide) b_X1 rfl b_fl_X1_9 (v2 hk) rfl dX1_countAfter_3 ?_
  refine f_val (y := nI (c)) hc ?_
  refine f_istore (ls1 := [_, _, _, _, _]) C dX1_countAfter_6 (by decide) rfl ?_
  exact lp_X1_countAfter hk hc hcl hp C hX (c + 1) c 0 (Nat.lt_succ_self c) (Nat.le_refl c) (Nat.zero_add _)
/-- the log of a state as another's -/
def cpL (mem : MEM) (k k2 : Nat) : MEM := fun id => if id.2.1 = k ∧ 2 ≤ id.1 ∧ id.1 ≤ 5 then mem (id.1, k2, id.2.2) else mem id
theorem cpL_ok {mem : MEM} {k k2 : Nat} (hn : k ≠ k2) : EqV (cpc (cpc (cpc (up mem (2, k, 0) 0 (mem (2, k2, 0) 0)) (3, k, 0) (3, k2, 0)) (4, k, 0) (4, k2, 0)) (5, k, 0) (5, k2, 0)) (cpL mem k k2) := by
  rintro ⟨t, k', i⟩ ⟨hk, hi⟩ j hj hs
  simp only [cpc, up, cpL, Prod.mk.injEq]
  by_cases h : k' = k ∧ 2 ≤ t ∧ t ≤ 5
  · obtain ⟨rfl, h2, h5⟩ := h
    have ht : t = 2 ∨ t = 3 ∨ t = 4 ∨ t = 5 := by omega
    have hi : i = 0 := by
      rcases ht with rfl | rfl | rfl | rfl <;> exact Nat.lt_one_iff.mp hi
    subst hi
    have hj0 : t = 2 → j = 0 := by
      rintro rfl
      have hj : j < 4 := hj
      match j, hs, hj with
      | 0, _, _ => rfl
      | 1, hs, _ => cases hs
      | 2, hs, _ => cases hs
      | 3, hs, _ => cases hs
    rcases ht with rfl | rfl | rfl | rfl
    · obtain rfl := hj0 rfl
      simp [up]
    · simp [up, Ne.symm hn, hn]
    · simp [up, Ne.symm hn, hn]
    · simp [up, Ne.symm hn, hn]
  · rw [if_neg h]
    have h2 : ¬ (t = 2 ∧ k' = k ∧ i = 0) := by omega
    have h3 : ¬ (t = 3 ∧ k' = k ∧ i = 0) := by omega
    have h4 : ¬ (t = 4 ∧ k' = k ∧ i = 0) := by omega
    have h5 : ¬ (t = 5 ∧ k' = k ∧ i = 0) := by omega
    simp [up, h2, h3, h4, h5]

set_option maxRecDepth 100000 in
set_option maxHeartbeats 4000000 in
theorem c_X1_copyFrom {E : EV} {l : Launch} {mem : MEM} {k k2 : Nat} (hk : k < 8) (hk2 : k2 < 8) (hn : k ≠ k2) : Ct E l yX1_copyFrom (me_ws yX1_copyFrom cX1_copyFrom 2 none) 1 [rv (2, k, 0), rv (2, k2, 0)] mem (Ret uv (cpL mem k k2)) := by
  refine Ct.of (RC := RX1) (ls0 := [rv (2, k, 0), rv (2, k2, 0)]) mi_yX1_copyFrom (Nat.le_of_ble_eq_true rfl) rfl (fun X C hX => ?_)
  refine e_aload_n C dX1_copyFrom_0 rfl ?_
  refine e_aload_n C dX1_copyFrom_1 rfl ?_
  refine e_geti C (ci := 1) 0 rfl rfl rfl (by decide) b_X1 rfl b_fl_X1_9 (v2 hk2) rfl dX1_copyFrom_2 ?_
  refine e_puti C (ci := 1) 0 rfl rfl rfl (by decide) b_X1 rfl b_fl_X1_9 (v2 hk) tyX1 tyX1_ok nmX1 rfl (.inl ⟨rfl, rfl⟩) rfl dX1_copyFrom_5 ?_
  refine e_aload_n C dX1_copyFrom_8 rfl ?_
  refine e_getr C (ci := 1) 1 rfl rfl rfl (by decide) b_X1 rfl b_fl_X1_15 (v2 hk2) rfl dX1_copyFrom_9 ?_
  refine e_iconst (v := nI 0) C dX1_copyFrom_12 (by decide) ?_
  refine e_aload_n C dX1_copyFrom_13 rfl ?_
  refine e_getr C (ci := 1) 1 rfl rfl rfl (by decide) b_X1 rfl b_fl_X1_15 (v2 hk) rfl dX1_copyFrom_14 ?_
  refine e_iconst (v := nI 0) C dX1_copyFrom_17 (by decide) ?_
  refine e_sipush (v := nI 200) C dX1_copyFrom_18 (by decide) ?_
  refine e_copy (n := 200) C rfl rfl (v3 hk2) (v3 hk) (by decide) (by decide) b_ml_X1_39 dX1_copyFrom_21 (Nat.le_of_ble_eq_true rfl) (by decide) ?_
  refine e_aload_n C dX1_copyFrom_24 rfl ?_
  refine e_getr C (ci := 1) 2 rfl rfl rfl (by decide) b_X1 rfl b_fl_X1_19 (v2 hk2) rfl dX1_copyFrom_25 ?_
  refine e_iconst (v := nI 0) C dX1_copyFrom_28 (by decide) ?_
  refine e_aload_n C dX1_copyFrom_29 rfl ?_
  refine e_getr C (ci := 1) 2 rfl rfl rfl (by decide) b_X1 rfl b_fl_X1_19 (v2 hk) rfl dX1_copyFrom_30 ?_
  refine e_iconst (v := nI 0) C dX1_copyFrom_33 (by decide) ?_
  refine e_sipush (v := nI 200) C dX1_copyFrom_34 (by decide) ?_
  refine e_copy (n := 200) C rfl rfl (v4 hk2) (v4 hk) (by decide) (by decide) b_ml_X1_39 dX1_copyFrom_37 (Nat.le_of_ble_eq_true rfl) (by decide) ?_
  refine e_aload_n C dX1_copyFrom_40 rfl ?_
  refine e_getr C (ci := 1) 3 rfl rfl rfl (by decide) b_X1 rfl b_fl_X1_22 (v2 hk2) rfl dX1_copyFrom_41 ?_
  refine e_iconst (v := nI 0) C dX1_copyFrom_44 (by decide) ?_
  refine e_aload_n C dX1_copyFrom_45 rfl ?_
  refine e_getr C (ci := 1) 3 rfl rfl rfl (by decide) b_X1 rfl b_fl_X1_22 (v2 hk) rfl dX1_copyFrom_46 ?_
  refine e_iconst (v := nI 0) C dX1_copyFrom_49 (by decide) ?_
  refine e_sipush (v := nI 200) C dX1_copyFrom_50 (by decide) ?_
  refine e_copy (n := 200) C rfl rfl (v5 hk2) (v5 hk) (by decide) (by decide) b_ml_X1_39 dX1_copyFrom_53 (Nat.le_of_ble_eq_true rfl) (by decide) ?_
  exact e_mem (cpL_ok hn) (f_vr C hX dX1_copyFrom_56 rfl)
end
section
/-! ===== leaves: replicas and sessions of the class ===== -/
def minI (x y : Int32) : Int32 := if y < x then y else x
def maxI (x y : Int32) : Int32 := if x < y then y else x
theorem maxI_nI {a b : Nat} (ha : a < 2 ^ 31) (hb : b < 2 ^ 31) : maxI (nI a) (nI b) = nI (max a b) := by
  unfold maxI
  by_cases h : a < b
  · rw [if_pos (nI_lt h hb), Nat.max_eq_right (by omega)]
  · rw [if_neg (nI_nlt (by omega) ha), Nat.max_eq_left (by omega)]
theorem minI_nI {a b : Nat} (ha : a < 2 ^ 31) (hb : b < 2 ^ 31) : minI (nI a) (nI b) = nI (min a b) := by
  unfold minI
  by_cases h : b < a
  · rw [if_pos (nI_lt h ha), Nat.min_eq_right (by omega)]
  · rw [if_neg (nI_nlt (by omega) hb), Nat.min_eq_left (by omega)]
def begR (mem : MEM) (k r : Nat) (pos rate : Int32) : MEM := up (up (up (up (up mem (8, k, r) 0 (nI 1)) (8, k, r) 1 pos) (8, k, r) 2 rate) (8, k, r) 3 (nI 0)) (8, k, r) 4 (nI 0)
theorem cpR_ok {mem : MEM} {k k2 r : Nat} (hn : k ≠ k2) : EqV (up (up (up (up (up mem (8, k, r) 0 (mem (8, k2, r) 0)) (8, k, r) 1 (mem (8, k2, r) 1)) (8, k, r) 2 (mem (8, k2, r) 2)) (8, k, r) 3 (mem (8, k2, r) 3)) (8, k, r) 4 (mem (8, k2, r) 4)) (cpc mem (8, k, r) (8, k2, r)) := by
  intro id hid j hj hs
  by_cases h : id = (8, k, r)
  · subst h
    have hj : j < 5 := hj
    match j, hj with
    | 0, _ => simp [up, cpc]
    | 1, _ => simp [up, cpc]
    | 2, _ => simp [up, cpc]
    | 3, _ => simp [up, cpc]
    | 4, _ => simp [up, cpc]
  · simp [up, cpc, h]
/-- an array's first i cells with one number -/
def flm (mem : MEM) (id : ID) (i : Nat) (v : Int32) : MEM := fun a b => if a = id ∧ b < i then v else mem a b
theorem flm_0 {mem : MEM} {id : ID} {v : Int32} : flm mem id 0 v = mem := by
  funext a b
  simp [flm]
theorem flm_s {mem : MEM} {id : ID} {i : Nat} {v : Int32} : up (flm mem id i v) id i v = flm mem id (i + 1) v := by
  funext a b
  by_cases h : a = id
  · subst h
    by_cases h2 : b = i
    · subst h2; simp [up, flm]
    · have : (b < i + 1) ↔ (b < i) := by omega
      simp [up, flm, h2, this]
  · simp [up, flm, h]
def flA (mem : MEM) (id : ID) (v : Int32) : MEM := fun a b => if a = id then v else mem a b
theorem flA_ok {mem : MEM} {id : ID} {v : Int32} {i : Nat} (h : me_wd id.1 ≤ i) : EqV (flm mem id i v) (flA mem id v) := by
  intro a ha j hj hs
  by_cases e : a = id
  · subst e
    simp [flm, flA, Nat.lt_of_lt_of_le hj h]
  · simp [flm, flA, e]
def begS (mem : MEM) (k s : Nat) (home opt bnd : Int32) : MEM := flA (flA (up (up (up (up (up (up (up (up (up mem (9, k, s) 0 (nI 1)) (9, k, s) 1 home) (9, k, s) 2 opt) (9, k, s) 3 bnd) (9, k, s) 4 (nI 0)) (9, k, s) 5 (nI 0)) (9, k, s) 6 (nI 0)) (9, k, s) 7 (nI 0)) (9, k, s) 8 (nI 0)) (10, k, s) (nI 0)) (11, k, s) (nI 0)
/-- a session as another state's -/
def cpS1 (mem : MEM) (k k2 s : Nat) : MEM := cpc (cpc (cpc mem (9, k, s) (9, k2, s)) (10, k, s) (10, k2, s)) (11, k, s) (11, k2, s)
theorem cpS1_ok {mem : MEM} {k k2 s : Nat} (hn : k ≠ k2) : EqV (cpc (cpc (up (up (up (up (up (up (up (up (up mem (9, k, s) 0 (mem (9, k2, s) 0)) (9, k, s) 1 (mem (9, k2, s) 1)) (9, k, s) 2 (mem (9, k2, s) 2)) (9, k, s) 3 (mem (9, k2, s) 3)) (9, k, s) 4 (mem (9, k2, s) 4)) (9, k, s) 5 (mem (9, k2, s) 5)) (9, k, s) 6 (mem (9, k2, s) 6)) (9, k, s) 7 (mem (9, k2, s) 7)) (9, k, s) 8 (mem (9, k2, s) 8)) (10, k, s) (10, k2, s)) (11, k, s) (11, k2, s)) (cpS1 mem k k2 s) := by
  intro id hid j hj hs
  unfold cpS1
  by_cases h : id = (9, k, s)
  · subst h
    have hj : j < 11 := hj
    match j, hj with
    | 0, _ => simp [up, cpc]
    | 1, _ => simp [up, cpc]
    | 2, _ => simp [up, cpc]
    | 3, _ => simp [up, cpc]
    | 4, _ => simp [up, cpc]
    | 5, _ => simp [up, cpc]
    | 6, _ => simp [up, cpc]
    | 7, _ => simp [up, cpc]
    | 8, _ => simp [up, cpc]
    | 9, _ => cases hs
    | 10, _ => cases hs
  · by_cases h10 : id = (10, k, s)
    · subst h10; simp [cpc, up]
    · by_cases h11 : id = (11, k, s)
      · subst h11; simp [cpc, up]
      · simp [cpc, up, h, h10, h11]
noncomputable def ntR1 (mem : MEM) (k s : Nat) (p : Int32) : MEM := up (up mem (9, k, s) 6 (mem (9, k, s) 6 + nI 1)) (9, k, s) 5 (maxI (mem (9, k, s) 5) p)
noncomputable def ntR2 (m : MEM) (k s q : Nat) (v : Int32) : MEM := cif (m (10, k, s) q ≤ v) m (up m (9, k, s) 7 (m (9, k, s) 7 + nI 1))
noncomputable def ntR3 (m : MEM) (k s q : Nat) (v : Int32) : MEM := cif (m (11, k, s) q ≤ v) m (up m (9, k, s) 8 (m (9, k, s) 8 + nI 1))
noncomputable def ntR (mem : MEM) (k s q : Nat) (v p : Int32) : MEM := up (ntR3 (ntR2 (ntR1 mem k s p) k s q v) k s q v) (11, k, s) q (maxI (ntR3 (ntR2 (ntR1 mem k s p) k s q v) k s q v (11, k, s) q) v)
theorem EqV.of {m m' : MEM} (h : m = m') : EqV m m' := fun _ _ _ _ _ => by rw [h]
theorem EqV.trans {a b c : MEM} (h1 : EqV a b) (h2 : EqV b c) : EqV a c := fun id hv j hj hs => (h1 id hv j hj hs).trans (h2 id hv j hj hs)

set_option maxRecDepth 100000 in
set_option maxHeartbeats 4000000 in
theorem c_X2_begin {E : EV} {l : Launch} {mem : MEM} {k r : Nat} (hk : k < 8) (hr : r < 5) {rate pos : Int32} : Ct E l yX2_begin (me_ws yX2_begin cX2_begin 3 none) 1 [rv (8, k, r), iv rate, iv pos] mem (Ret uv (begR mem k r pos rate)) := by
  refine Ct.of (RC := RX2) (ls0 := [rv (8, k, r), iv rate, iv pos]) mi_yX2_begin (Nat.le_of_ble_eq_true rfl) rfl (fun X C hX => ?_)
  refine e_aload_n C dX2_begin_0 rfl ?_
  refine e_iconst (v := nI 1) C dX2_begin_1 (by decide) ?_
  refine e_puti C (ci := 2) 0 rfl rfl rfl (by decide) b_X2 rfl b_fl_X2_9 (v8 hk hr) tyX2 tyX2_ok nmX2 rfl (.inr ⟨rfl, .inr rfl⟩) rfl dX2_begin_2 ?_
  refine e_aload_n C dX2_begin_5 rfl ?_
  refine e_iload_n C dX2_begin_6 rfl ?_
  refine e_puti C (ci := 2) 1 rfl rfl rfl (by decide) b_X2 rfl b_fl_X2_15 (v8 hk hr) tyX2 tyX2_ok nmX2 rfl (.inl ⟨rfl, rfl⟩) rfl dX2_begin_7 ?_
  refine e_aload_n C dX2_begin_10 rfl ?_
  refine e_iload_n C dX2_begin_11 rfl ?_
  refine e_puti C (ci := 2) 2 rfl rfl rfl (by decide) b_X2 rfl b_fl_X2_19 (v8 hk hr) tyX2 tyX2_ok nmX2 rfl (.inl ⟨rfl, rfl⟩) rfl dX2_begin_12 ?_
  refine e_aload_n C dX2_begin_15 rfl ?_
  refine e_iconst (v := nI 0) C dX2_begin_16 (by decide) ?_
  refine e_puti C (ci := 2) 3 rfl rfl rfl (by decide) b_X2 rfl b_fl_X2_22 (v8 hk hr) tyX2 tyX2_ok nmX2 rfl (.inr ⟨rfl, .inl rfl⟩) rfl dX2_begin_17 ?_
  refine e_aload_n C dX2_begin_20 rfl ?_
  refine e_iconst (v := nI 0) C dX2_begin_21 (by decide) ?_
  refine e_puti C (ci := 2) 4 rfl rfl rfl (by decide) b_X2 rfl b_fl_X2_25 (v8 hk hr) tyX2 tyX2_ok nmX2 rfl (.inl ⟨rfl, rfl⟩) rfl dX2_begin_22 ?_
  exact f_vr C hX dX2_begin_25 rfl
set_option maxRecDepth 100000 in
set_option maxHeartbeats 4000000 in
theorem c_X2_ticksTo {E : EV} {l : Launch} {mem : MEM} {k r : Nat} (hk : k < 8) (hr : r < 5) {p n q : Nat} (hp : mem (8, k, r) 1 = nI p) (hq : mem (8, k, r) 2 = nI q) (hpl : p ≤ 200) (hnl : n ≤ 200) (hql : q ≤ 9) : Ct E l yX2_ticksTo (me_ws yX2_ticksTo cX2_ticksTo 2 (some .int)) 1 [rv (8, k, r), iv (nI n)] mem (Ret (iv (tkz p n (mem (8, k, r) 3) (mem (8, k, r) 2))) mem) := by
  refine Ct.of (RC := RX2) (ls0 := [rv (8, k, r), iv (nI n)]) mi_yX2_ticksTo (Nat.le_of_ble_eq_true rfl) rfl (fun X C hX => ?_)
  refine e_aload_n C dX2_ticksTo_0 rfl ?_
  refine e_geti C (ci := 2) 1 rfl rfl rfl (by decide) b_X2 rfl b_fl_X2_15 (v8 hk hr) rfl dX2_ticksTo_1 ?_
  refine f_val (y := nI (p)) hp ?_
  refine e_iload_n C dX2_ticksTo_4 rfl ?_
  refine e_icmp_lt (tgt := 10) C dX2_ticksTo_5 (by decide) (fun h_5 => ?_) (fun h_5 => ?_)
  · skip
    have nh_5 := xI_ltD (by omega) (by omega) h_5
    refine e_aload_n C dX2_ticksTo_10 rfl ?_
    refine e_getz C (ci := 2) 3 rfl rfl rfl (by decide) b_X2 rfl b_fl_X2_22 (v8 hk hr) rfl rfl dX2_ticksTo_11 (fun hz_11 => ?_)
    refine e_if_ne (tgt := 24) C dX2_ticksTo_14 (by decide) (fun h_14 => ?_) (fun h_14 => ?_)
    · skip
      refine e_bipush (v := -6) C dX2_ticksTo_24 (by decide) ?_
      exact f_ir C hX dX2_ticksTo_26 (by rw [tkz, cif_neg (by omega), cif_pos (Or.inl (hz_11.resolve_left h_14))]) rfl
    · skip
      refine e_aload_n C dX2_ticksTo_17 rfl ?_
      refine e_geti C (ci := 2) 2 rfl rfl rfl (by decide) b_X2 rfl b_fl_X2_19 (v8 hk hr) rfl dX2_ticksTo_18 ?_
      refine e_if_gt (tgt := 27) C dX2_ticksTo_21 (by decide) (fun h_21 => ?_) (fun h_21 => ?_)
      · skip
        refine e_iload_n C dX2_ticksTo_27 rfl ?_
        refine e_aload_n C dX2_ticksTo_28 rfl ?_
        refine e_geti C (ci := 2) 1 rfl rfl rfl (by decide) b_X2 rfl b_fl_X2_15 (v8 hk hr) rfl dX2_ticksTo_29 ?_
        refine f_val (y := nI (p)) hp ?_
        refine f_isubn C (by omega) dX2_ticksTo_32 ?_
        refine e_aload_n C dX2_ticksTo_33 rfl ?_
        refine e_geti C (ci := 2) 2 rfl rfl rfl (by decide) b_X2 rfl b_fl_X2_19 (v8 hk hr) rfl dX2_ticksTo_34 ?_
        refine e_iadd C dX2_ticksTo_37 ?_
        refine e_iconst (v := nI 1) C dX2_ticksTo_38 (by decide) ?_
        refine e_isub C dX2_ticksTo_39 ?_
        refine e_aload_n C dX2_ticksTo_40 rfl ?_
        refine e_geti C (ci := 2) 2 rfl rfl rfl (by decide) b_X2 rfl b_fl_X2_19 (v8 hk hr) rfl dX2_ticksTo_41 ?_
        refine e_idiv C dX2_ticksTo_44 (fun q => by rw [q] at h_21; exact absurd h_21 (by decide)) ?_
        exact f_ir C hX dX2_ticksTo_45 (by rw [tkz, cif_neg (by omega), cif_neg (fun q => q.elim (fun q => by rw [q] at h_14; exact absurd h_14 (by decide)) (fun q => by rw [q] at h_21; exact absurd h_21 (by decide)))]) rfl
      · skip
        refine e_bipush (v := -6) C dX2_ticksTo_24 (by decide) ?_
        have h0 : mem (8, k, r) 2 = 0 := by
          rw [hq] at h_21 ⊢
          have := xI_nltD (a := 0) (b := q) (by decide) (by omega) h_21
          obtain rfl : q = 0 := by omega
          rfl
        exact f_ir C hX dX2_ticksTo_26 (by rw [tkz, cif_neg (by omega), cif_pos (Or.inr h0)]) rfl
  · skip
    have nh_5 := xI_nltD (by omega) (by omega) h_5
    refine e_iconst (v := nI 0) C dX2_ticksTo_8 (by decide) ?_
    exact f_ir C hX dX2_ticksTo_9 (by rw [tkz, cif_pos (by omega)]) rfl
set_option maxRecDepth 100000 in
set_option maxHeartbeats 4000000 in
theorem c_X2_passTicks {E : EV} {l : Launch} {mem : MEM} {k r : Nat} (hk : k < 8) (hr : r < 5) {t c : Int32} : Ct E l yX2_passTicks (me_ws yX2_passTicks cX2_passTicks 3 none) 2 [rv (8, k, r), iv t, iv c] mem (Ret uv (cif (mem (8, k, r) 3 = 0) (up mem (8, k, r) 1 (minI (mem (8, k, r) 1 + mem (8, k, r) 2 * t) c)) mem)) := by
  refine Ct.of (RC := RX2) (ls0 := [rv (8, k, r), iv t, iv c]) mi_yX2_passTicks (Nat.le_of_ble_eq_true rfl) rfl (fun X C hX => ?_)
  refine e_aload_n C dX2_passTicks_0 rfl ?_
  refine e_getz C (ci := 2) 3 rfl rfl rfl (by decide) b_X2 rfl b_fl_X2_22 (v8 hk hr) rfl rfl dX2_passTicks_1 (fun hz_1 => ?_)
  refine e_if_ne (tgt := 26) C dX2_passTicks_4 (by decide) (fun h_4 => ?_) (fun h_4 => ?_)
  · skip
    exact f_vr C hX dX2_passTicks_26 (cif_neg h_4).symm
  · skip
    refine e_aload_n C dX2_passTicks_7 rfl ?_
    refine e_aload_n C dX2_passTicks_8 rfl ?_
    refine e_geti C (ci := 2) 1 rfl rfl rfl (by decide) b_X2 rfl b_fl_X2_15 (v8 hk hr) rfl dX2_passTicks_9 ?_
    refine e_aload_n C dX2_passTicks_12 rfl ?_
    refine e_geti C (ci := 2) 2 rfl rfl rfl (by decide) b_X2 rfl b_fl_X2_19 (v8 hk hr) rfl dX2_passTicks_13 ?_
    refine e_iload_n C dX2_passTicks_16 rfl ?_
    refine e_imul C dX2_passTicks_17 ?_
    refine e_iadd C dX2_passTicks_18 ?_
    refine e_iload_n C dX2_passTicks_19 rfl ?_
    refine e_mmin C b_ml_X2_28 dX2_passTicks_20 (Nat.le_of_ble_eq_true rfl) (by decide) ?_
    refine e_puti C (ci := 2) 1 rfl rfl rfl (by decide) b_X2 rfl b_fl_X2_15 (v8 hk hr) tyX2 tyX2_ok nmX2 rfl (.inl ⟨rfl, rfl⟩) rfl dX2_passTicks_23 ?_
    exact f_vr C hX dX2_passTicks_26 (cif_pos h_4).symm
set_option maxRecDepth 100000 in
set_option maxHeartbeats 4000000 in
theorem c_X2_copyFrom {E : EV} {l : Launch} {mem : MEM} {k k2 r : Nat} (hk : k < 8) (hk2 : k2 < 8) (hr : r < 5) (hn : k ≠ k2) : Ct E l yX2_copyFrom (me_ws yX2_copyFrom cX2_copyFrom 2 none) 1 [rv (8, k, r), rv (8, k2, r)] mem (Ret uv (cpc mem (8, k, r) (8, k2, r))) := by
  refine Ct.of (RC := RX2) (ls0 := [rv (8, k, r), rv (8, k2, r)]) mi_yX2_copyFrom (Nat.le_of_ble_eq_true rfl) rfl (fun X C hX => ?_)
  refine e_aload_n C dX2_copyFrom_0 rfl ?_
  refine e_aload_n C dX2_copyFrom_1 rfl ?_
  refine e_getz C (ci := 2) 0 rfl rfl rfl (by decide) b_X2 rfl b_fl_X2_9 (v8 hk2 hr) rfl rfl dX2_copyFrom_2 (fun hz_2 => ?_)
  refine e_puti C (ci := 2) 0 rfl rfl rfl (by decide) b_X2 rfl b_fl_X2_9 (v8 hk hr) tyX2 tyX2_ok nmX2 rfl (.inr ⟨rfl, (by assumption)⟩) rfl dX2_copyFrom_5 ?_
  refine e_aload_n C dX2_copyFrom_8 rfl ?_
  refine e_aload_n C dX2_copyFrom_9 rfl ?_
  refine e_geti C (ci := 2) 1 rfl rfl rfl (by decide) b_X2 rfl b_fl_X2_15 (v8 hk2 hr) rfl dX2_copyFrom_10 ?_
  refine e_puti C (ci := 2) 1 rfl rfl rfl (by decide) b_X2 rfl b_fl_X2_15 (v8 hk hr) tyX2 tyX2_ok nmX2 rfl (.inl ⟨rfl, rfl⟩) rfl dX2_copyFrom_13 ?_
  refine e_aload_n C dX2_copyFrom_16 rfl ?_
  refine e_aload_n C dX2_copyFrom_17 rfl ?_
  refine e_geti C (ci := 2) 2 rfl rfl rfl (by decide) b_X2 rfl b_fl_X2_19 (v8 hk2 hr) rfl dX2_copyFrom_18 ?_
  refine e_puti C (ci := 2) 2 rfl rfl rfl (by decide) b_X2 rfl b_fl_X2_19 (v8 hk hr) tyX2 tyX2_ok nmX2 rfl (.inl ⟨rfl, rfl⟩) rfl dX2_copyFrom_21 ?_
  refine e_aload_n C dX2_copyFrom_24 rfl ?_
  refine e_aload_n C dX2_copyFrom_25 rfl ?_
  refine e_getz C (ci := 2) 3 rfl rfl rfl (by decide) b_X2 rfl b_fl_X2_22 (v8 hk2 hr) rfl rfl dX2_copyFrom_26 (fun hz_26 => ?_)
  refine e_puti C (ci := 2) 3 rfl rfl rfl (by decide) b_X2 rfl b_fl_X2_22 (v8 hk hr) tyX2 tyX2_ok nmX2 rfl (.inr ⟨rfl, (by assumption)⟩) rfl dX2_copyFrom_29 ?_
  refine e_aload_n C dX2_copyFrom_32 rfl ?_
  refine e_aload_n C dX2_copyFrom_33 rfl ?_
  refine e_geti C (ci := 2) 4 rfl rfl rfl (by decide) b_X2 rfl b_fl_X2_25 (v8 hk2 hr) rfl dX2_copyFrom_34 ?_
  refine e_puti C (ci := 2) 4 rfl rfl rfl (by decide) b_X2 rfl b_fl_X2_25 (v8 hk hr) tyX2 tyX2_ok nmX2 rfl (.inl ⟨rfl, rfl⟩) rfl dX2_copyFrom_37 ?_
  exact e_mem (EqV.trans (EqV.of (by simp [up, hn, Ne.symm hn])) (cpR_ok hn)) (f_vr C hX dX2_copyFrom_40 rfl)
set_option maxRecDepth 100000 in
set_option maxHeartbeats 4000000 in
theorem lp_J7_fill10 {E : EV} {l : Launch} {X : CX} {mem : MEM} {k s : Nat} (hk : k < 8) (hs : s < 8) {v : Int32} (C : CK E X RJ7 cJ7_fill_53178 4 none 1) (hX : EX E X l (Ret uv (flA mem (10, k, s) v))) : ∀ (lpn : Nat) (i : Nat), 12 - i < lpn → i ≤ 12 → G E X 4 5 [rv (10, k, s), iv v, iv (nI i), iv (nI 12)] [] (flm mem (10, k, s) i v) := by
  intro lpn
  induction lpn with
  | zero => intro i hlpn; exact absurd hlpn (Nat.not_lt_zero _)
  | succ lpn ih =>
    intro i hlpn hi
    refine e_iload_n C dJ7_fill_53178_5 rfl ?_
    refine e_iload_n C dJ7_fill_53178_6 rfl ?_
    refine e_icmp_ge (tgt := 20) C dJ7_fill_53178_7 (by decide) (fun h_7 => ?_) (fun h_7 => ?_)
    · skip
      have nh_7 := xI_leD (by omega) (by omega) h_7
      exact e_mem (flA_ok (i := i) (by show 12 ≤ i; omega)) (f_vr C hX dJ7_fill_53178_20 rfl)
    · skip
      have nh_7 := xI_nleD (by omega) (by omega) h_7
      refine e_aload_n C dJ7_fill_53178_10 rfl ?_
      refine e_iload_n C dJ7_fill_53178_11 rfl ?_
      refine e_iload_n C dJ7_fill_53178_12 rfl ?_
      refine f_iast C rfl (v10 hk hs) (by omega) (by decide) dJ7_fill_53178_13 ?_
      refine f_iincn (ls1 := [_, _, _, _]) C dJ7_fill_53178_14 rfl (by decide) rfl ?_
      refine e_goto (tgt := 5) C dJ7_fill_53178_17 (by decide) ?_
      rw [flm_s]; exact ih (i + 1) (by omega) (by omega)
set_option maxRecDepth 100000 in
set_option maxHeartbeats 4000000 in
theorem c_J7_fill10 {E : EV} {l : Launch} {mem : MEM} {k s : Nat} (hk : k < 8) (hs : s < 8) {v : Int32} : Ct E l yJ7_fill_53178 (me_ws yJ7_fill_53178 cJ7_fill_53178 4 none) 1 [rv (10, k, s), iv v] mem (Ret uv (flA mem (10, k, s) v)) := by
  refine Ct.of (RC := RJ7) (ls0 := [rv (10, k, s), iv v, uv, uv]) mi_yJ7_fill_53178 (Nat.le_of_ble_eq_true rfl) rfl (fun X C hX => ?_)
  refine e_iconst (v := nI 0) C dJ7_fill_53178_0 (by decide) ?_
  refine f_istore_n (ls1 := [_, _, _, _]) C dJ7_fill_53178_1 (by decide) rfl ?_
  refine e_aload_n C dJ7_fill_53178_2 rfl ?_
  refine e_alen (v := nI 12) C rfl (by decide) (v10 hk hs) rfl dJ7_fill_53178_3 ?_
  refine f_istore_n (ls1 := [_, _, _, _]) C dJ7_fill_53178_4 (by decide) rfl ?_
  rw [← flm_0 (mem := mem) (id := (10, k, s)) (v := v)]; exact lp_J7_fill10 hk hs C hX 13 0 (by decide) (by decide)
set_option maxRecDepth 100000 in
set_option maxHeartbeats 4000000 in
theorem lp_J7_fill11 {E : EV} {l : Launch} {X : CX} {mem : MEM} {k s : Nat} (hk : k < 8) (hs : s < 8) {v : Int32} (C : CK E X RJ7 cJ7_fill_53178 4 none 1) (hX : EX E X l (Ret uv (flA mem (11, k, s) v))) : ∀ (lpn : Nat) (i : Nat), 12 - i < lpn → i ≤ 12 → G E X 4 5 [rv (11, k, s), iv v, iv (nI i), iv (nI 12)] [] (flm mem (11, k, s) i v) := by
  intro lpn
  induction lpn with
  | zero => intro i hlpn; exact absurd hlpn (Nat.not_lt_zero _)
  | succ lpn ih =>
    intro i hlpn hi
    refine e_iload_n C dJ7_fill_53178_5 rfl ?_
    refine e_iload_n C dJ7_fill_53178_6 rfl ?_
    refine e_icmp_ge (tgt := 20) C dJ7_fill_53178_7 (by decide) (fun h_7 => ?_) (fun h_7 => ?_)
    · skip
      have nh_7 := xI_leD (by omega) (by omega) h_7
      exact e_mem (flA_ok (i := i) (by show 12 ≤ i; omega)) (f_vr C hX dJ7_fill_53178_20 rfl)
    · skip
      have nh_7 := xI_nleD (by omega) (by omega) h_7
      refine e_aload_n C dJ7_fill_53178_10 rfl ?_
      refine e_iload_n C dJ7_fill_53178_11 rfl ?_
      refine e_iload_n C dJ7_fill_53178_12 rfl ?_
      refine f_iast C rfl (v11 hk hs) (by omega) (by decide) dJ7_fill_53178_13 ?_
      refine f_iincn (ls1 := [_, _, _, _]) C dJ7_fill_53178_14 rfl (by decide) rfl ?_
      refine e_goto (tgt := 5) C dJ7_fill_53178_17 (by decide) ?_
      rw [flm_s]; exact ih (i + 1) (by omega) (by omega)
set_option maxRecDepth 100000 in
set_option maxHeartbeats 4000000 in
theorem c_J7_fill11 {E : EV} {l : Launch} {mem : MEM} {k s : Nat} (hk : k < 8) (hs : s < 8) {v : Int32} : Ct E l yJ7_fill_53178 (me_ws yJ7_fill_53178 cJ7_fill_53178 4 none) 1 [rv (11, k, s), iv v] mem (Ret uv (flA mem (11, k, s) v)) := by
  refine Ct.of (RC := RJ7) (ls0 := [rv (11, k, s), iv v, uv, uv]) mi_yJ7_fill_53178 (Nat.le_of_ble_eq_true rfl) rfl (fun X C hX => ?_)
  refine e_iconst (v := nI 0) C dJ7_fill_53178_0 (by decide) ?_
  refine f_istore_n (ls1 := [_, _, _, _]) C dJ7_fill_53178_1 (by decide) rfl ?_
  refine e_aload_n C dJ7_fill_53178_2 rfl ?_
  refine e_alen (v := nI 12) C rfl (by decide) (v11 hk hs) rfl dJ7_fill_53178_3 ?_
  refine f_istore_n (ls1 := [_, _, _, _]) C dJ7_fill_53178_4 (by decide) rfl ?_
  rw [← flm_0 (mem := mem) (id := (11, k, s)) (v := v)]; exact lp_J7_fill11 hk hs C hX 13 0 (by decide) (by decide)
set_option maxRecDepth 100000 in
set_option maxHeartbeats 4000000 in
theorem c_X3_begin {E : EV} {l : Launch} {mem : MEM} {k s : Nat} (hk : k < 8) (hs : s < 8) {home opt bnd : Int32} : Ct E l yX3_begin (me_ws yX3_begin cX3_begin 4 none) 2 [rv (9, k, s), iv home, iv opt, iv bnd] mem (Ret uv (begS mem k s home opt bnd)) := by
  refine Ct.of (RC := RX3) (ls0 := [rv (9, k, s), iv home, iv opt, iv bnd]) mi_yX3_begin (Nat.le_of_ble_eq_true rfl) rfl (fun X C hX => ?_)
  refine e_aload_n C dX3_begin_0 rfl ?_
  refine e_iconst (v := nI 1) C dX3_begin_1 (by decide) ?_
  refine e_puti C (ci := 3) 0 rfl rfl rfl (by decide) b_X3 rfl b_fl_X3_9 (v9 hk hs) tyX3 tyX3_ok nmX3 rfl (.inr ⟨rfl, .inr rfl⟩) rfl dX3_begin_2 ?_
  refine e_aload_n C dX3_begin_5 rfl ?_
  refine e_iload_n C dX3_begin_6 rfl ?_
  refine e_puti C (ci := 3) 1 rfl rfl rfl (by decide) b_X3 rfl b_fl_X3_15 (v9 hk hs) tyX3 tyX3_ok nmX3 rfl (.inl ⟨rfl, rfl⟩) rfl dX3_begin_7 ?_
  refine e_aload_n C dX3_begin_10 rfl ?_
  refine e_iload_n C dX3_begin_11 rfl ?_
  refine e_puti C (ci := 3) 2 rfl rfl rfl (by decide) b_X3 rfl b_fl_X3_19 (v9 hk hs) tyX3 tyX3_ok nmX3 rfl (.inl ⟨rfl, rfl⟩) rfl dX3_begin_12 ?_
  refine e_aload_n C dX3_begin_15 rfl ?_
  refine e_iload_n C dX3_begin_16 rfl ?_
  refine e_puti C (ci := 3) 3 rfl rfl rfl (by decide) b_X3 rfl b_fl_X3_22 (v9 hk hs) tyX3 tyX3_ok nmX3 rfl (.inl ⟨rfl, rfl⟩) rfl dX3_begin_17 ?_
  refine e_aload_n C dX3_begin_20 rfl ?_
  refine e_iconst (v := nI 0) C dX3_begin_21 (by decide) ?_
  refine e_puti C (ci := 3) 4 rfl rfl rfl (by decide) b_X3 rfl b_fl_X3_25 (v9 hk hs) tyX3 tyX3_ok nmX3 rfl (.inl ⟨rfl, rfl⟩) rfl dX3_begin_22 ?_
  refine e_aload_n C dX3_begin_25 rfl ?_
  refine e_iconst (v := nI 0) C dX3_begin_26 (by decide) ?_
  refine e_puti C (ci := 3) 5 rfl rfl rfl (by decide) b_X3 rfl b_fl_X3_28 (v9 hk hs) tyX3 tyX3_ok nmX3 rfl (.inl ⟨rfl, rfl⟩) rfl dX3_begin_27 ?_
  refine e_aload_n C dX3_begin_30 rfl ?_
  refine e_iconst (v := nI 0) C dX3_begin_31 (by decide) ?_
  refine e_puti C (ci := 3) 6 rfl rfl rfl (by decide) b_X3 rfl b_fl_X3_31 (v9 hk hs) tyX3 tyX3_ok nmX3 rfl (.inl ⟨rfl, rfl⟩) rfl dX3_begin_32 ?_
  refine e_aload_n C dX3_begin_35 rfl ?_
  refine e_iconst (v := nI 0) C dX3_begin_36 (by decide) ?_
  refine e_puti C (ci := 3) 7 rfl rfl rfl (by decide) b_X3 rfl b_fl_X3_34 (v9 hk hs) tyX3 tyX3_ok nmX3 rfl (.inl ⟨rfl, rfl⟩) rfl dX3_begin_37 ?_
  refine e_aload_n C dX3_begin_40 rfl ?_
  refine e_iconst (v := nI 0) C dX3_begin_41 (by decide) ?_
  refine e_puti C (ci := 3) 8 rfl rfl rfl (by decide) b_X3 rfl b_fl_X3_37 (v9 hk hs) tyX3 tyX3_ok nmX3 rfl (.inl ⟨rfl, rfl⟩) rfl dX3_begin_42 ?_
  refine e_aload_n C dX3_begin_45 rfl ?_
  refine e_getr C (ci := 3) 9 rfl rfl rfl (by decide) b_X3 rfl b_fl_X3_40 (v9 hk hs) rfl dX3_begin_46 ?_
  refine e_iconst (v := nI 0) C dX3_begin_49 (by decide) ?_
  refine f_callSv (As := [_, _]) C mi_yJ7_fill_53178 b_st_yJ7_fill_53178 b_ml_X3_47 dX3_begin_50 rfl (c_J7_fill10 hk hs) (by decide) (Nat.le_of_ble_eq_true rfl) ?_
  refine e_aload_n C dX3_begin_53 rfl ?_
  refine e_getr C (ci := 3) 10 rfl rfl rfl (by decide) b_X3 rfl b_fl_X3_44 (v9 hk hs) rfl dX3_begin_54 ?_
  refine e_iconst (v := nI 0) C dX3_begin_57 (by decide) ?_
  refine f_callSv (As := [_, _]) C mi_yJ7_fill_53178 b_st_yJ7_fill_53178 b_ml_X3_47 dX3_begin_58 rfl (c_J7_fill11 hk hs) (by decide) (Nat.le_of_ble_eq_true rfl) ?_
  exact f_vr C hX dX3_begin_61 rfl
set_option maxRecDepth 100000 in
set_option maxHeartbeats 4000000 in
theorem c_X3_has {E : EV} {l : Launch} {mem : MEM} {k s : Nat} (hk : k < 8) (hs : s < 8) {o : Int32} : Ct E l yX3_has (me_ws yX3_has cX3_has 2 (some .boolean)) 1 [rv (9, k, s), iv o] mem (Ret (iv (b2i (¬ (mem (9, k, s) 2 &&& o) = 0))) mem) := by
  refine Ct.of (RC := RX3) (ls0 := [rv (9, k, s), iv o]) mi_yX3_has (Nat.le_of_ble_eq_true rfl) rfl (fun X C hX => ?_)
  refine e_aload_n C dX3_has_0 rfl ?_
  refine e_geti C (ci := 3) 2 rfl rfl rfl (by decide) b_X3 rfl b_fl_X3_19 (v9 hk hs) rfl dX3_has_1 ?_
  refine e_iload_n C dX3_has_4 rfl ?_
  refine e_iand C dX3_has_5 ?_
  refine e_if_eq (tgt := 13) C dX3_has_6 (by decide) (fun h_6 => ?_) (fun h_6 => ?_)
  · skip
    refine e_iconst (v := nI 0) C dX3_has_13 (by decide) ?_
    exact f_zf C hX dX3_has_14 (by simp only [Int32.lt_iff_toInt_lt, Int32.le_iff_toInt_le, ← Int32.toInt_inj, Int32.toInt_zero, nI_toInt, Nat.reducePow, Nat.reduceLT] at *; omega) rfl
  · skip
    refine e_iconst (v := nI 1) C dX3_has_9 (by decide) ?_
    refine e_goto (tgt := 14) C dX3_has_10 (by decide) ?_
    exact f_zt C hX dX3_has_14 (by simp only [Int32.lt_iff_toInt_lt, Int32.le_iff_toInt_le, ← Int32.toInt_inj, Int32.toInt_zero, nI_toInt, Nat.reducePow, Nat.reduceLT] at *; omega) rfl
set_option maxRecDepth 100000 in
set_option maxHeartbeats 4000000 in
theorem c_X3_need {E : EV} {l : Launch} {mem : MEM} {k s : Nat} (hk : k < 8) (hs : s < 8) {a b : Nat} (ha : mem (9, k, s) 4 = nI a) (hb : mem (9, k, s) 5 = nI b) (hal : a ≤ 200) (hbl : b ≤ 200) : Ct E l yX3_need (me_ws yX3_need cX3_need 1 (some .int)) 2 [rv (9, k, s)] mem (Ret (iv (nI (max (cif (¬ (mem (9, k, s) 2 &&& nI 1) = 0) a 0) (cif (¬ (mem (9, k, s) 2 &&& nI 2) = 0) b 0)))) mem) := by
  refine Ct.of (RC := RX3) (ls0 := [rv (9, k, s)]) mi_yX3_need (Nat.le_of_ble_eq_true rfl) rfl (fun X C hX => ?_)
  refine e_aload_n C dX3_need_0 rfl ?_
  refine e_iconst (v := nI 1) C dX3_need_1 (by decide) ?_
  refine f_callVr (As := [_]) (ci := 3) C mi_yX3_has mv_yX3_has b_ml_X3_53 dX3_need_2 rfl (c_X3_has hk hs) (by decide) (v9 hk hs) rfl rfl (Nat.le_of_ble_eq_true rfl) ?_
  refine f_if_eq (tgt := 15) C dX3_need_5 (by decide) (fun h_5 => ?_) (fun h_5 => ?_)
  · skip
    refine e_iconst (v := nI 0) C dX3_need_15 (by decide) ?_
    refine e_aload_n C dX3_need_16 rfl ?_
    refine e_iconst (v := nI 2) C dX3_need_17 (by decide) ?_
    refine f_callVr (As := [_]) (ci := 3) C mi_yX3_has mv_yX3_has b_ml_X3_53 dX3_need_18 rfl (c_X3_has hk hs) (by decide) (v9 hk hs) rfl rfl (Nat.le_of_ble_eq_true rfl) ?_
    refine f_if_eq (tgt := 31) C dX3_need_21 (by decide) (fun h_21 => ?_) (fun h_21 => ?_)
    · skip
      refine e_iconst (v := nI 0) C dX3_need_31 (by decide) ?_
      refine e_mmax C b_ml_X3_57 dX3_need_32 (Nat.le_of_ble_eq_true rfl) (by decide) ?_
      exact f_ir C hX dX3_need_35 (by rw [cif_neg h_5, cif_neg h_21]; exact maxI_nI (by omega) (by omega)) rfl
    · skip
      refine e_aload_n C dX3_need_24 rfl ?_
      refine e_geti C (ci := 3) 5 rfl rfl rfl (by decide) b_X3 rfl b_fl_X3_28 (v9 hk hs) rfl dX3_need_25 ?_
      refine f_val (y := nI (b)) hb ?_
      refine e_goto (tgt := 32) C dX3_need_28 (by decide) ?_
      refine e_mmax C b_ml_X3_57 dX3_need_32 (Nat.le_of_ble_eq_true rfl) (by decide) ?_
      exact f_ir C hX dX3_need_35 (by rw [cif_neg h_5, cif_pos h_21]; exact maxI_nI (by omega) (by omega)) rfl
  · skip
    refine e_aload_n C dX3_need_8 rfl ?_
    refine e_geti C (ci := 3) 4 rfl rfl rfl (by decide) b_X3 rfl b_fl_X3_25 (v9 hk hs) rfl dX3_need_9 ?_
    refine f_val (y := nI (a)) ha ?_
    refine e_goto (tgt := 16) C dX3_need_12 (by decide) ?_
    refine e_aload_n C dX3_need_16 rfl ?_
    refine e_iconst (v := nI 2) C dX3_need_17 (by decide) ?_
    refine f_callVr (As := [_]) (ci := 3) C mi_yX3_has mv_yX3_has b_ml_X3_53 dX3_need_18 rfl (c_X3_has hk hs) (by decide) (v9 hk hs) rfl rfl (Nat.le_of_ble_eq_true rfl) ?_
    refine f_if_eq (tgt := 31) C dX3_need_21 (by decide) (fun h_21 => ?_) (fun h_21 => ?_)
    · skip
      refine e_iconst (v := nI 0) C dX3_need_31 (by decide) ?_
      refine e_mmax C b_ml_X3_57 dX3_need_32 (Nat.le_of_ble_eq_true rfl) (by decide) ?_
      exact f_ir C hX dX3_need_35 (by rw [cif_pos h_5, cif_neg h_21]; exact maxI_nI (by omega) (by omega)) rfl
    · skip
      refine e_aload_n C dX3_need_24 rfl ?_
      refine e_geti C (ci := 3) 5 rfl rfl rfl (by decide) b_X3 rfl b_fl_X3_28 (v9 hk hs) rfl dX3_need_25 ?_
      refine f_val (y := nI (b)) hb ?_
      refine e_goto (tgt := 32) C dX3_need_28 (by decide) ?_
      refine e_mmax C b_ml_X3_57 dX3_need_32 (Nat.le_of_ble_eq_true rfl) (by decide) ?_
      exact f_ir C hX dX3_need_35 (by rw [cif_pos h_5, cif_pos h_21]; exact maxI_nI (by omega) (by omega)) rfl
set_option maxRecDepth 100000 in
set_option maxHeartbeats 4000000 in
theorem c_X3_noteWrite {E : EV} {l : Launch} {mem : MEM} {k s : Nat} (hk : k < 8) (hs : s < 8) {q : Nat} (hq : q < 12) {n : Int32} : Ct E l yX3_noteWrite (me_ws yX3_noteWrite cX3_noteWrite 3 none) 3 [rv (9, k, s), iv (nI q), iv n] mem (Ret uv (up (up mem (9, k, s) 4 n) (10, k, s) q n)) := by
  refine Ct.of (RC := RX3) (ls0 := [rv (9, k, s), iv (nI q), iv n]) mi_yX3_noteWrite (Nat.le_of_ble_eq_true rfl) rfl (fun X C hX => ?_)
  refine e_aload_n C dX3_noteWrite_0 rfl ?_
  refine e_iload_n C dX3_noteWrite_1 rfl ?_
  refine e_puti C (ci := 3) 4 rfl rfl rfl (by decide) b_X3 rfl b_fl_X3_25 (v9 hk hs) tyX3 tyX3_ok nmX3 rfl (.inl ⟨rfl, rfl⟩) rfl dX3_noteWrite_2 ?_
  refine e_iload_n C dX3_noteWrite_5 rfl ?_
  refine f_callNr (As := [_]) (host := RX6) C mi_yX6_isKey b_st_yX6_isKey (by decide +kernel) dX3_noteWrite_6 rfl c_X6_isKey (by decide) (Nat.le_of_ble_eq_true rfl) ?_
  refine f_if_eq (tgt := 19) C dX3_noteWrite_9 (by decide) (fun h_9 => ?_) (fun h_9 => ?_)
  · skip
    exact absurd (⟨nI_le (Nat.zero_le _) (by omega), nI_le (by omega) (by decide)⟩ : nI 0 ≤ nI q ∧ nI q ≤ nI 11) (by assumption)
  · skip
    refine e_aload_n C dX3_noteWrite_12 rfl ?_
    refine e_getr C (ci := 3) 9 rfl rfl rfl (by decide) b_X3 rfl b_fl_X3_40 (v9 hk hs) rfl dX3_noteWrite_13 ?_
    refine e_iload_n C dX3_noteWrite_16 rfl ?_
    refine e_iload_n C dX3_noteWrite_17 rfl ?_
    refine f_iast C rfl (v10 hk hs) (by omega) (by decide) dX3_noteWrite_18 ?_
    exact f_vr C hX dX3_noteWrite_19 rfl
set_option maxRecDepth 100000 in
set_option maxHeartbeats 4000000 in
theorem c_X3_noteRead {E : EV} {l : Launch} {mem : MEM} {k s : Nat} (hk : k < 8) (hs : s < 8) {q : Nat} (hq : q < 12) {v p : Int32} : Ct E l yX3_noteRead (me_ws yX3_noteRead cX3_noteRead 4 none) 3 [rv (9, k, s), iv (nI q), iv v, iv p] mem (Ret uv (ntR mem k s q v p)) := by
  refine Ct.of (RC := RX3) (ls0 := [rv (9, k, s), iv (nI q), iv v, iv p]) mi_yX3_noteRead (Nat.le_of_ble_eq_true rfl) rfl (fun X C hX => ?_)
  refine e_aload_n C dX3_noteRead_0 rfl ?_
  refine e_dup C dX3_noteRead_1 ?_
  refine e_geti C (ci := 3) 6 rfl rfl rfl (by decide) b_X3 rfl b_fl_X3_31 (v9 hk hs) rfl dX3_noteRead_2 ?_
  refine e_iconst (v := nI 1) C dX3_noteRead_5 (by decide) ?_
  refine e_iadd C dX3_noteRead_6 ?_
  refine e_puti C (ci := 3) 6 rfl rfl rfl (by decide) b_X3 rfl b_fl_X3_31 (v9 hk hs) tyX3 tyX3_ok nmX3 rfl (.inl ⟨rfl, rfl⟩) rfl dX3_noteRead_7 ?_
  refine e_aload_n C dX3_noteRead_10 rfl ?_
  refine e_aload_n C dX3_noteRead_11 rfl ?_
  refine e_geti C (ci := 3) 5 rfl rfl rfl (by decide) b_X3 rfl b_fl_X3_28 (v9 hk hs) rfl dX3_noteRead_12 ?_
  refine e_iload_n C dX3_noteRead_15 rfl ?_
  refine e_mmax C b_ml_X3_57 dX3_noteRead_16 (Nat.le_of_ble_eq_true rfl) (by decide) ?_
  refine e_puti C (ci := 3) 5 rfl rfl rfl (by decide) b_X3 rfl b_fl_X3_28 (v9 hk hs) tyX3 tyX3_ok nmX3 rfl (.inl ⟨rfl, rfl⟩) rfl dX3_noteRead_19 ?_
  refine e_iload_n C dX3_noteRead_22 rfl ?_
  refine f_callNr (As := [_]) (host := RX6) C mi_yX6_isKey b_st_yX6_isKey (by decide +kernel) dX3_noteRead_23 rfl c_X6_isKey (by decide) (Nat.le_of_ble_eq_true rfl) ?_
  refine f_if_ne (tgt := 30) C dX3_noteRead_26 (by decide) (fun h_26 => ?_) (fun h_26 => ?_)
  · skip
    refine e_mem (m' := ntR1 mem k s p) (EqV.of (by simp [ntR1, up, maxI])) ?_
    refine e_aload_n C dX3_noteRead_30 rfl ?_
    refine e_getr C (ci := 3) 9 rfl rfl rfl (by decide) b_X3 rfl b_fl_X3_40 (v9 hk hs) rfl dX3_noteRead_31 ?_
    refine e_iload_n C dX3_noteRead_34 rfl ?_
    refine f_iald C rfl (v10 hk hs) (by omega) (by decide) dX3_noteRead_35 ?_
    refine e_iload_n C dX3_noteRead_36 rfl ?_
    refine e_icmp_le (tgt := 50) C dX3_noteRead_37 (by decide) (fun h_37 => ?_) (fun h_37 => ?_)
    · skip
      rw [show ntR1 mem k s p = ntR2 (ntR1 mem k s p) k s q v from (cif_pos h_37).symm]
      refine e_aload_n C dX3_noteRead_50 rfl ?_
      refine e_getr C (ci := 3) 10 rfl rfl rfl (by decide) b_X3 rfl b_fl_X3_44 (v9 hk hs) rfl dX3_noteRead_51 ?_
      refine e_iload_n C dX3_noteRead_54 rfl ?_
      refine f_iald C rfl (v11 hk hs) (by omega) (by decide) dX3_noteRead_55 ?_
      refine e_iload_n C dX3_noteRead_56 rfl ?_
      refine e_icmp_le (tgt := 70) C dX3_noteRead_57 (by decide) (fun h_57 => ?_) (fun h_57 => ?_)
      · skip
        refine e_mem (m' := ntR3 (ntR2 (ntR1 mem k s p) k s q v) k s q v) (EqV.of (cif_pos h_57).symm) ?_
        refine e_aload_n C dX3_noteRead_70 rfl ?_
        refine e_getr C (ci := 3) 10 rfl rfl rfl (by decide) b_X3 rfl b_fl_X3_44 (v9 hk hs) rfl dX3_noteRead_71 ?_
        refine e_iload_n C dX3_noteRead_74 rfl ?_
        refine e_aload_n C dX3_noteRead_75 rfl ?_
        refine e_getr C (ci := 3) 10 rfl rfl rfl (by decide) b_X3 rfl b_fl_X3_44 (v9 hk hs) rfl dX3_noteRead_76 ?_
        refine e_iload_n C dX3_noteRead_79 rfl ?_
        refine f_iald C rfl (v11 hk hs) (by omega) (by decide) dX3_noteRead_80 ?_
        refine e_iload_n C dX3_noteRead_81 rfl ?_
        refine e_mmax C b_ml_X3_57 dX3_noteRead_82 (Nat.le_of_ble_eq_true rfl) (by decide) ?_
        refine f_iast C rfl (v11 hk hs) (by omega) (by decide) dX3_noteRead_85 ?_
        exact f_vr C hX dX3_noteRead_86 rfl
      · skip
        refine e_aload_n C dX3_noteRead_60 rfl ?_
        refine e_dup C dX3_noteRead_61 ?_
        refine e_geti C (ci := 3) 8 rfl rfl rfl (by decide) b_X3 rfl b_fl_X3_37 (v9 hk hs) rfl dX3_noteRead_62 ?_
        refine e_iconst (v := nI 1) C dX3_noteRead_65 (by decide) ?_
        refine e_iadd C dX3_noteRead_66 ?_
        refine e_puti C (ci := 3) 8 rfl rfl rfl (by decide) b_X3 rfl b_fl_X3_37 (v9 hk hs) tyX3 tyX3_ok nmX3 rfl (.inl ⟨rfl, rfl⟩) rfl dX3_noteRead_67 ?_
        refine e_mem (m' := ntR3 (ntR2 (ntR1 mem k s p) k s q v) k s q v) (EqV.of (cif_neg h_57).symm) ?_
        refine e_aload_n C dX3_noteRead_70 rfl ?_
        refine e_getr C (ci := 3) 10 rfl rfl rfl (by decide) b_X3 rfl b_fl_X3_44 (v9 hk hs) rfl dX3_noteRead_71 ?_
        refine e_iload_n C dX3_noteRead_74 rfl ?_
        refine e_aload_n C dX3_noteRead_75 rfl ?_
        refine e_getr C (ci := 3) 10 rfl rfl rfl (by decide) b_X3 rfl b_fl_X3_44 (v9 hk hs) rfl dX3_noteRead_76 ?_
        refine e_iload_n C dX3_noteRead_79 rfl ?_
        refine f_iald C rfl (v11 hk hs) (by omega) (by decide) dX3_noteRead_80 ?_
        refine e_iload_n C dX3_noteRead_81 rfl ?_
        refine e_mmax C b_ml_X3_57 dX3_noteRead_82 (Nat.le_of_ble_eq_true rfl) (by decide) ?_
        refine f_iast C rfl (v11 hk hs) (by omega) (by decide) dX3_noteRead_85 ?_
        exact f_vr C hX dX3_noteRead_86 rfl
    · skip
      refine e_aload_n C dX3_noteRead_40 rfl ?_
      refine e_dup C dX3_noteRead_41 ?_
      refine e_geti C (ci := 3) 7 rfl rfl rfl (by decide) b_X3 rfl b_fl_X3_34 (v9 hk hs) rfl dX3_noteRead_42 ?_
      refine e_iconst (v := nI 1) C dX3_noteRead_45 (by decide) ?_
      refine e_iadd C dX3_noteRead_46 ?_
      refine e_puti C (ci := 3) 7 rfl rfl rfl (by decide) b_X3 rfl b_fl_X3_34 (v9 hk hs) tyX3 tyX3_ok nmX3 rfl (.inl ⟨rfl, rfl⟩) rfl dX3_noteRead_47 ?_
      refine e_mem (m' := ntR2 (ntR1 mem k s p) k s q v) (EqV.of (cif_neg h_37).symm) ?_
      refine e_aload_n C dX3_noteRead_50 rfl ?_
      refine e_getr C (ci := 3) 10 rfl rfl rfl (by decide) b_X3 rfl b_fl_X3_44 (v9 hk hs) rfl dX3_noteRead_51 ?_
      refine e_iload_n C dX3_noteRead_54 rfl ?_
      refine f_iald C rfl (v11 hk hs) (by omega) (by decide) dX3_noteRead_55 ?_
      refine e_iload_n C dX3_noteRead_56 rfl ?_
      refine e_icmp_le (tgt := 70) C dX3_noteRead_57 (by decide) (fun h_57 => ?_) (fun h_57 => ?_)
      · skip
        refine e_mem (m' := ntR3 (ntR2 (ntR1 mem k s p) k s q v) k s q v) (EqV.of (cif_pos h_57).symm) ?_
        refine e_aload_n C dX3_noteRead_70 rfl ?_
        refine e_getr C (ci := 3) 10 rfl rfl rfl (by decide) b_X3 rfl b_fl_X3_44 (v9 hk hs) rfl dX3_noteRead_71 ?_
        refine e_iload_n C dX3_noteRead_74 rfl ?_
        refine e_aload_n C dX3_noteRead_75 rfl ?_
        refine e_getr C (ci := 3) 10 rfl rfl rfl (by decide) b_X3 rfl b_fl_X3_44 (v9 hk hs) rfl dX3_noteRead_76 ?_
        refine e_iload_n C dX3_noteRead_79 rfl ?_
        refine f_iald C rfl (v11 hk hs) (by omega) (by decide) dX3_noteRead_80 ?_
        refine e_iload_n C dX3_noteRead_81 rfl ?_
        refine e_mmax C b_ml_X3_57 dX3_noteRead_82 (Nat.le_of_ble_eq_true rfl) (by decide) ?_
        refine f_iast C rfl (v11 hk hs) (by omega) (by decide) dX3_noteRead_85 ?_
        exact f_vr C hX dX3_noteRead_86 rfl
      · skip
        refine e_aload_n C dX3_noteRead_60 rfl ?_
        refine e_dup C dX3_noteRead_61 ?_
        refine e_geti C (ci := 3) 8 rfl rfl rfl (by decide) b_X3 rfl b_fl_X3_37 (v9 hk hs) rfl dX3_noteRead_62 ?_
        refine e_iconst (v := nI 1) C dX3_noteRead_65 (by decide) ?_
        refine e_iadd C dX3_noteRead_66 ?_
        refine e_puti C (ci := 3) 8 rfl rfl rfl (by decide) b_X3 rfl b_fl_X3_37 (v9 hk hs) tyX3 tyX3_ok nmX3 rfl (.inl ⟨rfl, rfl⟩) rfl dX3_noteRead_67 ?_
        refine e_mem (m' := ntR3 (ntR2 (ntR1 mem k s p) k s q v) k s q v) (EqV.of (cif_neg h_57).symm) ?_
        refine e_aload_n C dX3_noteRead_70 rfl ?_
        refine e_getr C (ci := 3) 10 rfl rfl rfl (by decide) b_X3 rfl b_fl_X3_44 (v9 hk hs) rfl dX3_noteRead_71 ?_
        refine e_iload_n C dX3_noteRead_74 rfl ?_
        refine e_aload_n C dX3_noteRead_75 rfl ?_
        refine e_getr C (ci := 3) 10 rfl rfl rfl (by decide) b_X3 rfl b_fl_X3_44 (v9 hk hs) rfl dX3_noteRead_76 ?_
        refine e_iload_n C dX3_noteRead_79 rfl ?_
        refine f_iald C rfl (v11 hk hs) (by omega) (by decide) dX3_noteRead_80 ?_
        refine e_iload_n C dX3_noteRead_81 rfl ?_
        refine e_mmax C b_ml_X3_57 dX3_noteRead_82 (Nat.le_of_ble_eq_true rfl) (by decide) ?_
        refine f_iast C rfl (v11 hk hs) (by omega) (by decide) dX3_noteRead_85 ?_
        exact f_vr C hX dX3_noteRead_86 rfl
  · skip
    exact absurd (⟨nI_le (Nat.zero_le _) (by omega), nI_le (by omega) (by decide)⟩ : nI 0 ≤ nI q ∧ nI q ≤ nI 11) (by assumption)
set_option maxRecDepth 100000 in
set_option maxHeartbeats 4000000 in
theorem c_X3_copyFrom {E : EV} {l : Launch} {mem : MEM} {k k2 s : Nat} (hk : k < 8) (hk2 : k2 < 8) (hs : s < 8) (hn : k ≠ k2) : Ct E l yX3_copyFrom (me_ws yX3_copyFrom cX3_copyFrom 2 none) 1 [rv (9, k, s), rv (9, k2, s)] mem (Ret uv (cpS1 mem k k2 s)) := by
  refine Ct.of (RC := RX3) (ls0 := [rv (9, k, s), rv (9, k2, s)]) mi_yX3_copyFrom (Nat.le_of_ble_eq_true rfl) rfl (fun X C hX => ?_)
  refine e_aload_n C dX3_copyFrom_0 rfl ?_
  refine e_aload_n C dX3_copyFrom_1 rfl ?_
  refine e_getz C (ci := 3) 0 rfl rfl rfl (by decide) b_X3 rfl b_fl_X3_9 (v9 hk2 hs) rfl rfl dX3_copyFrom_2 (fun hz_2 => ?_)
  refine e_puti C (ci := 3) 0 rfl rfl rfl (by decide) b_X3 rfl b_fl_X3_9 (v9 hk hs) tyX3 tyX3_ok nmX3 rfl (.inr ⟨rfl, (by assumption)⟩) rfl dX3_copyFrom_5 ?_
  refine e_aload_n C dX3_copyFrom_8 rfl ?_
  refine e_aload_n C dX3_copyFrom_9 rfl ?_
  refine e_geti C (ci := 3) 1 rfl rfl rfl (by decide) b_X3 rfl b_fl_X3_15 (v9 hk2 hs) rfl dX3_copyFrom_10 ?_
  refine e_puti C (ci := 3) 1 rfl rfl rfl (by decide) b_X3 rfl b_fl_X3_15 (v9 hk hs) tyX3 tyX3_ok nmX3 rfl (.inl ⟨rfl, rfl⟩) rfl dX3_copyFrom_13 ?_
  refine e_aload_n C dX3_copyFrom_16 rfl ?_
  refine e_aload_n C dX3_copyFrom_17 rfl ?_
  refine e_geti C (ci := 3) 2 rfl rfl rfl (by decide) b_X3 rfl b_fl_X3_19 (v9 hk2 hs) rfl dX3_copyFrom_18 ?_
  refine e_puti C (ci := 3) 2 rfl rfl rfl (by decide) b_X3 rfl b_fl_X3_19 (v9 hk hs) tyX3 tyX3_ok nmX3 rfl (.inl ⟨rfl, rfl⟩) rfl dX3_copyFrom_21 ?_
  refine e_aload_n C dX3_copyFrom_24 rfl ?_
  refine e_aload_n C dX3_copyFrom_25 rfl ?_
  refine e_geti C (ci := 3) 3 rfl rfl rfl (by decide) b_X3 rfl b_fl_X3_22 (v9 hk2 hs) rfl dX3_copyFrom_26 ?_
  refine e_puti C (ci := 3) 3 rfl rfl rfl (by decide) b_X3 rfl b_fl_X3_22 (v9 hk hs) tyX3 tyX3_ok nmX3 rfl (.inl ⟨rfl, rfl⟩) rfl dX3_copyFrom_29 ?_
  refine e_aload_n C dX3_copyFrom_32 rfl ?_
  refine e_aload_n C dX3_copyFrom_33 rfl ?_
  refine e_geti C (ci := 3) 4 rfl rfl rfl (by decide) b_X3 rfl b_fl_X3_25 (v9 hk2 hs) rfl dX3_copyFrom_34 ?_
  refine e_puti C (ci := 3) 4 rfl rfl rfl (by decide) b_X3 rfl b_fl_X3_25 (v9 hk hs) tyX3 tyX3_ok nmX3 rfl (.inl ⟨rfl, rfl⟩) rfl dX3_copyFrom_37 ?_
  refine e_aload_n C dX3_copyFrom_40 rfl ?_
  refine e_aload_n C dX3_copyFrom_41 rfl ?_
  refine e_geti C (ci := 3) 5 rfl rfl rfl (by decide) b_X3 rfl b_fl_X3_28 (v9 hk2 hs) rfl dX3_copyFrom_42 ?_
  refine e_puti C (ci := 3) 5 rfl rfl rfl (by decide) b_X3 rfl b_fl_X3_28 (v9 hk hs) tyX3 tyX3_ok nmX3 rfl (.inl ⟨rfl, rfl⟩) rfl dX3_copyFrom_45 ?_
  refine e_aload_n C dX3_copyFrom_48 rfl ?_
  refine e_aload_n C dX3_copyFrom_49 rfl ?_
  refine e_geti C (ci := 3) 6 rfl rfl rfl (by decide) b_X3 rfl b_fl_X3_31 (v9 hk2 hs) rfl dX3_copyFrom_50 ?_
  refine e_puti C (ci := 3) 6 rfl rfl rfl (by decide) b_X3 rfl b_fl_X3_31 (v9 hk hs) tyX3 tyX3_ok nmX3 rfl (.inl ⟨rfl, rfl⟩) rfl dX3_copyFrom_53 ?_
  refine e_aload_n C dX3_copyFrom_56 rfl ?_
  refine e_aload_n C dX3_copyFrom_57 rfl ?_
  refine e_geti C (ci := 3) 7 rfl rfl rfl (by decide) b_X3 rfl b_fl_X3_34 (v9 hk2 hs) rfl dX3_copyFrom_58 ?_
  refine e_puti C (ci := 3) 7 rfl rfl rfl (by decide) b_X3 rfl b_fl_X3_34 (v9 hk hs) tyX3 tyX3_ok nmX3 rfl (.inl ⟨rfl, rfl⟩) rfl dX3_copyFrom_61 ?_
  refine e_aload_n C dX3_copyFrom_64 rfl ?_
  refine e_aload_n C dX3_copyFrom_65 rfl ?_
  refine e_geti C (ci := 3) 8 rfl rfl rfl (by decide) b_X3 rfl b_fl_X3_37 (v9 hk2 hs) rfl dX3_copyFrom_66 ?_
  refine e_puti C (ci := 3) 8 rfl rfl rfl (by decide) b_X3 rfl b_fl_X3_37 (v9 hk hs) tyX3 tyX3_ok nmX3 rfl (.inl ⟨rfl, rfl⟩) rfl dX3_copyFrom_69 ?_
  refine e_aload_n C dX3_copyFrom_72 rfl ?_
  refine e_getr C (ci := 3) 9 rfl rfl rfl (by decide) b_X3 rfl b_fl_X3_40 (v9 hk2 hs) rfl dX3_copyFrom_73 ?_
  refine e_iconst (v := nI 0) C dX3_copyFrom_76 (by decide) ?_
  refine e_aload_n C dX3_copyFrom_77 rfl ?_
  refine e_getr C (ci := 3) 9 rfl rfl rfl (by decide) b_X3 rfl b_fl_X3_40 (v9 hk hs) rfl dX3_copyFrom_78 ?_
  refine e_iconst (v := nI 0) C dX3_copyFrom_81 (by decide) ?_
  refine e_bipush (v := nI 12) C dX3_copyFrom_82 (by decide) ?_
  refine e_copy (n := 12) C rfl rfl (v10 hk2 hs) (v10 hk hs) (by decide) (by decide) b_ml_X3_66 dX3_copyFrom_84 (Nat.le_of_ble_eq_true rfl) (by decide) ?_
  refine e_aload_n C dX3_copyFrom_87 rfl ?_
  refine e_getr C (ci := 3) 10 rfl rfl rfl (by decide) b_X3 rfl b_fl_X3_44 (v9 hk2 hs) rfl dX3_copyFrom_88 ?_
  refine e_iconst (v := nI 0) C dX3_copyFrom_91 (by decide) ?_
  refine e_aload_n C dX3_copyFrom_92 rfl ?_
  refine e_getr C (ci := 3) 10 rfl rfl rfl (by decide) b_X3 rfl b_fl_X3_44 (v9 hk hs) rfl dX3_copyFrom_93 ?_
  refine e_iconst (v := nI 0) C dX3_copyFrom_96 (by decide) ?_
  refine e_bipush (v := nI 12) C dX3_copyFrom_97 (by decide) ?_
  refine e_copy (n := 12) C rfl rfl (v11 hk2 hs) (v11 hk hs) (by decide) (by decide) b_ml_X3_66 dX3_copyFrom_99 (Nat.le_of_ble_eq_true rfl) (by decide) ?_
  exact e_mem (EqV.trans (EqV.of (by simp [up, hn, Ne.symm hn])) (cpS1_ok hn)) (f_vr C hX dX3_copyFrom_102 rfl)
end
section
/-! ===== further meanings; a state of the class and its row of numbers ===== -/
noncomputable def behz (z : ZZ) (r : Nat) (t : Int32) : Int32 := minI (rz z r 1 + cif (rz z r 3 = 1) 0 (rz z r 2 * t)) (z 0)
noncomputable def tck (z : ZZ) (t : Int32) : Nat → ZZ
  | 0 => z
  | n + 1 => cif (rz (tck z t n) n 0 = 1) (rs (tck z t n) n 1 (behz (tck z t n) n t)) (tck z t n)
noncomputable def cau (z : ZZ) : Nat → Nat
  | 0 => 0
  | n + 1 => cau z n + cif (rz z n 0 = 1 ∧ rz z n 1 = z 0) 1 0
theorem cau_le (z : ZZ) : ∀ n, cau z n ≤ n
  | 0 => Nat.le_refl 0
  | n + 1 => by
    unfold cau cif
    have := cau_le z n
    split <;> omega
/-- a mask of the ones among n -/
noncomputable def msk (f : Nat → Int32) : Nat → Int32
  | 0 => nI 0
  | n + 1 => cif (f n = 1) (msk f n ||| (nI 1 <<< (nI n &&& 31))) (msk f n)
noncomputable def homz (z : ZZ) (pl : Int32) : Nat → Nat
  | 0 => 0
  | n + 1 => homz z pl n + cif (sz z n 0 = 1 ∧ sz z n 1 = pl) 1 0
theorem homz_le (z : ZZ) (pl : Int32) : ∀ n, homz z pl n ≤ n
  | 0 => Nat.le_refl 0
  | n + 1 => by
    unfold homz cif
    have := homz_le z pl n
    split <;> omega
noncomputable def sndz (z : ZZ) (pl : Int32) : Nat → ZZ
  | 0 => z
  | n + 1 => cif (sz (sndz z pl n) n 0 = 1 ∧ sz (sndz z pl n) n 1 = pl) (ss (sndz z pl n) n 1 (nI 9)) (sndz z pl n)
/-- the first place from i on, of n, where there is no 1 -/
def ffr (f : Nat → Int32) : Nat → Nat → Nat
  | 0, i => i
  | n + 1, i => if f i = 1 then ffr f n (i + 1) else i
theorem upd_same {z : ZZ} {j : Nat} : upd z j (z j) = z := by
  funext i
  unfold upd
  split
  · rename_i h; rw [h]
  · rfl
theorem upd_comm {z : ZZ} {i j : Nat} {a b : Int32} (h : i ≠ j) : upd (upd z i a) j b = upd (upd z j b) i a := by
  funext q
  unfold upd
  by_cases h1 : q = j
  · by_cases h2 : q = i
    · omega
    · simp [h1, Ne.symm h]
  · simp [h1]
theorem upd_upd {z : ZZ} {i : Nat} {a b : Int32} : upd (upd z i a) i b = upd z i b := by
  funext q
  unfold upd
  by_cases h1 : q = i <;> simp [h1]
theorem rs_same {z : ZZ} {r w : Nat} : rs z r w (rz z r w) = z := upd_same
theorem ss_same {z : ZZ} {r w : Nat} : ss z r w (sz z r w) = z := upd_same
/-- the cells of state k -/
def blk (k : Nat) (id : ID) : Prop := id.2.1 = k ∧ 1 ≤ id.1 ∧ id.1 ≤ 11
def FrS (k : Nat) (mem m : MEM) : Prop := ∀ id, ¬ blk k id → m id = mem id
theorem FrS.rfl' {k : Nat} {mem : MEM} : FrS k mem mem := fun _ _ => rfl
theorem FrS.trans {k : Nat} {a b c : MEM} (h1 : FrS k a b) (h2 : FrS k b c) : FrS k a c := fun id h => (h2 id h).trans (h1 id h)
theorem FrS.set {k : Nat} {mem m : MEM} {id : ID} {j : Nat} {v : Int32} (h : FrS k mem m) (hb : blk k id) : FrS k mem (up m id j v) := fun id' h' => by
  have : id' ≠ id := fun e => h' (e ▸ hb)
  funext b
  rw [← h id' h']
  simp [up, this]
def RelS (mem : MEM) (k : Nat) (z : ZZ) : Prop :=
  mem (2, k, 0) 0 = z 0 ∧ mem (1, k, 0) 4 = z 1 ∧ (¬ z 1 = -6 → mem (1, k, 0) 5 = z 2 ∧ mem (1, k, 0) 6 = z 3) ∧ mem (1, k, 0) 3 = z 4 ∧
  (∀ r, r < 5 → ∀ w, w < 5 → mem (8, k, r) w = rz z r w) ∧
  (∀ s, s < 8 → mem (9, k, s) 0 = sz z s 0 ∧ (sz z s 0 = 1 → (∀ w, w < 9 → mem (9, k, s) w = sz z s w) ∧ ∀ q, q < 12 → mem (10, k, s) q = sz z s (9 + q) ∧ mem (11, k, s) q = sz z s (21 + q))) ∧
  (∀ j, j < 200 → mem (3, k, 0) j = wz z j 0 ∧ mem (4, k, 0) j = wz z j 1 ∧ mem (5, k, 0) j = wz z j 2)
section REL
variable {mem m : MEM} {k : Nat} {z : ZZ}
theorem RelS.cnt (h : RelS mem k z) : mem (2, k, 0) 0 = z 0 := h.1
theorem RelS.lp (h : RelS mem k z) : mem (1, k, 0) 4 = z 1 := h.2.1
theorem RelS.lv (h : RelS mem k z) (hn : ¬ z 1 = -6) : mem (1, k, 0) 5 = z 2 := (h.2.2.1 hn).1
theorem RelS.lt (h : RelS mem k z) (hn : ¬ z 1 = -6) : mem (1, k, 0) 6 = z 3 := (h.2.2.1 hn).2
theorem RelS.pa (h : RelS mem k z) : mem (1, k, 0) 3 = z 4 := h.2.2.2.1
theorem RelS.rep (h : RelS mem k z) {r w : Nat} (hr : r < 5) (hw : w < 5) : mem (8, k, r) w = rz z r w := h.2.2.2.2.1 r hr w hw
theorem RelS.se0 (h : RelS mem k z) {s : Nat} (hs : s < 8) : mem (9, k, s) 0 = sz z s 0 := (h.2.2.2.2.2.1 s hs).1
theorem RelS.ses (h : RelS mem k z) {s w : Nat} (hs : s < 8) (ho : sz z s 0 = 1) (hw : w < 9) : mem (9, k, s) w = sz z s w := ((h.2.2.2.2.2.1 s hs).2 ho).1 w hw
theorem RelS.wro (h : RelS mem k z) {s q : Nat} (hs : s < 8) (ho : sz z s 0 = 1) (hq : q < 12) : mem (10, k, s) q = sz z s (9 + q) := (((h.2.2.2.2.2.1 s hs).2 ho).2 q hq).1
theorem RelS.rea (h : RelS mem k z) {s q : Nat} (hs : s < 8) (ho : sz z s 0 = 1) (hq : q < 12) : mem (11, k, s) q = sz z s (21 + q) := (((h.2.2.2.2.2.1 s hs).2 ho).2 q hq).2
theorem RelS.key (h : RelS mem k z) {j : Nat} (hj : j < 200) : mem (3, k, 0) j = wz z j 0 := (h.2.2.2.2.2.2 j hj).1
theorem RelS.val (h : RelS mem k z) {j : Nat} (hj : j < 200) : mem (4, k, 0) j = wz z j 1 := (h.2.2.2.2.2.2 j hj).2.1
theorem RelS.wtr (h : RelS mem k z) {j : Nat} (hj : j < 200) : mem (5, k, 0) j = wz z j 2 := (h.2.2.2.2.2.2 j hj).2.2
theorem RelS.congr (h : RelS mem k z) (hm : ∀ id, blk k id → m id = mem id) : RelS m k z := by
  have b : ∀ t i, 1 ≤ t → t ≤ 11 → m (t, k, i) = mem (t, k, i) := fun t i h1 h2 => hm _ ⟨rfl, h1, h2⟩
  obtain ⟨h1, h2, h3, h4, h5, h6, h7⟩ := h
  refine ⟨?_, ?_, ?_, ?_, ?_, ?_, ?_⟩
  · rw [b 2 0 (by decide) (by decide)]; exact h1
  · rw [b 1 0 (by decide) (by decide)]; exact h2
  · rw [b 1 0 (by decide) (by decide)]; exact h3
  · rw [b 1 0 (by decide) (by decide)]; exact h4
  · intro r hr w hw; rw [b 8 r (by decide) (by decide)]; exact h5 r hr w hw
  · intro s hs
    rw [b 9 s (by decide) (by decide), b 10 s (by decide) (by decide), b 11 s (by decide) (by decide)]
    exact h6 s hs
  · intro j hj
    rw [b 3 0 (by decide) (by decide), b 4 0 (by decide) (by decide), b 5 0 (by decide) (by decide)]
    exact h7 j hj
theorem RelS.frame {k' : Nat} (h : RelS mem k z) (hf : FrS k' mem m) (hn : k ≠ k') : RelS m k z := h.congr fun id hb => hf id fun q => hn (hb.1.symm.trans q.1)
theorem RelS.s_rep (h : RelS mem k z) {r w : Nat} {v : Int32} (hr : r < 5) (hw : w < 5) : RelS (up mem (8, k, r) w v) k (rs z r w v) := by
  obtain ⟨h1, h2, h3, h4, h5, h6, h7⟩ := h
  refine ⟨?_, ?_, ?_, ?_, ?_, ?_, ?_⟩
  · rw [hz_rs (by decide)]; simpa [up] using h1
  · rw [hz_rs (by decide)]; simpa [up] using h2
  · rw [hz_rs (by decide), hz_rs (by decide), hz_rs (by decide)]; simpa [up] using h3
  · rw [hz_rs (by decide)]; simpa [up] using h4
  · intro r' hr' w' hw'
    rw [rz_rs hw hw', ← h5 r' hr' w' hw']
    simp [up]
  · intro s hs
    simp only [sz_rs hr hw]
    simpa [up] using h6 s hs
  · intro j hj
    simp only [wz_rs hr hw]
    simpa [up] using h7 j hj
theorem RelS.s_ses (h : RelS mem k z) {s w : Nat} {v : Int32} (hs : s < 8) (hw : w < 9) (hw0 : 0 < w) : RelS (up mem (9, k, s) w v) k (ss z s w v) := by
  obtain ⟨h1, h2, h3, h4, h5, h6, h7⟩ := h
  refine ⟨?_, ?_, ?_, ?_, ?_, ?_, ?_⟩
  · rw [hz_ss (by decide)]; simpa [up] using h1
  · rw [hz_ss (by decide)]; simpa [up] using h2
  · rw [hz_ss (by decide), hz_ss (by decide), hz_ss (by decide)]; simpa [up] using h3
  · rw [hz_ss (by decide)]; simpa [up] using h4
  · intro r' hr' w' hw'
    rw [rz_ss hr' hw', ← h5 r' hr' w' hw']
    simp [up]
  · intro s' hs'
    have e0 : sz (ss z s w v) s' 0 = sz z s' 0 := by rw [sz_ss (by omega) (by omega), if_neg (by omega)]
    rw [e0]
    refine ⟨by rw [← (h6 s' hs').1]; simp [up]; omega, fun ho => ⟨fun w' hw' => ?_, fun q hq => ?_⟩⟩
    · rw [sz_ss (by omega) (by omega), ← ((h6 s' hs').2 ho).1 w' hw']
      simp [up]
    · rw [sz_ss (by omega) (by omega), sz_ss (by omega) (by omega), if_neg (by omega), if_neg (by omega)]
      simpa [up] using ((h6 s' hs').2 ho).2 q hq
  · intro j hj
    simp only [wz_ss hs (show w < 33 by omega)]
    simpa [up] using h7 j hj
theorem RelS.s_close (h : RelS mem k z) {s : Nat} (hs : s < 8) : RelS (up mem (9, k, s) 0 (nI 0)) k (ss z s 0 (nI 0)) := by
  obtain ⟨h1, h2, h3, h4, h5, h6, h7⟩ := h
  refine ⟨?_, ?_, ?_, ?_, ?_, ?_, ?_⟩
  · rw [hz_ss (by decide)]; simpa [up] using h1
  · rw [hz_ss (by decide)]; simpa [up] using h2
  · rw [hz_ss (by decide), hz_ss (by decide), hz_ss (by decide)]; simpa [up] using h3
  · rw [hz_ss (by decide)]; simpa [up] using h4
  · intro r' hr' w' hw'
    rw [rz_ss hr' hw', ← h5 r' hr' w' hw']
    simp [up]
  · intro s' hs'
    by_cases e : s' = s
    · subst e
      rw [sz_ss (by omega) (by omega), if_pos ⟨rfl, rfl⟩]
      exact ⟨by simp [up], fun q => absurd q (by decide)⟩
    · have e0 : ∀ w, w < 33 → sz (ss z s 0 (nI 0)) s' w = sz z s' w := fun w hw => by rw [sz_ss (by omega) hw, if_neg (by omega)]
      rw [e0 0 (by decide)]
      refine ⟨by rw [← (h6 s' hs').1]; simp [up, e], fun ho => ⟨fun w' hw' => ?_, fun q hq => ?_⟩⟩
      · rw [e0 w' (by omega), ← ((h6 s' hs').2 ho).1 w' hw']
        simp [up, e]
      · rw [e0 _ (by omega), e0 _ (by omega)]
        simpa [up, e] using ((h6 s' hs').2 ho).2 q hq
  · intro j hj
    simp only [wz_ss hs (show 0 < 33 by omega)]
    simpa [up] using h7 j hj
theorem RelS.s_wro (h : RelS mem k z) {s q : Nat} {v : Int32} (hs : s < 8) (hq : q < 12) : RelS (up mem (10, k, s) q v) k (ss z s (9 + q) v) := by
  obtain ⟨h1, h2, h3, h4, h5, h6, h7⟩ := h
  refine ⟨?_, ?_, ?_, ?_, ?_, ?_, ?_⟩
  · rw [hz_ss (by decide)]; simpa [up] using h1
  · rw [hz_ss (by decide)]; simpa [up] using h2
  · rw [hz_ss (by decide), hz_ss (by decide), hz_ss (by decide)]; simpa [up] using h3
  · rw [hz_ss (by decide)]; simpa [up] using h4
  · intro r' hr' w' hw'
    rw [rz_ss hr' hw', ← h5 r' hr' w' hw']
    simp [up]
  · intro s' hs'
    have e0 : ∀ w, w < 9 → sz (ss z s (9 + q) v) s' w = sz z s' w := fun w hw => by rw [sz_ss (by omega) (by omega), if_neg (by omega)]
    rw [e0 0 (by decide)]
    refine ⟨by rw [← (h6 s' hs').1]; simp [up], fun ho => ⟨fun w' hw' => ?_, fun q' hq' => ?_⟩⟩
    · rw [e0 w' hw', ← ((h6 s' hs').2 ho).1 w' hw']
      simp [up]
    · obtain ⟨g1, g2⟩ := ((h6 s' hs').2 ho).2 q' hq'
      rw [sz_ss (by omega) (by omega), sz_ss (by omega) (by omega), if_neg (show ¬ (s' = s ∧ 21 + q' = 9 + q) by omega), ← g1, ← g2]
      have e : (9 + q' = 9 + q) ↔ q' = q := by omega
      simp [up, e]
  · intro j hj
    simp only [wz_ss hs (show 9 + q < 33 by omega)]
    simpa [up] using h7 j hj
theorem RelS.s_rea (h : RelS mem k z) {s q : Nat} {v : Int32} (hs : s < 8) (hq : q < 12) : RelS (up mem (11, k, s) q v) k (ss z s (21 + q) v) := by
  obtain ⟨h1, h2, h3, h4, h5, h6, h7⟩ := h
  refine ⟨?_, ?_, ?_, ?_, ?_, ?_, ?_⟩
  · rw [hz_ss (by decide)]; simpa [up] using h1
  · rw [hz_ss (by decide)]; simpa [up] using h2
  · rw [hz_ss (by decide), hz_ss (by decide), hz_ss (by decide)]; simpa [up] using h3
  · rw [hz_ss (by decide)]; simpa [up] using h4
  · intro r' hr' w' hw'
    rw [rz_ss hr' hw', ← h5 r' hr' w' hw']
    simp [up]
  · intro s' hs'
    have e0 : ∀ w, w < 9 → sz (ss z s (21 + q) v) s' w = sz z s' w := fun w hw => by rw [sz_ss (by omega) (by omega), if_neg (by omega)]
    rw [e0 0 (by decide)]
    refine ⟨by rw [← (h6 s' hs').1]; simp [up], fun ho => ⟨fun w' hw' => ?_, fun q' hq' => ?_⟩⟩
    · rw [e0 w' hw', ← ((h6 s' hs').2 ho).1 w' hw']
      simp [up]
    · obtain ⟨g1, g2⟩ := ((h6 s' hs').2 ho).2 q' hq'
      rw [sz_ss (by omega) (by omega), sz_ss (by omega) (by omega), if_neg (show ¬ (s' = s ∧ 9 + q' = 21 + q) by omega), ← g1, ← g2]
      have e : (21 + q' = 21 + q) ↔ q' = q := by omega
      simp [up, e]
  · intro j hj
    simp only [wz_ss hs (show 21 + q < 33 by omega)]
    simpa [up] using h7 j hj
theorem RelS.s_cnt (h : RelS mem k z) {v : Int32} : RelS (up mem (2, k, 0) 0 v) k (upd z 0 v) := by
  obtain ⟨h1, h2, h3, h4, h5, h6, h7⟩ := h
  refine ⟨?_, ?_, ?_, ?_, ?_, ?_, ?_⟩
  · simp [up, upd]
  · simpa [up, upd] using h2
  · simpa [up, upd] using h3
  · simpa [up, upd] using h4
  · intro r' hr' w' hw'
    rw [rz_h (by decide), ← h5 r' hr' w' hw']
    simp [up]
  · intro s hs
    simp only [sz_h (show 0 < 5 by decide)]
    simpa [up] using h6 s hs
  · intro j hj
    simp only [wz_h (show 0 < 5 by decide)]
    simpa [up] using h7 j hj
theorem RelS.s_pa (h : RelS mem k z) {v : Int32} : RelS (up mem (1, k, 0) 3 v) k (upd z 4 v) := by
  obtain ⟨h1, h2, h3, h4, h5, h6, h7⟩ := h
  refine ⟨?_, ?_, ?_, ?_, ?_, ?_, ?_⟩
  · simpa [up, upd] using h1
  · simpa [up, upd] using h2
  · simpa [up, upd] using h3
  · simp [up, upd]
  · intro r' hr' w' hw'
    rw [rz_h (by decide), ← h5 r' hr' w' hw']
    simp [up]
  · intro s hs
    simp only [sz_h (show 4 < 5 by decide)]
    simpa [up] using h6 s hs
  · intro j hj
    simp only [wz_h (show 4 < 5 by decide)]
    simpa [up] using h7 j hj
theorem RelS.s_lat (h : RelS mem k z) {a b c : Int32} : RelS (up (up (up mem (1, k, 0) 4 a) (1, k, 0) 5 b) (1, k, 0) 6 c) k (upd (upd (upd z 1 a) 2 b) 3 c) := by
  obtain ⟨h1, h2, h3, h4, h5, h6, h7⟩ := h
  refine ⟨?_, ?_, ?_, ?_, ?_, ?_, ?_⟩
  · simpa [up, upd] using h1
  · simp [up, upd]
  · simp [up, upd]
  · simpa [up, upd] using h4
  · intro r' hr' w' hw'
    rw [rz_h (by decide), rz_h (by decide), rz_h (by decide), ← h5 r' hr' w' hw']
    simp [up]
  · intro s hs
    simp only [sz_h (show 1 < 5 by decide), sz_h (show 2 < 5 by decide), sz_h (show 3 < 5 by decide)]
    simpa [up] using h6 s hs
  · intro j hj
    simp only [wz_h (show 1 < 5 by decide), wz_h (show 2 < 5 by decide), wz_h (show 3 < 5 by decide)]
    simpa [up] using h7 j hj
theorem RelS.s_log (h : RelS mem k z) {j : Nat} {a b c : Int32} (hj : j < 200) : RelS (up (up (up mem (3, k, 0) j a) (4, k, 0) j b) (5, k, 0) j c) k (wsx (wsx (wsx z j 0 a) j 1 b) j 2 c) := by
  obtain ⟨h1, h2, h3, h4, h5, h6, h7⟩ := h
  refine ⟨?_, ?_, ?_, ?_, ?_, ?_, ?_⟩
  · simp only [hz_ws (show 0 < 5 by decide)]; simpa [up] using h1
  · simp only [hz_ws (show 1 < 5 by decide)]; simpa [up] using h2
  · simp only [hz_ws (show 1 < 5 by decide), hz_ws (show 2 < 5 by decide), hz_ws (show 3 < 5 by decide)]; simpa [up] using h3
  · simp only [hz_ws (show 4 < 5 by decide)]; simpa [up] using h4
  · intro r' hr' w' hw'
    rw [rz_ws hr' hw', rz_ws hr' hw', rz_ws hr' hw', ← h5 r' hr' w' hw']
    simp [up]
  · intro s hs
    have e : ∀ w, w < 33 → sz (wsx (wsx (wsx z j 0 a) j 1 b) j 2 c) s w = sz z s w := fun w hw => by rw [sz_ws hs hw, sz_ws hs hw, sz_ws hs hw]
    rw [e 0 (by decide)]
    refine ⟨by rw [← (h6 s hs).1]; simp [up], fun ho => ⟨fun w' hw' => ?_, fun q hq => ?_⟩⟩
    · rw [e w' (by omega), ← ((h6 s hs).2 ho).1 w' hw']; simp [up]
    · rw [e _ (by omega), e _ (by omega)]
      simpa [up] using ((h6 s hs).2 ho).2 q hq
  · intro j' hj'
    have e (w : Nat) (hw : w < 3) : wz (wsx (wsx (wsx z j 0 a) j 1 b) j 2 c) j' w = if j' = j then (if w = 0 then a else if w = 1 then b else c) else wz z j' w := by
      rw [wz_ws (by decide) hw, wz_ws (by decide) hw, wz_ws (by decide) hw]
      by_cases hjj : j' = j
      · have : w = 0 ∨ w = 1 ∨ w = 2 := by omega
        rcases this with rfl | rfl | rfl <;> simp [hjj]
      · simp [hjj]
    obtain ⟨g1, g2, g3⟩ := h7 j' hj'
    rw [e 0 (by decide), e 1 (by decide), e 2 (by decide)]
    by_cases hjj : j' = j
    · subst hjj; simp [up]
    · simp [up, hjj, g1, g2, g3]
end REL
/-- a state as another's -/
def cpS (mem : MEM) (k k2 : Nat) : MEM := fun id => if id.2.1 = k ∧ 1 ≤ id.1 ∧ id.1 ≤ 11 then mem (id.1, k2, id.2.2) else mem id
theorem RelS.copy {mem : MEM} {k k2 : Nat} {z : ZZ} (h : RelS mem k2 z) : RelS (cpS mem k k2) k z := by
  obtain ⟨h1, h2, h3, h4, h5, h6, h7⟩ := h
  have e : ∀ t i, 1 ≤ t → t ≤ 11 → cpS mem k k2 (t, k, i) = mem (t, k2, i) := fun t i ht1 ht2 => if_pos ⟨rfl, ht1, ht2⟩
  refine ⟨?_, ?_, ?_, ?_, ?_, ?_, ?_⟩
  · rw [e 2 0 (by decide) (by decide)]; exact h1
  · rw [e 1 0 (by decide) (by decide)]; exact h2
  · rw [e 1 0 (by decide) (by decide)]; exact h3
  · rw [e 1 0 (by decide) (by decide)]; exact h4
  · intro r hr w hw; rw [e 8 r (by decide) (by decide)]; exact h5 r hr w hw
  · intro s hs
    rw [e 9 s (by decide) (by decide), e 10 s (by decide) (by decide), e 11 s (by decide) (by decide)]
    exact h6 s hs
  · intro j hj
    rw [e 3 0 (by decide) (by decide), e 4 0 (by decide) (by decide), e 5 0 (by decide) (by decide)]
    exact h7 j hj
theorem FrS.copy {mem : MEM} {k k2 : Nat} : FrS k mem (cpS mem k k2) := fun id h => if_neg h
/-- what a call that may move state k leaves -/
def PoI (k : Nat) (mem : MEM) (z : ZZ) (x0 : Int32) : Int32 → MEM → Prop := fun x m => x = x0 ∧ RelS m k z ∧ FrS k mem m
def PoU (k : Nat) (mem : MEM) (z : ZZ) : MEM → Prop := fun m => RelS m k z ∧ FrS k mem m
end
section
/-! ===== the class's states, in the words of their rows ===== -/
theorem fm_ok : ∀ a, a < 12 → (nI a - nI a / nI 6 * nI 6 = nI (a % 6) ∧ 0 ≤ nI a ^^^ nI 6) := by decide +kernel
noncomputable def posg (z : ZZ) (n : Int32) : Int32 := cif (n = nI 9) (z 0) (cif (isR z n) (rz z (nt n) 1) (-1))
theorem posg_p {z : ZZ} {p : Nat} (h : isPn z p) : posg z (nI p) = posz z p := by
  unfold posg posz
  rcases h with rfl | ⟨h1, h2⟩
  · rw [cif_pos rfl]; rfl
  · rw [cif_neg (xI_ne (by omega) (by decide) (by omega)), cif_pos ⟨p, h1, rfl, h2⟩, nt_nI (by omega), if_neg (by omega)]
noncomputable def waitg (z : ZZ) (s : Nat) (key n : Int32) : Int32 := cif (n = nI 9) (nI 0) (cif (isR z n) (tkz (nt (rz z (nt n) 1)) (nedz z s key) (rz z (nt n) 3) (rz z (nt n) 2)) (-6))
theorem tck_rz {z : ZZ} {t : Int32} {w r : Nat} (hw : w < 5) : ∀ n, n ≤ r → rz (tck z t n) r w = rz z r w
  | 0, _ => rfl
  | n + 1, h => by
    unfold tck cif
    split
    · rw [rz_rs (by decide) hw, if_neg (by omega), tck_rz hw n (by omega)]
    · exact tck_rz hw n (by omega)
theorem tck_h {z : ZZ} {t : Int32} {j : Nat} (hj : j < 5) : ∀ n, tck z t n j = z j
  | 0 => rfl
  | n + 1 => by
    unfold tck cif
    split
    · rw [hz_rs hj, tck_h hj n]
    · exact tck_h hj n
theorem sndz_sz {z : ZZ} {pl : Int32} {w s : Nat} (hw : w < 33) : ∀ n, n ≤ s → sz (sndz z pl n) s w = sz z s w
  | 0, _ => rfl
  | n + 1, h => by
    unfold sndz cif
    split
    · rw [sz_ss (by decide) hw, if_neg (by omega), sndz_sz hw n (by omega)]
    · exact sndz_sz hw n (by omega)
theorem blk_of {t k i : Nat} (h1 : 1 ≤ t) (h2 : t ≤ 11) : blk k (t, k, i) := ⟨rfl, h1, h2⟩
theorem pt_step {m : MEM} {k i : Nat} {y : ZZ} {t : Int32} (h : RelS m k y) (hi : i < 5) (h3 : rz y i 3 = 0 ∨ rz y i 3 = 1) (hs : rz y i 3 = 1 → ¬ y 0 < rz y i 1) :
    RelS (cif (m (8, k, i) 3 = 0) (up m (8, k, i) 1 (minI (m (8, k, i) 1 + m (8, k, i) 2 * t) (m (2, k, 0) 0))) m) k (rs y i 1 (behz y i t)) := by
  rw [h.rep hi (by decide), h.rep hi (by decide), h.rep hi (by decide), h.cnt]
  rcases h3 with e | e
  · rw [cif_pos e]
    have e2 : behz y i t = minI (rz y i 1 + rz y i 2 * t) (y 0) := by
      unfold behz
      rw [cif_neg (by rw [e]; decide)]
    rw [e2]
    exact h.s_rep hi (by decide)
  · rw [cif_neg (by rw [e]; decide)]
    have e2 : behz y i t = rz y i 1 := by
      unfold behz
      rw [cif_pos e, Int32.add_zero]
      unfold minI
      rw [if_neg (hs e)]
    rw [e2, rs_same]
    exact h
theorem pt_fr {mem m : MEM} {k i : Nat} {x : Int32} {p : Prop} (h : FrS k mem m) : FrS k mem (cif p (up m (8, k, i) 1 x) m) := by
  unfold cif
  split
  · exact h.set (blk_of (by decide) (by decide))
  · exact h
def bgz (z : ZZ) (i : Nat) (pos rate : Int32) : ZZ := rs (rs (rs (rs (rs z i 0 (nI 1)) i 1 pos) i 2 rate) i 3 (nI 0)) i 4 (nI 0)
theorem bgz_ok {mem : MEM} {k i : Nat} {z : ZZ} {pos rate : Int32} (h : RelS mem k z) (hi : i < 5) : RelS (begR mem k i pos rate) k (bgz z i pos rate) :=
  ((((h.s_rep hi (by decide)).s_rep hi (by decide)).s_rep hi (by decide)).s_rep hi (by decide)).s_rep hi (by decide)
theorem FrS.one {k : Nat} {mem : MEM} {id : ID} {j : Nat} {v : Int32} (hb : blk k id) : FrS k mem (up mem id j v) := FrS.rfl'.set hb
theorem bgz_fr {mem : MEM} {k i : Nat} {pos rate : Int32} : FrS k mem (begR mem k i pos rate) := by
  have hb : blk k (8, k, i) := (blk_of (by decide) (by decide))
  exact ((((FrS.one hb).set hb).set hb).set hb).set hb
/-- the first n numbers of a session are 0 -/
def z33 (z : ZZ) (s n : Nat) : ZZ := fun j => if 30 + 33 * s ≤ j ∧ j < 30 + 33 * s + n then nI 0 else z j
def bsz (z : ZZ) (s : Nat) (h o b : Int32) : ZZ := ss (ss (ss (ss (z33 z s 33) s 0 (nI 1)) s 1 h) s 2 o) s 3 b
theorem sz_z33 {z : ZZ} {s s' w : Nat} (hw : w < 33) : sz (z33 z s 33) s' w = if s' = s then nI 0 else sz z s' w := by
  unfold sz z33
  by_cases e : s' = s
  · subst e; rw [if_pos (by omega), if_pos rfl]
  · rw [if_neg (by omega), if_neg e]
theorem bsz_ok {mem : MEM} {k s : Nat} {z : ZZ} {hm o b : Int32} (h : RelS mem k z) (hs : s < 8) : RelS (begS mem k s hm o b) k (bsz z s hm o b) := by
  obtain ⟨h1, h2, h3, h4, h5, h6, h7⟩ := h
  have z0 : ∀ j, j < 5 → bsz z s hm o b j = z j := fun j hj => by
    unfold bsz
    rw [hz_ss hj, hz_ss hj, hz_ss hj, hz_ss hj]
    unfold z33
    rw [if_neg (by omega)]
  have e1 : ∀ t i, t ≠ 9 → t ≠ 10 → t ≠ 11 → begS mem k s hm o b (t, k, i) = mem (t, k, i) := fun t i a1 a2 a3 => by
    funext j
    simp [begS, flA, up, a1, a2, a3]
  refine ⟨?_, ?_, ?_, ?_, ?_, ?_, ?_⟩
  · rw [z0 0 (by decide), e1 2 0 (by decide) (by decide) (by decide)]; exact h1
  · rw [z0 1 (by decide), e1 1 0 (by decide) (by decide) (by decide)]; exact h2
  · rw [z0 1 (by decide), z0 2 (by decide), z0 3 (by decide), e1 1 0 (by decide) (by decide) (by decide)]; exact h3
  · rw [z0 4 (by decide), e1 1 0 (by decide) (by decide) (by decide)]; exact h4
  · intro r hr w hw
    rw [e1 8 r (by decide) (by decide) (by decide), h5 r hr w hw]
    unfold bsz
    rw [rz_ss hr hw, rz_ss hr hw, rz_ss hr hw, rz_ss hr hw]
    unfold rz z33
    rw [if_neg (by omega)]
  · intro s' hs'
    have hsz : ∀ w, w < 33 → sz (bsz z s hm o b) s' w = if s' = s then (if w = 3 then b else if w = 2 then o else if w = 1 then hm else if w = 0 then nI 1 else nI 0) else sz z s' w := fun w hw => by
      unfold bsz
      rw [sz_ss (by decide) hw, sz_ss (by decide) hw, sz_ss (by decide) hw, sz_ss (by decide) hw, sz_z33 hw]
      by_cases e : s' = s
      · simp [e]
      · simp [e]
    by_cases e : s' = s
    · subst e
      rw [hsz 0 (by decide)]
      refine ⟨by simp [begS, flA, up], fun _ => ⟨fun w hw => ?_, fun q hq => ?_⟩⟩
      · rw [hsz w (by omega), if_pos rfl]
        match w, hw with
        | 0, _ => simp [begS, flA, up]
        | 1, _ => simp [begS, flA, up]
        | 2, _ => simp [begS, flA, up]
        | 3, _ => simp [begS, flA, up]
        | 4, _ => simp [begS, flA, up]
        | 5, _ => simp [begS, flA, up]
        | 6, _ => simp [begS, flA, up]
        | 7, _ => simp [begS, flA, up]
        | 8, _ => simp [begS, flA, up]
      · rw [hsz _ (by omega), hsz _ (by omega), if_pos rfl, if_pos rfl, if_neg (by omega), if_neg (by omega), if_neg (by omega), if_neg (by omega), if_neg (by omega), if_neg (by omega), if_neg (by omega), if_neg (by omega)]
        simp [begS, flA]
    · have e2 : ∀ t, begS mem k s hm o b (t, k, s') = mem (t, k, s') := fun t => by
        funext j
        simp [begS, flA, up, e]
      rw [hsz 0 (by decide), if_neg e, e2 9, e2 10, e2 11]
      refine ⟨(h6 s' hs').1, fun ho => ⟨fun w hw => ?_, fun q hq => ?_⟩⟩
      · rw [hsz w (by omega), if_neg e]; exact ((h6 s' hs').2 ho).1 w hw
      · rw [hsz _ (by omega), hsz _ (by omega), if_neg e, if_neg e]; exact ((h6 s' hs').2 ho).2 q hq
  · intro j hj
    have hwz : ∀ w, w < 3 → wz (bsz z s hm o b) j w = wz z j w := fun w hw => by
      unfold bsz
      rw [wz_ss hs (by decide), wz_ss hs (by decide), wz_ss hs (by decide), wz_ss hs (by decide)]
      unfold wz z33
      rw [if_neg (by omega)]
    rw [hwz 0 (by decide), hwz 1 (by decide), hwz 2 (by decide), e1 3 0 (by decide) (by decide) (by decide), e1 4 0 (by decide) (by decide) (by decide), e1 5 0 (by decide) (by decide) (by decide)]
    exact h7 j hj
theorem bsz_fr {mem : MEM} {k s : Nat} {hm o b : Int32} : FrS k mem (begS mem k s hm o b) := fun id h => by
  have h9 : id ≠ (9, k, s) := fun e => h (by rw [e]; exact (blk_of (by decide) (by decide)))
  have h10 : id ≠ (10, k, s) := fun e => h (by rw [e]; exact (blk_of (by decide) (by decide)))
  have h11 : id ≠ (11, k, s) := fun e => h (by rw [e]; exact (blk_of (by decide) (by decide)))
  funext j
  simp [begS, flA, up, h9, h10, h11]
theorem lastw_rel {mem : MEM} {k : Nat} {z : ZZ} (h : RelS mem k z) {p : Nat} (hp : p ≤ 200) {key : Int32} : lastw (mem (3, k, 0)) p key = lastw (keyf z) p key := lastw_congr key p fun j hj => h.key (by omega)
theorem cntw_rel {mem : MEM} {k : Nat} {z : ZZ} (h : RelS mem k z) {p c : Nat} (hc : c ≤ 200) {key : Int32} : cntw (mem (3, k, 0)) p key c = cntw (keyf z) p key c := cntw_congr p key c fun j hj => h.key (by omega)
theorem Inv.marks {z : ZZ} {c s : Nat} (h : Inv z c) (hs : s < 8) (ho : sz z s 0 = 1) : ∃ a b, a ≤ c ∧ b ≤ c ∧ sz z s 4 = nI a ∧ sz z s 5 = nI b := by
  obtain ⟨-, -, -, h4⟩ := h
  obtain ⟨-, h5⟩ := h4 s hs
  obtain ⟨-, -, ⟨a, ha, ea⟩, ⟨b, hb, eb⟩⟩ := h5 ho
  exact ⟨a, b, ha, hb, ea, eb⟩
theorem Inv.reps {z : ZZ} {c r : Nat} (h : Inv z c) (hr : r < 5) (ho : rz z r 0 = 1) : ∃ p q, p ≤ c ∧ q ≤ 9 ∧ rz z r 1 = nI p ∧ rz z r 2 = nI q ∧ (rz z r 3 = 0 ∨ rz z r 3 = 1) := by
  obtain ⟨-, -, h3, -⟩ := h
  obtain ⟨-, h5⟩ := h3 r hr
  obtain ⟨⟨p, hp, ep⟩, ⟨q, hq, eq⟩, h6⟩ := h5 ho
  exact ⟨p, q, hp, hq, ep, eq, h6⟩
theorem needz_le {z : ZZ} {c s : Nat} (h : Inv z c) (hs : s < 8) (ho : sz z s 0 = 1) : needz z s ≤ c := by
  obtain ⟨a, b, ha, hb, ea, eb⟩ := h.marks hs ho
  have hc := h.1
  unfold needz cif
  rw [ea, eb, nt_nI (by omega), nt_nI (by omega)]
  split <;> split <;> omega
theorem nedz_le {z : ZZ} {c s : Nat} {key : Int32} (h : Inv z c) (hs : s < 8) (ho : sz z s 0 = 1) : nedz z s key ≤ c := by
  have h1 := needz_le h hs ho
  unfold nedz cif
  split
  · exact Nat.le_trans (lastw_le _ _ _) h1
  · exact h1
theorem posz_nat {z : ZZ} {c p : Nat} (h : Inv z c) (hp : isPn z p) : ∃ n, n ≤ c ∧ posz z p = nI n := by
  unfold posz
  rcases hp with rfl | ⟨h1, h2⟩
  · exact ⟨c, Nat.le_refl c, h.2.1⟩
  · rw [if_neg (by omega)]
    obtain ⟨a, b, ha, hb, ea, -⟩ := h.reps h1 h2
    exact ⟨a, ha, ea⟩

set_option maxRecDepth 100000 in
set_option maxHeartbeats 4000000 in
theorem c_X4_findReplica {E : EV} {l : Launch} {mem : MEM} {k : Nat} (hk : k < 8) {z : ZZ} (hz : RelS mem k z) {n : Int32} : Ct E l yX4_findReplica (me_ws yX4_findReplica cX4_findReplica 3 (some (.object "ReplicaSessions$Replica"))) 2 [rv (1, k, 0), iv n] mem (OptQ (fun id => ∃ i, i < 5 ∧ n = nI i ∧ rz z i 0 = 1 ∧ id = (8, k, i)) (¬ isR z n) mem) := by
  refine Ct.of (RC := RX4) (ls0 := [rv (1, k, 0), iv n, uv]) mi_yX4_findReplica (Nat.le_of_ble_eq_true rfl) rfl (fun X C hX => ?_)
  refine e_iload_n C dX4_findReplica_0 rfl ?_
  refine e_iconst (v := nI 0) C dX4_findReplica_1 (by decide) ?_
  refine e_iconst (v := nI 4) C dX4_findReplica_2 (by decide) ?_
  refine f_callNr (As := [_, _, _]) (host := RX6) C mi_yX6_isWithin b_st_yX6_isWithin (by decide +kernel) dX4_findReplica_3 rfl c_X6_isWithin (by decide) (Nat.le_of_ble_eq_true rfl) ?_
  refine f_if_ne (tgt := 11) C dX4_findReplica_6 (by decide) (fun h_6 => ?_) (fun h_6 => ?_)
  · skip
    obtain ⟨i, hi, rfl⟩ := xI_le_of h_6.1 h_6.2 (by decide)
    refine e_aload_n C dX4_findReplica_11 rfl ?_
    refine e_getr C (ci := 4) 1 rfl rfl rfl (by decide) b_X4 rfl b_fl_X4_20 (v1 hk) rfl dX4_findReplica_12 ?_
    refine e_iload_n C dX4_findReplica_15 rfl ?_
    refine f_aaldR C hk (by omega) dX4_findReplica_16 ?_
    refine f_astore_n (ls1 := [_, _, _]) C dX4_findReplica_17 (by decide) rfl ?_
    refine e_aload_n C dX4_findReplica_18 rfl ?_
    refine e_ifnull C dX4_findReplica_19 ?_
    refine e_aload_n C dX4_findReplica_22 rfl ?_
    refine e_getz C (ci := 2) 0 rfl rfl rfl (by decide) b_X2 rfl b_fl_X4_49 (v8 hk (by omega)) rfl rfl dX4_findReplica_23 (fun hz_23 => ?_)
    refine e_if_eq (tgt := 33) C dX4_findReplica_26 (by decide) (fun h_26 => ?_) (fun h_26 => ?_)
    · skip
      refine e_null C dX4_findReplica_33 ?_
      exact f_an C hX dX4_findReplica_34 (fun q => by have := ((isR_nat (by omega)).mp q).2; rw [← hz.rep (by omega) (by decide), h_26] at this; exact absurd this (by decide)) rfl
    · skip
      refine e_aload_n C dX4_findReplica_29 rfl ?_
      refine e_goto (tgt := 34) C dX4_findReplica_30 (by decide) ?_
      exact f_ay C hX dX4_findReplica_34 ⟨i, by omega, rfl, by rw [← hz.rep (by omega) (by decide)]; exact hz_23.resolve_left h_26, rfl⟩ rfl
  · skip
    refine e_null C dX4_findReplica_9 ?_
    exact f_an C hX dX4_findReplica_10 (fun ⟨i, hi, e, _⟩ => h_6 (by rw [e]; exact ⟨nI_le (Nat.zero_le _) (by omega), nI_le (by omega) (by decide)⟩)) rfl
set_option maxRecDepth 100000 in
set_option maxHeartbeats 4000000 in
theorem c_X4_findSession {E : EV} {l : Launch} {mem : MEM} {k : Nat} (hk : k < 8) {z : ZZ} (hz : RelS mem k z) {n : Int32} : Ct E l yX4_findSession (me_ws yX4_findSession cX4_findSession 3 (some (.object "ReplicaSessions$Session"))) 2 [rv (1, k, 0), iv n] mem (OptQ (fun id => ∃ i, i < 8 ∧ n = nI i ∧ sz z i 0 = 1 ∧ id = (9, k, i)) (¬ isS z n) mem) := by
  refine Ct.of (RC := RX4) (ls0 := [rv (1, k, 0), iv n, uv]) mi_yX4_findSession (Nat.le_of_ble_eq_true rfl) rfl (fun X C hX => ?_)
  refine e_iload_n C dX4_findSession_0 rfl ?_
  refine e_iconst (v := nI 0) C dX4_findSession_1 (by decide) ?_
  refine e_bipush (v := nI 7) C dX4_findSession_2 (by decide) ?_
  refine f_callNr (As := [_, _, _]) (host := RX6) C mi_yX6_isWithin b_st_yX6_isWithin (by decide +kernel) dX4_findSession_4 rfl c_X6_isWithin (by decide) (Nat.le_of_ble_eq_true rfl) ?_
  refine f_if_ne (tgt := 12) C dX4_findSession_7 (by decide) (fun h_7 => ?_) (fun h_7 => ?_)
  · skip
    obtain ⟨i, hi, rfl⟩ := xI_le_of h_7.1 h_7.2 (by decide)
    refine e_aload_n C dX4_findSession_12 rfl ?_
    refine e_getr C (ci := 4) 2 rfl rfl rfl (by decide) b_X4 rfl b_fl_X4_26 (v1 hk) rfl dX4_findSession_13 ?_
    refine e_iload_n C dX4_findSession_16 rfl ?_
    refine f_aaldS C hk (by omega) dX4_findSession_17 ?_
    refine f_astore_n (ls1 := [_, _, _]) C dX4_findSession_18 (by decide) rfl ?_
    refine e_aload_n C dX4_findSession_19 rfl ?_
    refine e_ifnull C dX4_findSession_20 ?_
    refine e_aload_n C dX4_findSession_23 rfl ?_
    refine e_getz C (ci := 3) 0 rfl rfl rfl (by decide) b_X3 rfl b_fl_X4_53 (v9 hk (by omega)) rfl rfl dX4_findSession_24 (fun hz_24 => ?_)
    refine e_if_eq (tgt := 34) C dX4_findSession_27 (by decide) (fun h_27 => ?_) (fun h_27 => ?_)
    · skip
      refine e_null C dX4_findSession_34 ?_
      exact f_an C hX dX4_findSession_35 (fun q => by have := ((isS_nat (by omega)).mp q).2; rw [← hz.se0 (by omega), h_27] at this; exact absurd this (by decide)) rfl
    · skip
      refine e_aload_n C dX4_findSession_30 rfl ?_
      refine e_goto (tgt := 35) C dX4_findSession_31 (by decide) ?_
      exact f_ay C hX dX4_findSession_35 ⟨i, by omega, rfl, by rw [← hz.se0 (by omega)]; exact hz_24.resolve_left h_27, rfl⟩ rfl
  · skip
    refine e_null C dX4_findSession_10 ?_
    exact f_an C hX dX4_findSession_11 (fun ⟨i, hi, e, _⟩ => h_7 (by rw [e]; exact ⟨nI_le (Nat.zero_le _) (by omega), nI_le (by omega) (by decide)⟩)) rfl
set_option maxRecDepth 100000 in
set_option maxHeartbeats 4000000 in
theorem c_X4_hasPlace {E : EV} {l : Launch} {mem : MEM} {k : Nat} (hk : k < 8) {z : ZZ} (hz : RelS mem k z) {n : Int32} : Ct E l yX4_hasPlace (me_ws yX4_hasPlace cX4_hasPlace 2 (some .boolean)) 3 [rv (1, k, 0), iv n] mem (Ret (iv (b2i (isP z n))) mem) := by
  refine Ct.of (RC := RX4) (ls0 := [rv (1, k, 0), iv n]) mi_yX4_hasPlace (Nat.le_of_ble_eq_true rfl) rfl (fun X C hX => ?_)
  refine e_iload_n C dX4_hasPlace_0 rfl ?_
  refine e_bipush (v := nI 9) C dX4_hasPlace_1 (by decide) ?_
  refine e_icmp_eq (tgt := 14) C dX4_hasPlace_3 (by decide) (fun h_3 => ?_) (fun h_3 => ?_)
  · skip
    refine e_iconst (v := nI 1) C dX4_hasPlace_14 (by decide) ?_
    refine e_goto (tgt := 19) C dX4_hasPlace_15 (by decide) ?_
    exact f_zt C hX dX4_hasPlace_19 (Or.inl h_3) rfl
  · skip
    refine e_aload_n C dX4_hasPlace_6 rfl ?_
    refine e_iload_n C dX4_hasPlace_7 rfl ?_
    refine f_callVo (As := [_]) (ci := 4) C mi_yX4_findReplica mv_yX4_findReplica b_ml_X4_63 dX4_hasPlace_8 rfl (c_X4_findReplica hk (by assumption)) (by decide) (v1 hk) rfl rfl (Nat.le_of_ble_eq_true rfl) (fun ri_8 hc_8 => ?_) (fun hc_8 => ?_)
    · skip
      obtain ⟨i_8, hi_8, rfl, ho_8, rfl⟩ := hc_8
      refine e_ifnull C dX4_hasPlace_11 ?_
      refine e_iconst (v := nI 1) C dX4_hasPlace_14 (by decide) ?_
      refine e_goto (tgt := 19) C dX4_hasPlace_15 (by decide) ?_
      exact f_zt C hX dX4_hasPlace_19 (Or.inr ⟨i_8, hi_8, rfl, ho_8⟩) rfl
    · skip
      refine e_ifnullN (tgt := 18) C dX4_hasPlace_11 (by decide) ?_
      refine e_iconst (v := nI 0) C dX4_hasPlace_18 (by decide) ?_
      exact f_zf C hX dX4_hasPlace_19 (fun q => q.elim h_3 hc_8) rfl
set_option maxRecDepth 100000 in
set_option maxHeartbeats 4000000 in
theorem c_X4_positionOf {E : EV} {l : Launch} {mem : MEM} {k : Nat} (hk : k < 8) {z : ZZ} (hz : RelS mem k z) {n : Int32} : Ct E l yX4_positionOf (me_ws yX4_positionOf cX4_positionOf 3 (some .int)) 3 [rv (1, k, 0), iv n] mem (Ret (iv (posg z n)) mem) := by
  refine Ct.of (RC := RX4) (ls0 := [rv (1, k, 0), iv n, uv]) mi_yX4_positionOf (Nat.le_of_ble_eq_true rfl) rfl (fun X C hX => ?_)
  refine e_iload_n C dX4_positionOf_0 rfl ?_
  refine e_bipush (v := nI 9) C dX4_positionOf_1 (by decide) ?_
  refine e_icmp_ne (tgt := 14) C dX4_positionOf_3 (by decide) (fun h_3 => ?_) (fun h_3 => ?_)
  · skip
    refine e_aload_n C dX4_positionOf_14 rfl ?_
    refine e_iload_n C dX4_positionOf_15 rfl ?_
    refine f_callVo (As := [_]) (ci := 4) C mi_yX4_findReplica mv_yX4_findReplica b_ml_X4_63 dX4_positionOf_16 rfl (c_X4_findReplica hk (by assumption)) (by decide) (v1 hk) rfl rfl (Nat.le_of_ble_eq_true rfl) (fun ri_16 hc_16 => ?_) (fun hc_16 => ?_)
    · skip
      obtain ⟨i_16, hi_16, rfl, ho_16, rfl⟩ := hc_16
      refine f_astore_n (ls1 := [_, _, _]) C dX4_positionOf_19 (by decide) rfl ?_
      refine e_aload_n C dX4_positionOf_20 rfl ?_
      refine e_ifnonnull (tgt := 28) C dX4_positionOf_21 (by decide) ?_
      refine e_aload_n C dX4_positionOf_28 rfl ?_
      refine e_geti C (ci := 2) 1 rfl rfl rfl (by decide) b_X2 rfl b_fl_X4_77 (v8 hk hi_16) rfl dX4_positionOf_29 ?_
      exact f_ir C hX dX4_positionOf_32 (by rw [posg, cif_neg h_3, cif_pos ⟨_, hi_16, rfl, ho_16⟩, nt_nI (by omega)]; exact hz.rep hi_16 (by decide)) rfl
    · skip
      refine f_astore_nN (ls1 := [_, _, _]) C dX4_positionOf_19 (by decide) rfl ?_
      refine e_aload_nN C dX4_positionOf_20 rfl ?_
      refine e_ifnonnullN C dX4_positionOf_21 ?_
      refine e_iconst (v := -1) C dX4_positionOf_24 (by decide) ?_
      refine e_goto (tgt := 32) C dX4_positionOf_25 (by decide) ?_
      exact f_ir C hX dX4_positionOf_32 (by rw [posg, cif_neg h_3, cif_neg hc_16]) rfl
  · skip
    refine e_aload_n C dX4_positionOf_6 rfl ?_
    refine e_getr C (ci := 4) 0 rfl rfl rfl (by decide) b_X4 rfl b_fl_X4_12 (v1 hk) rfl dX4_positionOf_7 ?_
    refine e_geti C (ci := 1) 0 rfl rfl rfl (by decide) b_X1 rfl b_fl_X4_74 (v2 hk) rfl dX4_positionOf_10 ?_
    exact f_ir C hX dX4_positionOf_13 (by rw [posg, cif_pos h_3]; exact hz.cnt) rfl
set_option maxRecDepth 100000 in
set_option maxHeartbeats 4000000 in
theorem lp_X4_passTicks {E : EV} {l : Launch} {X : CX} {mem : MEM} {k : Nat} (hk : k < 8) {z : ZZ} (hz : RelS mem k z) {c : Nat} (hI : Inv z c) {t : Int32} (C : CK E X RX4 cX4_passTicks 4 none 3) (hX : EX E X l (fun r m => r = uv ∧ PoU k mem (tck z t 5) m)) : ∀ (lpn : Nat) (i : Nat) (mm : MEM) (x3 : VV), 5 - i < lpn → i ≤ 5 → RelS mm k (tck z t i) → FrS k mem mm → G E X 4 2 [rv (1, k, 0), iv t, iv (nI i), x3] [] mm := by
  intro lpn
  induction lpn with
  | zero => intro i mm x3 hlpn; exact absurd hlpn (Nat.not_lt_zero _)
  | succ lpn ih =>
    intro i mm x3 hlpn hi hr hf
    refine e_iload_n C dX4_passTicks_2 rfl ?_
    refine e_iconst (v := nI 5) C dX4_passTicks_3 (by decide) ?_
    refine e_icmp_ge (tgt := 35) C dX4_passTicks_4 (by decide) (fun h_4 => ?_) (fun h_4 => ?_)
    · skip
      have nh_4 := xI_leD (by omega) (by omega) h_4
      obtain rfl : i = 5 := by omega
      exact f_vu C hX dX4_passTicks_35 ⟨hr, hf⟩
    · skip
      have nh_4 := xI_nleD (by omega) (by omega) h_4
      refine e_aload_n C dX4_passTicks_7 rfl ?_
      refine e_iload_n C dX4_passTicks_8 rfl ?_
      refine f_callVo (As := [_]) (ci := 4) C mi_yX4_findReplica mv_yX4_findReplica b_ml_X4_63 dX4_passTicks_9 rfl (c_X4_findReplica hk (by assumption)) (by decide) (v1 hk) rfl rfl (Nat.le_of_ble_eq_true rfl) (fun ri_9 hc_9 => ?_) (fun hc_9 => ?_)
      · skip
        obtain ⟨i_9, hi_9, e_9, ho_9, rfl⟩ := hc_9
        obtain rfl := xI_inj (by omega) (by omega) e_9
        refine f_astore_n (ls1 := [_, _, _, _]) C dX4_passTicks_12 (by decide) rfl ?_
        refine e_aload_n C dX4_passTicks_13 rfl ?_
        refine e_ifnull C dX4_passTicks_14 ?_
        refine e_aload_n C dX4_passTicks_17 rfl ?_
        refine e_iload_n C dX4_passTicks_18 rfl ?_
        refine e_aload_n C dX4_passTicks_19 rfl ?_
        refine e_getr C (ci := 4) 0 rfl rfl rfl (by decide) b_X4 rfl b_fl_X4_12 (v1 hk) rfl dX4_passTicks_20 ?_
        refine e_geti C (ci := 1) 0 rfl rfl rfl (by decide) b_X1 rfl b_fl_X4_74 (v2 hk) rfl dX4_passTicks_23 ?_
        refine f_callVv (As := [_, _]) (ci := 2) C mi_yX2_passTicks mv_yX2_passTicks b_ml_X4_80 dX4_passTicks_26 rfl (c_X2_passTicks hk (by omega)) (by decide) (v8 hk (by omega)) rfl rfl (Nat.le_of_ble_eq_true rfl) ?_
        refine f_iincn (ls1 := [_, _, _, _]) C dX4_passTicks_29 rfl (by decide) rfl ?_
        refine e_goto (tgt := 2) C dX4_passTicks_32 (by decide) ?_
        exact ih (i + 1) _ _ (by omega) (by omega) (by rw [tck, cif_pos ho_9]; exact pt_step hr (by omega) (by rw [tck_rz (by decide) i (Nat.le_refl i)]; obtain ⟨_, _, _, _, _, _, h6⟩ := hI.reps (by omega) (by rw [tck_rz (by decide) i (Nat.le_refl i)] at ho_9; exact ho_9); exact h6) (fun _ => by rw [tck_h (by decide), tck_rz (by decide) i (Nat.le_refl i), hI.2.1]; obtain ⟨p, _, hp, _, ep, _⟩ := hI.reps (by omega) (by rw [tck_rz (by decide) i (Nat.le_refl i)] at ho_9; exact ho_9); rw [ep]; exact nI_nlt hp (by have := hI.1; omega))) (pt_fr hf)
      · skip
        have hno_9 := fun q => hc_9 ((isR_nat (by omega)).mpr ⟨by omega, q⟩)
        refine f_astore_nN (ls1 := [_, _, _, _]) C dX4_passTicks_12 (by decide) rfl ?_
        refine e_aload_nN C dX4_passTicks_13 rfl ?_
        refine e_ifnullN (tgt := 29) C dX4_passTicks_14 (by decide) ?_
        refine f_iincn (ls1 := [_, _, _, _]) C dX4_passTicks_29 rfl (by decide) rfl ?_
        refine e_goto (tgt := 2) C dX4_passTicks_32 (by decide) ?_
        exact ih (i + 1) mm _ (by omega) (by omega) (by rw [tck, cif_neg hno_9]; exact hr) hf
set_option maxRecDepth 100000 in
set_option maxHeartbeats 4000000 in
theorem c_X4_passTicks {E : EV} {l : Launch} {mem : MEM} {k : Nat} (hk : k < 8) {z : ZZ} (hz : RelS mem k z) {c : Nat} (hI : Inv z c) {t : Int32} : Ct E l yX4_passTicks (me_ws yX4_passTicks cX4_passTicks 4 none) 3 [rv (1, k, 0), iv t] mem (fun r m => r = uv ∧ PoU k mem (tck z t 5) m) := by
  refine Ct.of (RC := RX4) (ls0 := [rv (1, k, 0), iv t, uv, uv]) mi_yX4_passTicks (Nat.le_of_ble_eq_true rfl) rfl (fun X C hX => ?_)
  refine e_iconst (v := nI 0) C dX4_passTicks_0 (by decide) ?_
  refine f_istore_n (ls1 := [_, _, _, _]) C dX4_passTicks_1 (by decide) rfl ?_
  exact lp_X4_passTicks hk hz hI C hX 6 0 mem _ (by decide) (by decide) hz FrS.rfl'
set_option maxRecDepth 100000 in
set_option maxHeartbeats 4000000 in
theorem lp_X4_countCaughtUp {E : EV} {l : Launch} {X : CX} {mem : MEM} {k : Nat} (hk : k < 8) {z : ZZ} (hz : RelS mem k z) (C : CK E X RX4 cX4_countCaughtUp 4 (some .int) 3) (hX : EX E X l (Ret (iv (nI (cau z 5))) mem)) : ∀ (lpn : Nat) (i w : Nat) (x3 : VV), 5 - i < lpn → i ≤ 5 → w = cau z i → G E X 4 4 [rv (1, k, 0), iv (nI w), iv (nI i), x3] [] mem := by
  intro lpn
  induction lpn with
  | zero => intro i w x3 hlpn; exact absurd hlpn (Nat.not_lt_zero _)
  | succ lpn ih =>
    intro i w x3 hlpn hi hw
    refine e_iload_n C dX4_countCaughtUp_4 rfl ?_
    refine e_iconst (v := nI 5) C dX4_countCaughtUp_5 (by decide) ?_
    refine e_icmp_ge (tgt := 42) C dX4_countCaughtUp_6 (by decide) (fun h_6 => ?_) (fun h_6 => ?_)
    · skip
      have nh_6 := xI_leD (by omega) (by omega) h_6
      refine e_iload_n C dX4_countCaughtUp_42 rfl ?_
      obtain rfl : i = 5 := by omega
      exact f_ir C hX dX4_countCaughtUp_43 (by rw [hw]) rfl
    · skip
      have nh_6 := xI_nleD (by omega) (by omega) h_6
      refine e_aload_n C dX4_countCaughtUp_9 rfl ?_
      refine e_iload_n C dX4_countCaughtUp_10 rfl ?_
      refine f_callVo (As := [_]) (ci := 4) C mi_yX4_findReplica mv_yX4_findReplica b_ml_X4_63 dX4_countCaughtUp_11 rfl (c_X4_findReplica hk (by assumption)) (by decide) (v1 hk) rfl rfl (Nat.le_of_ble_eq_true rfl) (fun ri_11 hc_11 => ?_) (fun hc_11 => ?_)
      · skip
        obtain ⟨i_11, hi_11, e_11, ho_11, rfl⟩ := hc_11
        obtain rfl := xI_inj (by omega) (by omega) e_11
        refine f_astore_n (ls1 := [_, _, _, _]) C dX4_countCaughtUp_14 (by decide) rfl ?_
        refine e_aload_n C dX4_countCaughtUp_15 rfl ?_
        refine e_ifnull C dX4_countCaughtUp_16 ?_
        refine e_aload_n C dX4_countCaughtUp_19 rfl ?_
        refine e_geti C (ci := 2) 1 rfl rfl rfl (by decide) b_X2 rfl b_fl_X4_77 (v8 hk (by omega)) rfl dX4_countCaughtUp_20 ?_
        refine e_aload_n C dX4_countCaughtUp_23 rfl ?_
        refine e_getr C (ci := 4) 0 rfl rfl rfl (by decide) b_X4 rfl b_fl_X4_12 (v1 hk) rfl dX4_countCaughtUp_24 ?_
        refine e_geti C (ci := 1) 0 rfl rfl rfl (by decide) b_X1 rfl b_fl_X4_74 (v2 hk) rfl dX4_countCaughtUp_27 ?_
        refine e_icmp_ne (tgt := 36) C dX4_countCaughtUp_30 (by decide) (fun h_30 => ?_) (fun h_30 => ?_)
        · skip
          refine f_iincn (ls1 := [_, _, _, _]) C dX4_countCaughtUp_36 rfl (by decide) rfl ?_
          refine e_goto (tgt := 4) C dX4_countCaughtUp_39 (by decide) ?_
          exact ih (i + 1) w _ (by omega) (by omega) (by rw [hz.rep (by omega) (by decide), hz.cnt] at h_30; rw [cau, cif_neg (fun q => h_30 q.2)]; omega)
        · skip
          refine f_iincn (ls1 := [_, _, _, _]) C dX4_countCaughtUp_33 rfl (by decide) rfl ?_
          refine f_iincn (ls1 := [_, _, _, _]) C dX4_countCaughtUp_36 rfl (by decide) rfl ?_
          refine e_goto (tgt := 4) C dX4_countCaughtUp_39 (by decide) ?_
          exact ih (i + 1) (w + 1) _ (by omega) (by omega) (by rw [hz.rep (by omega) (by decide), hz.cnt] at h_30; rw [cau, cif_pos ⟨ho_11, h_30⟩]; omega)
      · skip
        have hno_11 := fun q => hc_11 ((isR_nat (by omega)).mpr ⟨by omega, q⟩)
        refine f_astore_nN (ls1 := [_, _, _, _]) C dX4_countCaughtUp_14 (by decide) rfl ?_
        refine e_aload_nN C dX4_countCaughtUp_15 rfl ?_
        refine e_ifnullN (tgt := 36) C dX4_countCaughtUp_16 (by decide) ?_
        refine f_iincn (ls1 := [_, _, _, _]) C dX4_countCaughtUp_36 rfl (by decide) rfl ?_
        refine e_goto (tgt := 4) C dX4_countCaughtUp_39 (by decide) ?_
        exact ih (i + 1) w _ (by omega) (by omega) (by rw [cau, cif_neg (fun q => hno_11 q.1)]; omega)
set_option maxRecDepth 100000 in
set_option maxHeartbeats 4000000 in
theorem c_X4_countCaughtUp {E : EV} {l : Launch} {mem : MEM} {k : Nat} (hk : k < 8) {z : ZZ} (hz : RelS mem k z) : Ct E l yX4_countCaughtUp (me_ws yX4_countCaughtUp cX4_countCaughtUp 4 (some .int)) 3 [rv (1, k, 0)] mem (Ret (iv (nI (cau z 5))) mem) := by
  refine Ct.of (RC := RX4) (ls0 := [rv (1, k, 0), uv, uv, uv]) mi_yX4_countCaughtUp (Nat.le_of_ble_eq_true rfl) rfl (fun X C hX => ?_)
  refine e_iconst (v := nI 0) C dX4_countCaughtUp_0 (by decide) ?_
  refine f_istore_n (ls1 := [_, _, _, _]) C dX4_countCaughtUp_1 (by decide) rfl ?_
  refine e_iconst (v := nI 0) C dX4_countCaughtUp_2 (by decide) ?_
  refine f_istore_n (ls1 := [_, _, _, _]) C dX4_countCaughtUp_3 (by decide) rfl ?_
  exact lp_X4_countCaughtUp hk hz C hX 6 0 0 _ (by decide) (by decide) rfl
set_option maxRecDepth 100000 in
set_option maxHeartbeats 4000000 in
theorem lp_X4_replicaMask {E : EV} {l : Launch} {X : CX} {mem : MEM} {k : Nat} (hk : k < 8) {z : ZZ} (hz : RelS mem k z) (C : CK E X RX4 cX4_replicaMask 3 (some .int) 3) (hX : EX E X l (Ret (iv (msk (fun r => rz z r 0) 5)) mem)) : ∀ (lpn : Nat) (i : Nat) (w : Int32), 5 - i < lpn → i ≤ 5 → w = msk (fun r => rz z r 0) i → G E X 3 4 [rv (1, k, 0), iv w, iv (nI i)] [] mem := by
  intro lpn
  induction lpn with
  | zero => intro i w hlpn; exact absurd hlpn (Nat.not_lt_zero _)
  | succ lpn ih =>
    intro i w hlpn hi hw
    refine e_iload_n C dX4_replicaMask_4 rfl ?_
    refine e_iconst (v := nI 5) C dX4_replicaMask_5 (by decide) ?_
    refine e_icmp_ge (tgt := 29) C dX4_replicaMask_6 (by decide) (fun h_6 => ?_) (fun h_6 => ?_)
    · skip
      have nh_6 := xI_leD (by omega) (by omega) h_6
      refine e_iload_n C dX4_replicaMask_29 rfl ?_
      obtain rfl : i = 5 := by omega
      exact f_ir C hX dX4_replicaMask_30 hw rfl
    · skip
      have nh_6 := xI_nleD (by omega) (by omega) h_6
      refine e_aload_n C dX4_replicaMask_9 rfl ?_
      refine e_iload_n C dX4_replicaMask_10 rfl ?_
      refine f_callVo (As := [_]) (ci := 4) C mi_yX4_findReplica mv_yX4_findReplica b_ml_X4_63 dX4_replicaMask_11 rfl (c_X4_findReplica hk (by assumption)) (by decide) (v1 hk) rfl rfl (Nat.le_of_ble_eq_true rfl) (fun ri_11 hc_11 => ?_) (fun hc_11 => ?_)
      · skip
        obtain ⟨i_11, hi_11, e_11, ho_11, rfl⟩ := hc_11
        obtain rfl := xI_inj (by omega) (by omega) e_11
        refine e_ifnull C dX4_replicaMask_14 ?_
        refine e_iload_n C dX4_replicaMask_17 rfl ?_
        refine e_iconst (v := nI 1) C dX4_replicaMask_18 (by decide) ?_
        refine e_iload_n C dX4_replicaMask_19 rfl ?_
        refine e_ishl C dX4_replicaMask_20 ?_
        refine e_ior C dX4_replicaMask_21 ?_
        refine f_istore_n (ls1 := [_, _, _]) C dX4_replicaMask_22 (by decide) rfl ?_
        refine f_iincn (ls1 := [_, _, _]) C dX4_replicaMask_23 rfl (by decide) rfl ?_
        refine e_goto (tgt := 4) C dX4_replicaMask_26 (by decide) ?_
        exact ih (i + 1) _ (by omega) (by omega) (by rw [msk, cif_pos ho_11, ← hw])
      · skip
        have hno_11 := fun q => hc_11 ((isR_nat (by omega)).mpr ⟨by omega, q⟩)
        refine e_ifnullN (tgt := 23) C dX4_replicaMask_14 (by decide) ?_
        refine f_iincn (ls1 := [_, _, _]) C dX4_replicaMask_23 rfl (by decide) rfl ?_
        refine e_goto (tgt := 4) C dX4_replicaMask_26 (by decide) ?_
        exact ih (i + 1) w (by omega) (by omega) (by rw [msk, cif_neg hno_11]; exact hw)
set_option maxRecDepth 100000 in
set_option maxHeartbeats 4000000 in
theorem c_X4_replicaMask {E : EV} {l : Launch} {mem : MEM} {k : Nat} (hk : k < 8) {z : ZZ} (hz : RelS mem k z) : Ct E l yX4_replicaMask (me_ws yX4_replicaMask cX4_replicaMask 3 (some .int)) 3 [rv (1, k, 0)] mem (Ret (iv (msk (fun r => rz z r 0) 5)) mem) := by
  refine Ct.of (RC := RX4) (ls0 := [rv (1, k, 0), uv, uv]) mi_yX4_replicaMask (Nat.le_of_ble_eq_true rfl) rfl (fun X C hX => ?_)
  refine e_iconst (v := nI 0) C dX4_replicaMask_0 (by decide) ?_
  refine f_istore_n (ls1 := [_, _, _]) C dX4_replicaMask_1 (by decide) rfl ?_
  refine e_iconst (v := nI 0) C dX4_replicaMask_2 (by decide) ?_
  refine f_istore_n (ls1 := [_, _, _]) C dX4_replicaMask_3 (by decide) rfl ?_
  exact lp_X4_replicaMask hk hz C hX 6 0 _ (by decide) (by decide) rfl
set_option maxRecDepth 100000 in
set_option maxHeartbeats 4000000 in
theorem lp_X4_sessionMask {E : EV} {l : Launch} {X : CX} {mem : MEM} {k : Nat} (hk : k < 8) {z : ZZ} (hz : RelS mem k z) (C : CK E X RX4 cX4_sessionMask 3 (some .int) 3) (hX : EX E X l (Ret (iv (msk (fun r => sz z r 0) 8)) mem)) : ∀ (lpn : Nat) (i : Nat) (w : Int32), 8 - i < lpn → i ≤ 8 → w = msk (fun r => sz z r 0) i → G E X 3 4 [rv (1, k, 0), iv w, iv (nI i)] [] mem := by
  intro lpn
  induction lpn with
  | zero => intro i w hlpn; exact absurd hlpn (Nat.not_lt_zero _)
  | succ lpn ih =>
    intro i w hlpn hi hw
    refine e_iload_n C dX4_sessionMask_4 rfl ?_
    refine e_bipush (v := nI 8) C dX4_sessionMask_5 (by decide) ?_
    refine e_icmp_ge (tgt := 30) C dX4_sessionMask_7 (by decide) (fun h_7 => ?_) (fun h_7 => ?_)
    · skip
      have nh_7 := xI_leD (by omega) (by omega) h_7
      refine e_iload_n C dX4_sessionMask_30 rfl ?_
      obtain rfl : i = 8 := by omega
      exact f_ir C hX dX4_sessionMask_31 hw rfl
    · skip
      have nh_7 := xI_nleD (by omega) (by omega) h_7
      refine e_aload_n C dX4_sessionMask_10 rfl ?_
      refine e_iload_n C dX4_sessionMask_11 rfl ?_
      refine f_callVo (As := [_]) (ci := 4) C mi_yX4_findSession mv_yX4_findSession b_ml_X4_67 dX4_sessionMask_12 rfl (c_X4_findSession hk (by assumption)) (by decide) (v1 hk) rfl rfl (Nat.le_of_ble_eq_true rfl) (fun ri_12 hc_12 => ?_) (fun hc_12 => ?_)
      · skip
        obtain ⟨i_12, hi_12, e_12, ho_12, rfl⟩ := hc_12
        obtain rfl := xI_inj (by omega) (by omega) e_12
        refine e_ifnull C dX4_sessionMask_15 ?_
        refine e_iload_n C dX4_sessionMask_18 rfl ?_
        refine e_iconst (v := nI 1) C dX4_sessionMask_19 (by decide) ?_
        refine e_iload_n C dX4_sessionMask_20 rfl ?_
        refine e_ishl C dX4_sessionMask_21 ?_
        refine e_ior C dX4_sessionMask_22 ?_
        refine f_istore_n (ls1 := [_, _, _]) C dX4_sessionMask_23 (by decide) rfl ?_
        refine f_iincn (ls1 := [_, _, _]) C dX4_sessionMask_24 rfl (by decide) rfl ?_
        refine e_goto (tgt := 4) C dX4_sessionMask_27 (by decide) ?_
        exact ih (i + 1) _ (by omega) (by omega) (by rw [msk, cif_pos ho_12, ← hw])
      · skip
        have hno_12 := fun q => hc_12 ((isS_nat (by omega)).mpr ⟨by omega, q⟩)
        refine e_ifnullN (tgt := 24) C dX4_sessionMask_15 (by decide) ?_
        refine f_iincn (ls1 := [_, _, _]) C dX4_sessionMask_24 rfl (by decide) rfl ?_
        refine e_goto (tgt := 4) C dX4_sessionMask_27 (by decide) ?_
        exact ih (i + 1) w (by omega) (by omega) (by rw [msk, cif_neg hno_12]; exact hw)
set_option maxRecDepth 100000 in
set_option maxHeartbeats 4000000 in
theorem c_X4_sessionMask {E : EV} {l : Launch} {mem : MEM} {k : Nat} (hk : k < 8) {z : ZZ} (hz : RelS mem k z) : Ct E l yX4_sessionMask (me_ws yX4_sessionMask cX4_sessionMask 3 (some .int)) 3 [rv (1, k, 0)] mem (Ret (iv (msk (fun r => sz z r 0) 8)) mem) := by
  refine Ct.of (RC := RX4) (ls0 := [rv (1, k, 0), uv, uv]) mi_yX4_sessionMask (Nat.le_of_ble_eq_true rfl) rfl (fun X C hX => ?_)
  refine e_iconst (v := nI 0) C dX4_sessionMask_0 (by decide) ?_
  refine f_istore_n (ls1 := [_, _, _]) C dX4_sessionMask_1 (by decide) rfl ?_
  refine e_iconst (v := nI 0) C dX4_sessionMask_2 (by decide) ?_
  refine f_istore_n (ls1 := [_, _, _]) C dX4_sessionMask_3 (by decide) rfl ?_
  exact lp_X4_sessionMask hk hz C hX 9 0 _ (by decide) (by decide) rfl
set_option maxRecDepth 100000 in
set_option maxHeartbeats 4000000 in
theorem lp_X4_countSessionsAt {E : EV} {l : Launch} {X : CX} {mem : MEM} {k : Nat} (hk : k < 8) {z : ZZ} (hz : RelS mem k z) {pl : Int32} (C : CK E X RX4 cX4_countSessionsAt 5 (some .int) 3) (hX : EX E X l (Ret (iv (nI (homz z pl 8))) mem)) : ∀ (lpn : Nat) (i w : Nat) (x4 : VV), 8 - i < lpn → i ≤ 8 → w = homz z pl i → G E X 5 4 [rv (1, k, 0), iv pl, iv (nI w), iv (nI i), x4] [] mem := by
  intro lpn
  induction lpn with
  | zero => intro i w x4 hlpn; exact absurd hlpn (Nat.not_lt_zero _)
  | succ lpn ih =>
    intro i w x4 hlpn hi hw
    refine e_iload_n C dX4_countSessionsAt_4 rfl ?_
    refine e_bipush (v := nI 8) C dX4_countSessionsAt_5 (by decide) ?_
    refine e_icmp_ge (tgt := 40) C dX4_countSessionsAt_7 (by decide) (fun h_7 => ?_) (fun h_7 => ?_)
    · skip
      have nh_7 := xI_leD (by omega) (by omega) h_7
      refine e_iload_n C dX4_countSessionsAt_40 rfl ?_
      obtain rfl : i = 8 := by omega
      exact f_ir C hX dX4_countSessionsAt_41 (by rw [hw]) rfl
    · skip
      have nh_7 := xI_nleD (by omega) (by omega) h_7
      refine e_aload_n C dX4_countSessionsAt_10 rfl ?_
      refine e_iload_n C dX4_countSessionsAt_11 rfl ?_
      refine f_callVo (As := [_]) (ci := 4) C mi_yX4_findSession mv_yX4_findSession b_ml_X4_67 dX4_countSessionsAt_12 rfl (c_X4_findSession hk (by assumption)) (by decide) (v1 hk) rfl rfl (Nat.le_of_ble_eq_true rfl) (fun ri_12 hc_12 => ?_) (fun hc_12 => ?_)
      · skip
        obtain ⟨i_12, hi_12, e_12, ho_12, rfl⟩ := hc_12
        obtain rfl := xI_inj (by omega) (by omega) e_12
        refine f_astore (ls1 := [_, _, _, _, _]) C dX4_countSessionsAt_15 (by decide) rfl ?_
        refine e_aload C dX4_countSessionsAt_17 rfl ?_
        refine e_ifnull C dX4_countSessionsAt_19 ?_
        refine e_aload C dX4_countSessionsAt_22 rfl ?_
        refine e_geti C (ci := 3) 1 rfl rfl rfl (by decide) b_X3 rfl b_fl_X4_71 (v9 hk (by omega)) rfl dX4_countSessionsAt_24 ?_
        refine e_iload_n C dX4_countSessionsAt_27 rfl ?_
        refine e_icmp_ne (tgt := 34) C dX4_countSessionsAt_28 (by decide) (fun h_28 => ?_) (fun h_28 => ?_)
        · skip
          refine f_iincn (ls1 := [_, _, _, _, _]) C dX4_countSessionsAt_34 rfl (by decide) rfl ?_
          refine e_goto (tgt := 4) C dX4_countSessionsAt_37 (by decide) ?_
          exact ih (i + 1) w _ (by omega) (by omega) (by rw [hz.ses (by omega) ho_12 (by decide)] at h_28; rw [homz, cif_neg (fun q => h_28 q.2)]; omega)
        · skip
          refine f_iincn (ls1 := [_, _, _, _, _]) C dX4_countSessionsAt_31 rfl (by decide) rfl ?_
          refine f_iincn (ls1 := [_, _, _, _, _]) C dX4_countSessionsAt_34 rfl (by decide) rfl ?_
          refine e_goto (tgt := 4) C dX4_countSessionsAt_37 (by decide) ?_
          exact ih (i + 1) (w + 1) _ (by omega) (by omega) (by rw [hz.ses (by omega) ho_12 (by decide)] at h_28; rw [homz, cif_pos ⟨ho_12, h_28⟩]; omega)
      · skip
        have hno_12 := fun q => hc_12 ((isS_nat (by omega)).mpr ⟨by omega, q⟩)
        refine f_astoreN (ls1 := [_, _, _, _, _]) C dX4_countSessionsAt_15 (by decide) rfl ?_
        refine e_aloadN C dX4_countSessionsAt_17 rfl ?_
        refine e_ifnullN (tgt := 34) C dX4_countSessionsAt_19 (by decide) ?_
        refine f_iincn (ls1 := [_, _, _, _, _]) C dX4_countSessionsAt_34 rfl (by decide) rfl ?_
        refine e_goto (tgt := 4) C dX4_countSessionsAt_37 (by decide) ?_
        exact ih (i + 1) w _ (by omega) (by omega) (by rw [homz, cif_neg (fun q => hno_12 q.1)]; omega)
set_option maxRecDepth 100000 in
set_option maxHeartbeats 4000000 in
theorem c_X4_countSessionsAt {E : EV} {l : Launch} {mem : MEM} {k : Nat} (hk : k < 8) {z : ZZ} (hz : RelS mem k z) {pl : Int32} : Ct E l yX4_countSessionsAt (me_ws yX4_countSessionsAt cX4_countSessionsAt 5 (some .int)) 3 [rv (1, k, 0), iv pl] mem (Ret (iv (nI (homz z pl 8))) mem) := by
  refine Ct.of (RC := RX4) (ls0 := [rv (1, k, 0), iv pl, uv, uv, uv]) mi_yX4_countSessionsAt (Nat.le_of_ble_eq_true rfl) rfl (fun X C hX => ?_)
  refine e_iconst (v := nI 0) C dX4_countSessionsAt_0 (by decide) ?_
  refine f_istore_n (ls1 := [_, _, _, _, _]) C dX4_countSessionsAt_1 (by decide) rfl ?_
  refine e_iconst (v := nI 0) C dX4_countSessionsAt_2 (by decide) ?_
  refine f_istore_n (ls1 := [_, _, _, _, _]) C dX4_countSessionsAt_3 (by decide) rfl ?_
  exact lp_X4_countSessionsAt hk hz C hX 9 0 0 _ (by decide) (by decide) rfl
set_option maxRecDepth 100000 in
set_option maxHeartbeats 4000000 in
theorem lp_X4_sendSessionsToPrimary {E : EV} {l : Launch} {X : CX} {mem : MEM} {k : Nat} (hk : k < 8) {z : ZZ} (hz : RelS mem k z) {pl : Int32} (C : CK E X RX4 cX4_sendSessionsToPrimary 5 (some .int) 3) (hX : EX E X l (fun r m => ∃ x : Int32, r = iv x ∧ PoI k mem (sndz z pl 8) (nI (homz z pl 8)) x m)) : ∀ (lpn : Nat) (i w : Nat) (mm : MEM) (x4 : VV), 8 - i < lpn → i ≤ 8 → w = homz z pl i → RelS mm k (sndz z pl i) → FrS k mem mm → G E X 5 4 [rv (1, k, 0), iv pl, iv (nI w), iv (nI i), x4] [] mm := by
  intro lpn
  induction lpn with
  | zero => intro i w mm x4 hlpn; exact absurd hlpn (Nat.not_lt_zero _)
  | succ lpn ih =>
    intro i w mm x4 hlpn hi hw hr hf
    refine e_iload_n C dX4_sendSessionsToPrimary_4 rfl ?_
    refine e_bipush (v := nI 8) C dX4_sendSessionsToPrimary_5 (by decide) ?_
    refine e_icmp_ge (tgt := 47) C dX4_sendSessionsToPrimary_7 (by decide) (fun h_7 => ?_) (fun h_7 => ?_)
    · skip
      have nh_7 := xI_leD (by omega) (by omega) h_7
      refine e_iload_n C dX4_sendSessionsToPrimary_47 rfl ?_
      obtain rfl : i = 8 := by omega
      exact f_ii C hX dX4_sendSessionsToPrimary_48 ⟨by rw [hw], hr, hf⟩
    · skip
      have nh_7 := xI_nleD (by omega) (by omega) h_7
      refine e_aload_n C dX4_sendSessionsToPrimary_10 rfl ?_
      refine e_iload_n C dX4_sendSessionsToPrimary_11 rfl ?_
      refine f_callVo (As := [_]) (ci := 4) C mi_yX4_findSession mv_yX4_findSession b_ml_X4_67 dX4_sendSessionsToPrimary_12 rfl (c_X4_findSession hk (by assumption)) (by decide) (v1 hk) rfl rfl (Nat.le_of_ble_eq_true rfl) (fun ri_12 hc_12 => ?_) (fun hc_12 => ?_)
      · skip
        obtain ⟨i_12, hi_12, e_12, ho_12, rfl⟩ := hc_12
        obtain rfl := xI_inj (by omega) (by omega) e_12
        refine f_astore (ls1 := [_, _, _, _, _]) C dX4_sendSessionsToPrimary_15 (by decide) rfl ?_
        refine e_aload C dX4_sendSessionsToPrimary_17 rfl ?_
        refine e_ifnull C dX4_sendSessionsToPrimary_19 ?_
        refine e_aload C dX4_sendSessionsToPrimary_22 rfl ?_
        refine e_geti C (ci := 3) 1 rfl rfl rfl (by decide) b_X3 rfl b_fl_X4_71 (v9 hk (by omega)) rfl dX4_sendSessionsToPrimary_24 ?_
        refine e_iload_n C dX4_sendSessionsToPrimary_27 rfl ?_
        refine e_icmp_ne (tgt := 41) C dX4_sendSessionsToPrimary_28 (by decide) (fun h_28 => ?_) (fun h_28 => ?_)
        · skip
          refine f_iincn (ls1 := [_, _, _, _, _]) C dX4_sendSessionsToPrimary_41 rfl (by decide) rfl ?_
          refine e_goto (tgt := 4) C dX4_sendSessionsToPrimary_44 (by decide) ?_
          exact ih (i + 1) w mm _ (by omega) (by omega) (by rw [hr.ses (by omega) ho_12 (by decide), sndz_sz (by decide) i (Nat.le_refl i)] at h_28; rw [homz, cif_neg (fun q => h_28 q.2)]; omega) (by rw [hr.ses (by omega) ho_12 (by decide)] at h_28; rw [sndz, cif_neg (fun q => h_28 q.2)]; exact hr) hf
        · skip
          refine e_aload C dX4_sendSessionsToPrimary_31 rfl ?_
          refine e_bipush (v := nI 9) C dX4_sendSessionsToPrimary_33 (by decide) ?_
          refine e_puti C (ci := 3) 1 rfl rfl rfl (by decide) b_X3 rfl b_fl_X4_71 (v9 hk (by omega)) tyX3 tyX3_ok nmX3 rfl (.inl ⟨rfl, rfl⟩) rfl dX4_sendSessionsToPrimary_35 ?_
          refine f_iincn (ls1 := [_, _, _, _, _]) C dX4_sendSessionsToPrimary_38 rfl (by decide) rfl ?_
          refine f_iincn (ls1 := [_, _, _, _, _]) C dX4_sendSessionsToPrimary_41 rfl (by decide) rfl ?_
          refine e_goto (tgt := 4) C dX4_sendSessionsToPrimary_44 (by decide) ?_
          exact ih (i + 1) (w + 1) _ _ (by omega) (by omega) (by rw [hr.ses (by omega) ho_12 (by decide), sndz_sz (by decide) i (Nat.le_refl i)] at h_28; rw [sndz_sz (by decide) i (Nat.le_refl i)] at ho_12; rw [homz, cif_pos ⟨ho_12, h_28⟩]; omega) (by rw [hr.ses (by omega) ho_12 (by decide)] at h_28; rw [sndz, cif_pos ⟨ho_12, h_28⟩]; exact hr.s_ses (by omega) (by decide) (by decide)) (hf.set (blk_of (by decide) (by decide)))
      · skip
        have hno_12 := fun q => hc_12 ((isS_nat (by omega)).mpr ⟨by omega, q⟩)
        refine f_astoreN (ls1 := [_, _, _, _, _]) C dX4_sendSessionsToPrimary_15 (by decide) rfl ?_
        refine e_aloadN C dX4_sendSessionsToPrimary_17 rfl ?_
        refine e_ifnullN (tgt := 41) C dX4_sendSessionsToPrimary_19 (by decide) ?_
        refine f_iincn (ls1 := [_, _, _, _, _]) C dX4_sendSessionsToPrimary_41 rfl (by decide) rfl ?_
        refine e_goto (tgt := 4) C dX4_sendSessionsToPrimary_44 (by decide) ?_
        exact ih (i + 1) w mm _ (by omega) (by omega) (by rw [sndz_sz (by decide) i (Nat.le_refl i)] at hno_12; rw [homz, cif_neg (fun q => hno_12 q.1)]; omega) (by rw [sndz, cif_neg (fun q => hno_12 q.1)]; exact hr) hf
set_option maxRecDepth 100000 in
set_option maxHeartbeats 4000000 in
theorem c_X4_sendSessionsToPrimary {E : EV} {l : Launch} {mem : MEM} {k : Nat} (hk : k < 8) {z : ZZ} (hz : RelS mem k z) {pl : Int32} : Ct E l yX4_sendSessionsToPrimary (me_ws yX4_sendSessionsToPrimary cX4_sendSessionsToPrimary 5 (some .int)) 3 [rv (1, k, 0), iv pl] mem (fun r m => ∃ x : Int32, r = iv x ∧ PoI k mem (sndz z pl 8) (nI (homz z pl 8)) x m) := by
  refine Ct.of (RC := RX4) (ls0 := [rv (1, k, 0), iv pl, uv, uv, uv]) mi_yX4_sendSessionsToPrimary (Nat.le_of_ble_eq_true rfl) rfl (fun X C hX => ?_)
  refine e_iconst (v := nI 0) C dX4_sendSessionsToPrimary_0 (by decide) ?_
  refine f_istore_n (ls1 := [_, _, _, _, _]) C dX4_sendSessionsToPrimary_1 (by decide) rfl ?_
  refine e_iconst (v := nI 0) C dX4_sendSessionsToPrimary_2 (by decide) ?_
  refine f_istore_n (ls1 := [_, _, _, _, _]) C dX4_sendSessionsToPrimary_3 (by decide) rfl ?_
  exact lp_X4_sendSessionsToPrimary hk hz C hX 9 0 0 mem _ (by decide) (by decide) rfl hz FrS.rfl'
end
