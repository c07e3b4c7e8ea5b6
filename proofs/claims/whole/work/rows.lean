section
/-- a private method of a class that the tables say can be made, by its rows of tables_1 -/
def lw_okq (q : MethodName × Nat) : Prop := (q.1.cls ≠ "java/lang/invoke/MethodHandle" ∧ q.1.cls ≠ "java/lang/invoke/VarHandle") ∧ Cond.instantiable q.1.cls q.2 ∈ tables_1 ∧ Cond.privateMethod q.1 ∈ tables_1 ∧ Cond.instanceMethod q.1 ∈ tables_1
theorem lw_p0 : lw_okq (⟨"ReplicaSessions$History", "stateAfterOldest", "(I)LReplicaSessions$State;"⟩, 3) := ⟨⟨by decide +kernel, by decide +kernel⟩, List.mem_of_getElem? (i := 159) (by decide +kernel), List.mem_of_getElem? (i := 228) (by decide +kernel), List.mem_of_getElem? (i := 229) (by decide +kernel)⟩
theorem lw_p1 : lw_okq (⟨"ReplicaSessions", "startReplica", "(II)I"⟩, 5) := ⟨⟨by decide +kernel, by decide +kernel⟩, List.mem_of_getElem? (i := 13) (by decide +kernel), List.mem_of_getElem? (i := 255) (by decide +kernel), List.mem_of_getElem? (i := 256) (by decide +kernel)⟩
theorem lw_p2 : lw_okq (⟨"ReplicaSessions", "removeReplica", "(I)I"⟩, 5) := ⟨⟨by decide +kernel, by decide +kernel⟩, List.mem_of_getElem? (i := 13) (by decide +kernel), List.mem_of_getElem? (i := 290) (by decide +kernel), List.mem_of_getElem? (i := 291) (by decide +kernel)⟩
theorem lw_p3 : lw_okq (⟨"ReplicaSessions", "changeRate", "(II)I"⟩, 5) := ⟨⟨by decide +kernel, by decide +kernel⟩, List.mem_of_getElem? (i := 13) (by decide +kernel), List.mem_of_getElem? (i := 307) (by decide +kernel), List.mem_of_getElem? (i := 308) (by decide +kernel)⟩
theorem lw_p4 : lw_okq (⟨"ReplicaSessions", "changeStopped", "(IZ)I"⟩, 5) := ⟨⟨by decide +kernel, by decide +kernel⟩, List.mem_of_getElem? (i := 13) (by decide +kernel), List.mem_of_getElem? (i := 315) (by decide +kernel), List.mem_of_getElem? (i := 316) (by decide +kernel)⟩
theorem lw_p5 : lw_okq (⟨"ReplicaSessions", "setBack", "(II)I"⟩, 5) := ⟨⟨by decide +kernel, by decide +kernel⟩, List.mem_of_getElem? (i := 13) (by decide +kernel), List.mem_of_getElem? (i := 323) (by decide +kernel), List.mem_of_getElem? (i := 324) (by decide +kernel)⟩
theorem lw_p6 : lw_okq (⟨"ReplicaSessions", "letTicksPass", "(I)I"⟩, 5) := ⟨⟨by decide +kernel, by decide +kernel⟩, List.mem_of_getElem? (i := 13) (by decide +kernel), List.mem_of_getElem? (i := 331) (by decide +kernel), List.mem_of_getElem? (i := 332) (by decide +kernel)⟩
theorem lw_p7 : lw_okq (⟨"ReplicaSessions", "startSession", "(III)I"⟩, 5) := ⟨⟨by decide +kernel, by decide +kernel⟩, List.mem_of_getElem? (i := 13) (by decide +kernel), List.mem_of_getElem? (i := 432) (by decide +kernel), List.mem_of_getElem? (i := 433) (by decide +kernel)⟩
theorem lw_p8 : lw_okq (⟨"ReplicaSessions", "endSession", "(I)I"⟩, 5) := ⟨⟨by decide +kernel, by decide +kernel⟩, List.mem_of_getElem? (i := 13) (by decide +kernel), List.mem_of_getElem? (i := 451) (by decide +kernel), List.mem_of_getElem? (i := 452) (by decide +kernel)⟩
theorem lw_p9 : lw_okq (⟨"ReplicaSessions", "changeHome", "(II)I"⟩, 5) := ⟨⟨by decide +kernel, by decide +kernel⟩, List.mem_of_getElem? (i := 13) (by decide +kernel), List.mem_of_getElem? (i := 460) (by decide +kernel), List.mem_of_getElem? (i := 461) (by decide +kernel)⟩
theorem lw_p10 : lw_okq (⟨"ReplicaSessions", "changeOptions", "(III)I"⟩, 5) := ⟨⟨by decide +kernel, by decide +kernel⟩, List.mem_of_getElem? (i := 13) (by decide +kernel), List.mem_of_getElem? (i := 468) (by decide +kernel), List.mem_of_getElem? (i := 469) (by decide +kernel)⟩
theorem lw_p11 : lw_okq (⟨"ReplicaSessions", "handMarks", "(II)I"⟩, 5) := ⟨⟨by decide +kernel, by decide +kernel⟩, List.mem_of_getElem? (i := 13) (by decide +kernel), List.mem_of_getElem? (i := 476) (by decide +kernel), List.mem_of_getElem? (i := 477) (by decide +kernel)⟩
theorem lw_p12 : lw_okq (⟨"ReplicaSessions", "addWrite", "(III)I"⟩, 5) := ⟨⟨by decide +kernel, by decide +kernel⟩, List.mem_of_getElem? (i := 13) (by decide +kernel), List.mem_of_getElem? (i := 508) (by decide +kernel), List.mem_of_getElem? (i := 509) (by decide +kernel)⟩
theorem lw_p13 : lw_okq (⟨"ReplicaSessions", "readAtHome", "(II)I"⟩, 5) := ⟨⟨by decide +kernel, by decide +kernel⟩, List.mem_of_getElem? (i := 13) (by decide +kernel), List.mem_of_getElem? (i := 525) (by decide +kernel), List.mem_of_getElem? (i := 526) (by decide +kernel)⟩
theorem lw_p14 : lw_okq (⟨"ReplicaSessions$State", "neededPosition", "(LReplicaSessions$Session;I)I"⟩, 7) := ⟨⟨by decide +kernel, by decide +kernel⟩, List.mem_of_getElem? (i := 21) (by decide +kernel), List.mem_of_getElem? (i := 533) (by decide +kernel), List.mem_of_getElem? (i := 534) (by decide +kernel)⟩
theorem lw_p15 : lw_okq (⟨"ReplicaSessions$State", "countAnswer", "(I)V"⟩, 7) := ⟨⟨by decide +kernel, by decide +kernel⟩, List.mem_of_getElem? (i := 21) (by decide +kernel), List.mem_of_getElem? (i := 553) (by decide +kernel), List.mem_of_getElem? (i := 554) (by decide +kernel)⟩
def lw_privs_1 : List (MethodName × Nat) := [(⟨"ReplicaSessions$History", "stateAfterOldest", "(I)LReplicaSessions$State;"⟩, 3), (⟨"ReplicaSessions", "startReplica", "(II)I"⟩, 5), (⟨"ReplicaSessions", "removeReplica", "(I)I"⟩, 5), (⟨"ReplicaSessions", "changeRate", "(II)I"⟩, 5), (⟨"ReplicaSessions", "changeStopped", "(IZ)I"⟩, 5), (⟨"ReplicaSessions", "setBack", "(II)I"⟩, 5), (⟨"ReplicaSessions", "letTicksPass", "(I)I"⟩, 5), (⟨"ReplicaSessions", "startSession", "(III)I"⟩, 5), (⟨"ReplicaSessions", "endSession", "(I)I"⟩, 5), (⟨"ReplicaSessions", "changeHome", "(II)I"⟩, 5), (⟨"ReplicaSessions", "changeOptions", "(III)I"⟩, 5), (⟨"ReplicaSessions", "handMarks", "(II)I"⟩, 5), (⟨"ReplicaSessions", "addWrite", "(III)I"⟩, 5), (⟨"ReplicaSessions", "readAtHome", "(II)I"⟩, 5), (⟨"ReplicaSessions$State", "neededPosition", "(LReplicaSessions$Session;I)I"⟩, 7), (⟨"ReplicaSessions$State", "countAnswer", "(I)V"⟩, 7)]
theorem lw_r1 : ∀ q ∈ lw_privs_1, lw_okq q := List.forall_mem_cons.mpr ⟨lw_p0, List.forall_mem_cons.mpr ⟨lw_p1, List.forall_mem_cons.mpr ⟨lw_p2, List.forall_mem_cons.mpr ⟨lw_p3, List.forall_mem_cons.mpr ⟨lw_p4, List.forall_mem_cons.mpr ⟨lw_p5, List.forall_mem_cons.mpr ⟨lw_p6, List.forall_mem_cons.mpr ⟨lw_p7, List.forall_mem_cons.mpr ⟨lw_p8, List.forall_mem_cons.mpr ⟨lw_p9, List.forall_mem_cons.mpr ⟨lw_p10, List.forall_mem_cons.mpr ⟨lw_p11, List.forall_mem_cons.mpr ⟨lw_p12, List.forall_mem_cons.mpr ⟨lw_p13, List.forall_mem_cons.mpr ⟨lw_p14, List.forall_mem_cons.mpr ⟨lw_p15, fun _ h => absurd h List.not_mem_nil⟩⟩⟩⟩⟩⟩⟩⟩⟩⟩⟩⟩⟩⟩⟩⟩
theorem lw_p16 : lw_okq (⟨"ReplicaSessions", "readAtPlace", "(III)I"⟩, 5) := ⟨⟨by decide +kernel, by decide +kernel⟩, List.mem_of_getElem? (i := 13) (by decide +kernel), List.mem_of_getElem? (i := 563) (by decide +kernel), List.mem_of_getElem? (i := 564) (by decide +kernel)⟩
theorem lw_p17 : lw_okq (⟨"ReplicaSessions$Text", "codeHere", "()I"⟩, 6) := ⟨⟨by decide +kernel, by decide +kernel⟩, List.mem_of_getElem? (i := 178) (by decide +kernel), List.mem_of_getElem? (i := 620) (by decide +kernel), List.mem_of_getElem? (i := 621) (by decide +kernel)⟩
theorem lw_p18 : lw_okq (⟨"ReplicaSessions$Text", "readDigit", "()Z"⟩, 6) := ⟨⟨by decide +kernel, by decide +kernel⟩, List.mem_of_getElem? (i := 178) (by decide +kernel), List.mem_of_getElem? (i := 628) (by decide +kernel), List.mem_of_getElem? (i := 629) (by decide +kernel)⟩
theorem lw_p19 : lw_okq (⟨"ReplicaSessions$Text", "takeDigit", "()I"⟩, 6) := ⟨⟨by decide +kernel, by decide +kernel⟩, List.mem_of_getElem? (i := 178) (by decide +kernel), List.mem_of_getElem? (i := 633) (by decide +kernel), List.mem_of_getElem? (i := 634) (by decide +kernel)⟩
theorem lw_p20 : lw_okq (⟨"ReplicaSessions$Text", "addArgument", "(I)Z"⟩, 6) := ⟨⟨by decide +kernel, by decide +kernel⟩, List.mem_of_getElem? (i := 178) (by decide +kernel), List.mem_of_getElem? (i := 637) (by decide +kernel), List.mem_of_getElem? (i := 638) (by decide +kernel)⟩
theorem lw_p21 : lw_okq (⟨"ReplicaSessions$Text", "readNumber", "()Z"⟩, 6) := ⟨⟨by decide +kernel, by decide +kernel⟩, List.mem_of_getElem? (i := 178) (by decide +kernel), List.mem_of_getElem? (i := 641) (by decide +kernel), List.mem_of_getElem? (i := 642) (by decide +kernel)⟩
theorem lw_p22 : lw_okq (⟨"ReplicaSessions$Text", "readPlace", "()Z"⟩, 6) := ⟨⟨by decide +kernel, by decide +kernel⟩, List.mem_of_getElem? (i := 178) (by decide +kernel), List.mem_of_getElem? (i := 645) (by decide +kernel), List.mem_of_getElem? (i := 646) (by decide +kernel)⟩
theorem lw_p23 : lw_okq (⟨"ReplicaSessions", "runCommand", "()I"⟩, 5) := ⟨⟨by decide +kernel, by decide +kernel⟩, List.mem_of_getElem? (i := 13) (by decide +kernel), List.mem_of_getElem? (i := 655) (by decide +kernel), List.mem_of_getElem? (i := 656) (by decide +kernel)⟩
theorem lw_p24 : lw_okq (⟨"ReplicaSessionsModel", "record", "()V"⟩, 11) := ⟨⟨by decide +kernel, by decide +kernel⟩, List.mem_of_getElem? (i := 682) (by decide +kernel), List.mem_of_getElem? (i := 735) (by decide +kernel), List.mem_of_getElem? (i := 736) (by decide +kernel)⟩
theorem lw_p25 : lw_okq (⟨"ReplicaSessionsModel", "isPlace", "(I)Z"⟩, 11) := ⟨⟨by decide +kernel, by decide +kernel⟩, List.mem_of_getElem? (i := 682) (by decide +kernel), List.mem_of_getElem? (i := 743) (by decide +kernel), List.mem_of_getElem? (i := 744) (by decide +kernel)⟩
theorem lw_p26 : lw_okq (⟨"ReplicaSessionsModel", "isReplica", "(I)Z"⟩, 11) := ⟨⟨by decide +kernel, by decide +kernel⟩, List.mem_of_getElem? (i := 682) (by decide +kernel), List.mem_of_getElem? (i := 747) (by decide +kernel), List.mem_of_getElem? (i := 748) (by decide +kernel)⟩
theorem lw_p27 : lw_okq (⟨"ReplicaSessionsModel", "ofReplica", "(II)I"⟩, 11) := ⟨⟨by decide +kernel, by decide +kernel⟩, List.mem_of_getElem? (i := 682) (by decide +kernel), List.mem_of_getElem? (i := 754) (by decide +kernel), List.mem_of_getElem? (i := 755) (by decide +kernel)⟩
theorem lw_p28 : lw_okq (⟨"ReplicaSessionsModel", "layReplica", "(III)V"⟩, 11) := ⟨⟨by decide +kernel, by decide +kernel⟩, List.mem_of_getElem? (i := 682) (by decide +kernel), List.mem_of_getElem? (i := 758) (by decide +kernel), List.mem_of_getElem? (i := 759) (by decide +kernel)⟩
theorem lw_p29 : lw_okq (⟨"ReplicaSessionsModel", "at", "(I)I"⟩, 11) := ⟨⟨by decide +kernel, by decide +kernel⟩, List.mem_of_getElem? (i := 682) (by decide +kernel), List.mem_of_getElem? (i := 762) (by decide +kernel), List.mem_of_getElem? (i := 763) (by decide +kernel)⟩
theorem lw_p30 : lw_okq (⟨"ReplicaSessionsModel", "homes", "(I)I"⟩, 11) := ⟨⟨by decide +kernel, by decide +kernel⟩, List.mem_of_getElem? (i := 682) (by decide +kernel), List.mem_of_getElem? (i := 770) (by decide +kernel), List.mem_of_getElem? (i := 771) (by decide +kernel)⟩
theorem lw_p31 : lw_okq (⟨"ReplicaSessionsModel", "ofSession", "(II)I"⟩, 11) := ⟨⟨by decide +kernel, by decide +kernel⟩, List.mem_of_getElem? (i := 682) (by decide +kernel), List.mem_of_getElem? (i := 774) (by decide +kernel), List.mem_of_getElem? (i := 775) (by decide +kernel)⟩
def lw_privs_2 : List (MethodName × Nat) := [(⟨"ReplicaSessions", "readAtPlace", "(III)I"⟩, 5), (⟨"ReplicaSessions$Text", "codeHere", "()I"⟩, 6), (⟨"ReplicaSessions$Text", "readDigit", "()Z"⟩, 6), (⟨"ReplicaSessions$Text", "takeDigit", "()I"⟩, 6), (⟨"ReplicaSessions$Text", "addArgument", "(I)Z"⟩, 6), (⟨"ReplicaSessions$Text", "readNumber", "()Z"⟩, 6), (⟨"ReplicaSessions$Text", "readPlace", "()Z"⟩, 6), (⟨"ReplicaSessions", "runCommand", "()I"⟩, 5), (⟨"ReplicaSessionsModel", "record", "()V"⟩, 11), (⟨"ReplicaSessionsModel", "isPlace", "(I)Z"⟩, 11), (⟨"ReplicaSessionsModel", "isReplica", "(I)Z"⟩, 11), (⟨"ReplicaSessionsModel", "ofReplica", "(II)I"⟩, 11), (⟨"ReplicaSessionsModel", "layReplica", "(III)V"⟩, 11), (⟨"ReplicaSessionsModel", "at", "(I)I"⟩, 11), (⟨"ReplicaSessionsModel", "homes", "(I)I"⟩, 11), (⟨"ReplicaSessionsModel", "ofSession", "(II)I"⟩, 11)]
theorem lw_r2 : ∀ q ∈ lw_privs_2, lw_okq q := List.forall_mem_cons.mpr ⟨lw_p16, List.forall_mem_cons.mpr ⟨lw_p17, List.forall_mem_cons.mpr ⟨lw_p18, List.forall_mem_cons.mpr ⟨lw_p19, List.forall_mem_cons.mpr ⟨lw_p20, List.forall_mem_cons.mpr ⟨lw_p21, List.forall_mem_cons.mpr ⟨lw_p22, List.forall_mem_cons.mpr ⟨lw_p23, List.forall_mem_cons.mpr ⟨lw_p24, List.forall_mem_cons.mpr ⟨lw_p25, List.forall_mem_cons.mpr ⟨lw_p26, List.forall_mem_cons.mpr ⟨lw_p27, List.forall_mem_cons.mpr ⟨lw_p28, List.forall_mem_cons.mpr ⟨lw_p29, List.forall_mem_cons.mpr ⟨lw_p30, List.forall_mem_cons.mpr ⟨lw_p31, fun _ h => absurd h List.not_mem_nil⟩⟩⟩⟩⟩⟩⟩⟩⟩⟩⟩⟩⟩⟩⟩⟩
theorem lw_p32 : lw_okq (⟨"ReplicaSessionsModel", "laySession", "(III)V"⟩, 11) := ⟨⟨by decide +kernel, by decide +kernel⟩, List.mem_of_getElem? (i := 682) (by decide +kernel), List.mem_of_getElem? (i := 778) (by decide +kernel), List.mem_of_getElem? (i := 779) (by decide +kernel)⟩
theorem lw_p33 : lw_okq (⟨"ReplicaSessionsModel", "whyNotJump", "(II)I"⟩, 11) := ⟨⟨by decide +kernel, by decide +kernel⟩, List.mem_of_getElem? (i := 682) (by decide +kernel), List.mem_of_getElem? (i := 794) (by decide +kernel), List.mem_of_getElem? (i := 795) (by decide +kernel)⟩
theorem lw_p34 : lw_okq (⟨"ReplicaSessionsModel", "jumps", "(II)I"⟩, 11) := ⟨⟨by decide +kernel, by decide +kernel⟩, List.mem_of_getElem? (i := 682) (by decide +kernel), List.mem_of_getElem? (i := 798) (by decide +kernel), List.mem_of_getElem? (i := 799) (by decide +kernel)⟩
theorem lw_p35 : lw_okq (⟨"ReplicaSessionsModel", "ticks", "(I)V"⟩, 11) := ⟨⟨by decide +kernel, by decide +kernel⟩, List.mem_of_getElem? (i := 682) (by decide +kernel), List.mem_of_getElem? (i := 806) (by decide +kernel), List.mem_of_getElem? (i := 807) (by decide +kernel)⟩
theorem lw_p36 : lw_okq (⟨"ReplicaSessionsModel", "atBehind", "(II)I"⟩, 11) := ⟨⟨by decide +kernel, by decide +kernel⟩, List.mem_of_getElem? (i := 682) (by decide +kernel), List.mem_of_getElem? (i := 810) (by decide +kernel), List.mem_of_getElem? (i := 811) (by decide +kernel)⟩
theorem lw_p37 : lw_okq (⟨"ReplicaSessionsModel", "ofWrite", "(II)I"⟩, 11) := ⟨⟨by decide +kernel, by decide +kernel⟩, List.mem_of_getElem? (i := 682) (by decide +kernel), List.mem_of_getElem? (i := 830) (by decide +kernel), List.mem_of_getElem? (i := 831) (by decide +kernel)⟩
theorem lw_p38 : lw_okq (⟨"ReplicaSessionsModel", "versionAt", "(II)I"⟩, 11) := ⟨⟨by decide +kernel, by decide +kernel⟩, List.mem_of_getElem? (i := 682) (by decide +kernel), List.mem_of_getElem? (i := 845) (by decide +kernel), List.mem_of_getElem? (i := 846) (by decide +kernel)⟩
theorem lw_p39 : lw_okq (⟨"ReplicaSessionsModel", "valueOf", "(I)I"⟩, 11) := ⟨⟨by decide +kernel, by decide +kernel⟩, List.mem_of_getElem? (i := 682) (by decide +kernel), List.mem_of_getElem? (i := 853) (by decide +kernel), List.mem_of_getElem? (i := 854) (by decide +kernel)⟩
theorem lw_p40 : lw_okq (⟨"ReplicaSessionsModel", "isSession", "(I)Z"⟩, 11) := ⟨⟨by decide +kernel, by decide +kernel⟩, List.mem_of_getElem? (i := 682) (by decide +kernel), List.mem_of_getElem? (i := 873) (by decide +kernel), List.mem_of_getElem? (i := 874) (by decide +kernel)⟩
theorem lw_p41 : lw_okq (⟨"ReplicaSessionsModel", "moves", "(II)I"⟩, 11) := ⟨⟨by decide +kernel, by decide +kernel⟩, List.mem_of_getElem? (i := 682) (by decide +kernel), List.mem_of_getElem? (i := 881) (by decide +kernel), List.mem_of_getElem? (i := 882) (by decide +kernel)⟩
theorem lw_p42 : lw_okq (⟨"ReplicaSessionsModel", "whyNotHand", "(II)I"⟩, 11) := ⟨⟨by decide +kernel, by decide +kernel⟩, List.mem_of_getElem? (i := 682) (by decide +kernel), List.mem_of_getElem? (i := 893) (by decide +kernel), List.mem_of_getElem? (i := 894) (by decide +kernel)⟩
theorem lw_p43 : lw_okq (⟨"ReplicaSessionsModel", "hands", "(II)I"⟩, 11) := ⟨⟨by decide +kernel, by decide +kernel⟩, List.mem_of_getElem? (i := 682) (by decide +kernel), List.mem_of_getElem? (i := 897) (by decide +kernel), List.mem_of_getElem? (i := 898) (by decide +kernel)⟩
theorem lw_p44 : lw_okq (⟨"ReplicaSessionsModel", "need", "(I)I"⟩, 11) := ⟨⟨by decide +kernel, by decide +kernel⟩, List.mem_of_getElem? (i := 682) (by decide +kernel), List.mem_of_getElem? (i := 912) (by decide +kernel), List.mem_of_getElem? (i := 913) (by decide +kernel)⟩
theorem lw_p45 : lw_okq (⟨"ReplicaSessionsModel", "has", "(II)Z"⟩, 11) := ⟨⟨by decide +kernel, by decide +kernel⟩, List.mem_of_getElem? (i := 682) (by decide +kernel), List.mem_of_getElem? (i := 916) (by decide +kernel), List.mem_of_getElem? (i := 917) (by decide +kernel)⟩
theorem lw_p46 : lw_okq (⟨"ReplicaSessionsModel", "whyNotWrite", "(III)I"⟩, 11) := ⟨⟨by decide +kernel, by decide +kernel⟩, List.mem_of_getElem? (i := 682) (by decide +kernel), List.mem_of_getElem? (i := 924) (by decide +kernel), List.mem_of_getElem? (i := 925) (by decide +kernel)⟩
theorem lw_p47 : lw_okq (⟨"ReplicaSessionsModel", "writes", "(III)I"⟩, 11) := ⟨⟨by decide +kernel, by decide +kernel⟩, List.mem_of_getElem? (i := 682) (by decide +kernel), List.mem_of_getElem? (i := 928) (by decide +kernel), List.mem_of_getElem? (i := 929) (by decide +kernel)⟩
def lw_privs_3 : List (MethodName × Nat) := [(⟨"ReplicaSessionsModel", "laySession", "(III)V"⟩, 11), (⟨"ReplicaSessionsModel", "whyNotJump", "(II)I"⟩, 11), (⟨"ReplicaSessionsModel", "jumps", "(II)I"⟩, 11), (⟨"ReplicaSessionsModel", "ticks", "(I)V"⟩, 11), (⟨"ReplicaSessionsModel", "atBehind", "(II)I"⟩, 11), (⟨"ReplicaSessionsModel", "ofWrite", "(II)I"⟩, 11), (⟨"ReplicaSessionsModel", "versionAt", "(II)I"⟩, 11), (⟨"ReplicaSessionsModel", "valueOf", "(I)I"⟩, 11), (⟨"ReplicaSessionsModel", "isSession", "(I)Z"⟩, 11), (⟨"ReplicaSessionsModel", "moves", "(II)I"⟩, 11), (⟨"ReplicaSessionsModel", "whyNotHand", "(II)I"⟩, 11), (⟨"ReplicaSessionsModel", "hands", "(II)I"⟩, 11), (⟨"ReplicaSessionsModel", "need", "(I)I"⟩, 11), (⟨"ReplicaSessionsModel", "has", "(II)Z"⟩, 11), (⟨"ReplicaSessionsModel", "whyNotWrite", "(III)I"⟩, 11), (⟨"ReplicaSessionsModel", "writes", "(III)I"⟩, 11)]
theorem lw_r3 : ∀ q ∈ lw_privs_3, lw_okq q := List.forall_mem_cons.mpr ⟨lw_p32, List.forall_mem_cons.mpr ⟨lw_p33, List.forall_mem_cons.mpr ⟨lw_p34, List.forall_mem_cons.mpr ⟨lw_p35, List.forall_mem_cons.mpr ⟨lw_p36, List.forall_mem_cons.mpr ⟨lw_p37, List.forall_mem_cons.mpr ⟨lw_p38, List.forall_mem_cons.mpr ⟨lw_p39, List.forall_mem_cons.mpr ⟨lw_p40, List.forall_mem_cons.mpr ⟨lw_p41, List.forall_mem_cons.mpr ⟨lw_p42, List.forall_mem_cons.mpr ⟨lw_p43, List.forall_mem_cons.mpr ⟨lw_p44, List.forall_mem_cons.mpr ⟨lw_p45, List.forall_mem_cons.mpr ⟨lw_p46, List.forall_mem_cons.mpr ⟨lw_p47, fun _ h => absurd h List.not_mem_nil⟩⟩⟩⟩⟩⟩⟩⟩⟩⟩⟩⟩⟩⟩⟩⟩
theorem lw_p48 : lw_okq (⟨"ReplicaSessionsModel", "whyNotRead", "(II)I"⟩, 11) := ⟨⟨by decide +kernel, by decide +kernel⟩, List.mem_of_getElem? (i := 682) (by decide +kernel), List.mem_of_getElem? (i := 936) (by decide +kernel), List.mem_of_getElem? (i := 937) (by decide +kernel)⟩
theorem lw_p49 : lw_okq (⟨"ReplicaSessionsModel", "waitsAtHome", "(II)I"⟩, 11) := ⟨⟨by decide +kernel, by decide +kernel⟩, List.mem_of_getElem? (i := 682) (by decide +kernel), List.mem_of_getElem? (i := 940) (by decide +kernel), List.mem_of_getElem? (i := 941) (by decide +kernel)⟩
theorem lw_p50 : lw_okq (⟨"ReplicaSessionsModel", "waitOf", "(III)I"⟩, 11) := ⟨⟨by decide +kernel, by decide +kernel⟩, List.mem_of_getElem? (i := 682) (by decide +kernel), List.mem_of_getElem? (i := 944) (by decide +kernel), List.mem_of_getElem? (i := 945) (by decide +kernel)⟩
theorem lw_p51 : lw_okq (⟨"ReplicaSessionsModel", "needed", "(II)I"⟩, 11) := ⟨⟨by decide +kernel, by decide +kernel⟩, List.mem_of_getElem? (i := 682) (by decide +kernel), List.mem_of_getElem? (i := 948) (by decide +kernel), List.mem_of_getElem? (i := 949) (by decide +kernel)⟩
theorem lw_p52 : lw_okq (⟨"ReplicaSessionsModel", "reads", "(II)I"⟩, 11) := ⟨⟨by decide +kernel, by decide +kernel⟩, List.mem_of_getElem? (i := 682) (by decide +kernel), List.mem_of_getElem? (i := 952) (by decide +kernel), List.mem_of_getElem? (i := 953) (by decide +kernel)⟩
theorem lw_p53 : lw_okq (⟨"ReplicaSessionsModel", "answer", "(IIII)I"⟩, 11) := ⟨⟨by decide +kernel, by decide +kernel⟩, List.mem_of_getElem? (i := 682) (by decide +kernel), List.mem_of_getElem? (i := 956) (by decide +kernel), List.mem_of_getElem? (i := 957) (by decide +kernel)⟩
theorem lw_p54 : lw_okq (⟨"ReplicaSessionsModel", "readCommand", "()V"⟩, 11) := ⟨⟨by decide +kernel, by decide +kernel⟩, List.mem_of_getElem? (i := 682) (by decide +kernel), List.mem_of_getElem? (i := 996) (by decide +kernel), List.mem_of_getElem? (i := 997) (by decide +kernel)⟩
theorem lw_p55 : lw_okq (⟨"ReplicaSessionsModel", "letter", "()I"⟩, 11) := ⟨⟨by decide +kernel, by decide +kernel⟩, List.mem_of_getElem? (i := 682) (by decide +kernel), List.mem_of_getElem? (i := 1000) (by decide +kernel), List.mem_of_getElem? (i := 1001) (by decide +kernel)⟩
theorem lw_p56 : lw_okq (⟨"ReplicaSessionsModel", "wants", "(Z)V"⟩, 11) := ⟨⟨by decide +kernel, by decide +kernel⟩, List.mem_of_getElem? (i := 682) (by decide +kernel), List.mem_of_getElem? (i := 1004) (by decide +kernel), List.mem_of_getElem? (i := 1005) (by decide +kernel)⟩
theorem lw_p57 : lw_okq (⟨"ReplicaSessionsModel", "number", "()I"⟩, 11) := ⟨⟨by decide +kernel, by decide +kernel⟩, List.mem_of_getElem? (i := 682) (by decide +kernel), List.mem_of_getElem? (i := 1008) (by decide +kernel), List.mem_of_getElem? (i := 1009) (by decide +kernel)⟩
theorem lw_p58 : lw_okq (⟨"ReplicaSessionsModel", "digit", "()I"⟩, 11) := ⟨⟨by decide +kernel, by decide +kernel⟩, List.mem_of_getElem? (i := 682) (by decide +kernel), List.mem_of_getElem? (i := 1012) (by decide +kernel), List.mem_of_getElem? (i := 1013) (by decide +kernel)⟩
theorem lw_p59 : lw_okq (⟨"ReplicaSessionsModel", "place", "()I"⟩, 11) := ⟨⟨by decide +kernel, by decide +kernel⟩, List.mem_of_getElem? (i := 682) (by decide +kernel), List.mem_of_getElem? (i := 1016) (by decide +kernel), List.mem_of_getElem? (i := 1017) (by decide +kernel)⟩
theorem lw_p60 : lw_okq (⟨"ReplicaSessionsModel", "executeOne", "(I)I"⟩, 11) := ⟨⟨by decide +kernel, by decide +kernel⟩, List.mem_of_getElem? (i := 682) (by decide +kernel), List.mem_of_getElem? (i := 1025) (by decide +kernel), List.mem_of_getElem? (i := 1026) (by decide +kernel)⟩
def lw_privs_4 : List (MethodName × Nat) := [(⟨"ReplicaSessionsModel", "whyNotRead", "(II)I"⟩, 11), (⟨"ReplicaSessionsModel", "waitsAtHome", "(II)I"⟩, 11), (⟨"ReplicaSessionsModel", "waitOf", "(III)I"⟩, 11), (⟨"ReplicaSessionsModel", "needed", "(II)I"⟩, 11), (⟨"ReplicaSessionsModel", "reads", "(II)I"⟩, 11), (⟨"ReplicaSessionsModel", "answer", "(IIII)I"⟩, 11), (⟨"ReplicaSessionsModel", "readCommand", "()V"⟩, 11), (⟨"ReplicaSessionsModel", "letter", "()I"⟩, 11), (⟨"ReplicaSessionsModel", "wants", "(Z)V"⟩, 11), (⟨"ReplicaSessionsModel", "number", "()I"⟩, 11), (⟨"ReplicaSessionsModel", "digit", "()I"⟩, 11), (⟨"ReplicaSessionsModel", "place", "()I"⟩, 11), (⟨"ReplicaSessionsModel", "executeOne", "(I)I"⟩, 11)]
theorem lw_r4 : ∀ q ∈ lw_privs_4, lw_okq q := List.forall_mem_cons.mpr ⟨lw_p48, List.forall_mem_cons.mpr ⟨lw_p49, List.forall_mem_cons.mpr ⟨lw_p50, List.forall_mem_cons.mpr ⟨lw_p51, List.forall_mem_cons.mpr ⟨lw_p52, List.forall_mem_cons.mpr ⟨lw_p53, List.forall_mem_cons.mpr ⟨lw_p54, List.forall_mem_cons.mpr ⟨lw_p55, List.forall_mem_cons.mpr ⟨lw_p56, List.forall_mem_cons.mpr ⟨lw_p57, List.forall_mem_cons.mpr ⟨lw_p58, List.forall_mem_cons.mpr ⟨lw_p59, List.forall_mem_cons.mpr ⟨lw_p60, fun _ h => absurd h List.not_mem_nil⟩⟩⟩⟩⟩⟩⟩⟩⟩⟩⟩⟩⟩
def lw_privs : List (MethodName × Nat) := lw_privs_1 ++ (lw_privs_2 ++ (lw_privs_3 ++ (lw_privs_4)))
def lw_tbl : List Cond := k2_sels lw_privs ++ tables_1
theorem lw_privs_ok : ∀ q ∈ lw_privs, lw_okq q := by
  show ∀ q ∈ lw_privs_1 ++ (lw_privs_2 ++ (lw_privs_3 ++ (lw_privs_4))), lw_okq q
  exact List.forall_mem_append.mpr ⟨lw_r1, List.forall_mem_append.mpr ⟨lw_r2, List.forall_mem_append.mpr ⟨lw_r3, lw_r4⟩⟩⟩
end
section
theorem goodIn_r {big : List Cond} (ws : List Cond) (ps : List Nat) (hp : ws = ps.filterMap (fun i => big[i]?)) (h : ws.all goodWord = true) : GoodIn big ws := by
  intro w hw
  have h1 := List.all_eq_true.mp h w hw
  rw [hp] at hw
  obtain ⟨i, -, hi⟩ := List.mem_filterMap.mp hw
  have hm : w ∈ big := by first | exact List.mem_of_getElem? hi | exact List.getElem?_mem hi
  exact ⟨hm, good_of_word h1⟩
theorem goodIn_app {big a b : List Cond} (ha : GoodIn big a) (hb : GoodIn big b) : GoodIn big (a ++ b) := fun w h => (List.mem_append.mp h).elim (ha w) (hb w)
theorem goodIn_ca {big a b : List Cond} {c : Cond} (ha : GoodIn big (c :: a)) (hb : GoodIn big b) : GoodIn big (c :: (a ++ b)) := fun w h => (List.mem_cons.mp h).elim (fun e => ha w (List.mem_cons.mpr (Or.inl e))) (fun h => (List.mem_append.mp h).elim (fun h => ha w (List.mem_cons.mpr (Or.inr h))) (hb w))
theorem goodIn_sub {big ws : List Cond} (hm : ∀ w ∈ ws, w ∈ big) (h : ws.all goodWord = true) : GoodIn big ws := fun w hw => ⟨hm w hw, good_of_word (List.all_eq_true.mp h w hw)⟩
def RX0 : String := "ReplicaSessions$History"
def TX0 : u_T := fun k => match k with
  | 0 => ("ReplicaSessions$History", "states", "[LReplicaSessions$State;", true)
  | 1 => ("ReplicaSessions$History", "oldest", "I", false)
  | _ => ("ReplicaSessions$History", "count", "I", false)
def tyX0 : Nat → FieldType := fun k => match k with
  | 0 => .array (.object "ReplicaSessions$State")
  | 1 => .int
  | _ => .int
abbrev wsX00 : List Cond := u_ws RX0 TX0 3
theorem nmX0 : ∀ a, a < 3 → ∀ b, b < 3 → a ≠ b → (TX0 a).2.1 ≠ (TX0 b).2.1 := by decide +kernel
theorem tyX0_ok : ∀ k, k < 3 → parseFieldDescriptor (TX0 k).2.2.1 = some (tyX0 k) := by decide +kernel
abbrev cX0_init : ByteArray := prog_2_method_1_code
def yX0_init : MethodName := ⟨RX0, "<init>", "()V"⟩
abbrev cX0_prepare : ByteArray := prog_2_method_2_code
def yX0_prepare : MethodName := ⟨RX0, "prepare", "(LReplicaSessions$State;)V"⟩
abbrev cX0_keepUnlessError : ByteArray := prog_2_method_3_code
def yX0_keepUnlessError : MethodName := ⟨RX0, "keepUnlessError", "(I)I"⟩
abbrev cX0_takeLatest : ByteArray := prog_2_method_4_code
def yX0_takeLatest : MethodName := ⟨RX0, "takeLatest", "(LReplicaSessions$State;)I"⟩
abbrev cX0_stateAfterOldest : ByteArray := prog_2_method_5_code
def yX0_stateAfterOldest : MethodName := ⟨RX0, "stateAfterOldest", "(I)LReplicaSessions$State;"⟩
def RX1 : String := "ReplicaSessions$Log"
def TX1 : u_T := fun k => match k with
  | 0 => ("ReplicaSessions$Log", "count", "I", false)
  | 1 => ("ReplicaSessions$Log", "keys", "[I", true)
  | 2 => ("ReplicaSessions$Log", "values", "[I", true)
  | _ => ("ReplicaSessions$Log", "writers", "[I", true)
def tyX1 : Nat → FieldType := fun k => match k with
  | 0 => .int
  | 1 => .array .int
  | 2 => .array .int
  | _ => .array .int
abbrev wsX10 : List Cond := u_ws RX1 TX1 4
theorem nmX1 : ∀ a, a < 4 → ∀ b, b < 4 → a ≠ b → (TX1 a).2.1 ≠ (TX1 b).2.1 := by decide +kernel
theorem tyX1_ok : ∀ k, k < 4 → parseFieldDescriptor (TX1 k).2.2.1 = some (tyX1 k) := by decide +kernel
abbrev cX1_init : ByteArray := prog_3_method_1_code
def yX1_init : MethodName := ⟨RX1, "<init>", "()V"⟩
abbrev cX1_contains : ByteArray := prog_3_method_2_code
def yX1_contains : MethodName := ⟨RX1, "contains", "(I)Z"⟩
abbrev cX1_keyOf : ByteArray := prog_3_method_3_code
def yX1_keyOf : MethodName := ⟨RX1, "keyOf", "(I)I"⟩
abbrev cX1_valueOf : ByteArray := prog_3_method_4_code
def yX1_valueOf : MethodName := ⟨RX1, "valueOf", "(I)I"⟩
abbrev cX1_writerOf : ByteArray := prog_3_method_5_code
def yX1_writerOf : MethodName := ⟨RX1, "writerOf", "(I)I"⟩
abbrev cX1_add : ByteArray := prog_3_method_6_code
def yX1_add : MethodName := ⟨RX1, "add", "(III)I"⟩
abbrev cX1_versionAt : ByteArray := prog_3_method_7_code
def yX1_versionAt : MethodName := ⟨RX1, "versionAt", "(II)I"⟩
abbrev cX1_countAfter : ByteArray := prog_3_method_8_code
def yX1_countAfter : MethodName := ⟨RX1, "countAfter", "(II)I"⟩
abbrev cX1_copyFrom : ByteArray := prog_3_method_9_code
def yX1_copyFrom : MethodName := ⟨RX1, "copyFrom", "(LReplicaSessions$Log;)V"⟩
def RX2 : String := "ReplicaSessions$Replica"
def TX2 : u_T := fun k => match k with
  | 0 => ("ReplicaSessions$Replica", "isThere", "Z", false)
  | 1 => ("ReplicaSessions$Replica", "position", "I", false)
  | 2 => ("ReplicaSessions$Replica", "rate", "I", false)
  | 3 => ("ReplicaSessions$Replica", "isStopped", "Z", false)
  | _ => ("ReplicaSessions$Replica", "answerCount", "I", false)
def tyX2 : Nat → FieldType := fun k => match k with
  | 0 => .boolean
  | 1 => .int
  | 2 => .int
  | 3 => .boolean
  | _ => .int
abbrev wsX20 : List Cond := u_ws RX2 TX2 5
theorem nmX2 : ∀ a, a < 5 → ∀ b, b < 5 → a ≠ b → (TX2 a).2.1 ≠ (TX2 b).2.1 := by decide +kernel
theorem tyX2_ok : ∀ k, k < 5 → parseFieldDescriptor (TX2 k).2.2.1 = some (tyX2 k) := by decide +kernel
abbrev cX2_init : ByteArray := prog_4_method_1_code
def yX2_init : MethodName := ⟨RX2, "<init>", "()V"⟩
abbrev cX2_begin : ByteArray := prog_4_method_2_code
def yX2_begin : MethodName := ⟨RX2, "begin", "(II)V"⟩
abbrev cX2_ticksTo : ByteArray := prog_4_method_3_code
def yX2_ticksTo : MethodName := ⟨RX2, "ticksTo", "(I)I"⟩
abbrev cX2_passTicks : ByteArray := prog_4_method_4_code
def yX2_passTicks : MethodName := ⟨RX2, "passTicks", "(II)V"⟩
abbrev cX2_copyFrom : ByteArray := prog_4_method_5_code
def yX2_copyFrom : MethodName := ⟨RX2, "copyFrom", "(LReplicaSessions$Replica;)V"⟩
def RX3 : String := "ReplicaSessions$Session"
def TX3 : u_T := fun k => match k with
  | 0 => ("ReplicaSessions$Session", "isOpen", "Z", false)
  | 1 => ("ReplicaSessions$Session", "home", "I", false)
  | 2 => ("ReplicaSessions$Session", "options", "I", false)
  | 3 => ("ReplicaSessions$Session", "bound", "I", false)
  | 4 => ("ReplicaSessions$Session", "ownMark", "I", false)
  | 5 => ("ReplicaSessions$Session", "seenMark", "I", false)
  | 6 => ("ReplicaSessions$Session", "readCount", "I", false)
  | 7 => ("ReplicaSessions$Session", "undoingReads", "I", false)
  | 8 => ("ReplicaSessions$Session", "readsGoneBack", "I", false)
  | 9 => ("ReplicaSessions$Session", "latestWrites", "[I", true)
  | _ => ("ReplicaSessions$Session", "greatestReads", "[I", true)
def tyX3 : Nat → FieldType := fun k => match k with
  | 0 => .boolean
  | 1 => .int
  | 2 => .int
  | 3 => .int
  | 4 => .int
  | 5 => .int
  | 6 => .int
  | 7 => .int
  | 8 => .int
  | 9 => .array .int
  | _ => .array .int
abbrev wsX30 : List Cond := u_ws RX3 TX3 11
theorem nmX3 : ∀ a, a < 11 → ∀ b, b < 11 → a ≠ b → (TX3 a).2.1 ≠ (TX3 b).2.1 := by decide +kernel
theorem tyX3_ok : ∀ k, k < 11 → parseFieldDescriptor (TX3 k).2.2.1 = some (tyX3 k) := by decide +kernel
abbrev cX3_init : ByteArray := prog_5_method_1_code
def yX3_init : MethodName := ⟨RX3, "<init>", "()V"⟩
abbrev cX3_begin : ByteArray := prog_5_method_2_code
def yX3_begin : MethodName := ⟨RX3, "begin", "(III)V"⟩
abbrev cX3_has : ByteArray := prog_5_method_3_code
def yX3_has : MethodName := ⟨RX3, "has", "(I)Z"⟩
abbrev cX3_need : ByteArray := prog_5_method_4_code
def yX3_need : MethodName := ⟨RX3, "need", "()I"⟩
abbrev cX3_noteWrite : ByteArray := prog_5_method_5_code
def yX3_noteWrite : MethodName := ⟨RX3, "noteWrite", "(II)V"⟩
abbrev cX3_noteRead : ByteArray := prog_5_method_6_code
def yX3_noteRead : MethodName := ⟨RX3, "noteRead", "(III)V"⟩
abbrev cX3_copyFrom : ByteArray := prog_5_method_7_code
def yX3_copyFrom : MethodName := ⟨RX3, "copyFrom", "(LReplicaSessions$Session;)V"⟩
def RX4 : String := "ReplicaSessions$State"
def TX4 : u_T := fun k => match k with
  | 0 => ("ReplicaSessions$State", "log", "LReplicaSessions$Log;", true)
  | 1 => ("ReplicaSessions$State", "replicas", "[LReplicaSessions$Replica;", true)
  | 2 => ("ReplicaSessions$State", "sessions", "[LReplicaSessions$Session;", true)
  | 3 => ("ReplicaSessions$State", "primaryAnswers", "I", false)
  | 4 => ("ReplicaSessions$State", "latestPlace", "I", false)
  | 5 => ("ReplicaSessions$State", "latestVersion", "I", false)
  | _ => ("ReplicaSessions$State", "latestTicks", "I", false)
def tyX4 : Nat → FieldType := fun k => match k with
  | 0 => .object "ReplicaSessions$Log"
  | 1 => .array (.object "ReplicaSessions$Replica")
  | 2 => .array (.object "ReplicaSessions$Session")
  | 3 => .int
  | 4 => .int
  | 5 => .int
  | _ => .int
abbrev wsX40 : List Cond := u_ws RX4 TX4 7
theorem nmX4 : ∀ a, a < 7 → ∀ b, b < 7 → a ≠ b → (TX4 a).2.1 ≠ (TX4 b).2.1 := by decide +kernel
theorem tyX4_ok : ∀ k, k < 7 → parseFieldDescriptor (TX4 k).2.2.1 = some (tyX4 k) := by decide +kernel
abbrev cX4_init : ByteArray := prog_6_method_1_code
def yX4_init : MethodName := ⟨RX4, "<init>", "()V"⟩
abbrev cX4_findReplica : ByteArray := prog_6_method_2_code
def yX4_findReplica : MethodName := ⟨RX4, "findReplica", "(I)LReplicaSessions$Replica;"⟩
abbrev cX4_findSession : ByteArray := prog_6_method_3_code
def yX4_findSession : MethodName := ⟨RX4, "findSession", "(I)LReplicaSessions$Session;"⟩
abbrev cX4_takeFreeReplica : ByteArray := prog_6_method_4_code
def yX4_takeFreeReplica : MethodName := ⟨RX4, "takeFreeReplica", "(II)I"⟩
abbrev cX4_takeFreeSession : ByteArray := prog_6_method_5_code
def yX4_takeFreeSession : MethodName := ⟨RX4, "takeFreeSession", "(III)I"⟩
abbrev cX4_replicaMask : ByteArray := prog_6_method_6_code
def yX4_replicaMask : MethodName := ⟨RX4, "replicaMask", "()I"⟩
abbrev cX4_sessionMask : ByteArray := prog_6_method_7_code
def yX4_sessionMask : MethodName := ⟨RX4, "sessionMask", "()I"⟩
abbrev cX4_countSessionsAt : ByteArray := prog_6_method_8_code
def yX4_countSessionsAt : MethodName := ⟨RX4, "countSessionsAt", "(I)I"⟩
abbrev cX4_sendSessionsToPrimary : ByteArray := prog_6_method_9_code
def yX4_sendSessionsToPrimary : MethodName := ⟨RX4, "sendSessionsToPrimary", "(I)I"⟩
abbrev cX4_hasPlace : ByteArray := prog_6_method_10_code
def yX4_hasPlace : MethodName := ⟨RX4, "hasPlace", "(I)Z"⟩
abbrev cX4_positionOf : ByteArray := prog_6_method_11_code
def yX4_positionOf : MethodName := ⟨RX4, "positionOf", "(I)I"⟩
abbrev cX4_passTicks : ByteArray := prog_6_method_12_code
def yX4_passTicks : MethodName := ⟨RX4, "passTicks", "(I)V"⟩
abbrev cX4_countCaughtUp : ByteArray := prog_6_method_13_code
def yX4_countCaughtUp : MethodName := ⟨RX4, "countCaughtUp", "()I"⟩
abbrev cX4_neededPosition : ByteArray := prog_6_method_14_code
def yX4_neededPosition : MethodName := ⟨RX4, "neededPosition", "(LReplicaSessions$Session;I)I"⟩
abbrev cX4_waitOf : ByteArray := prog_6_method_15_code
def yX4_waitOf : MethodName := ⟨RX4, "waitOf", "(LReplicaSessions$Session;II)I"⟩
abbrev cX4_answer : ByteArray := prog_6_method_16_code
def yX4_answer : MethodName := ⟨RX4, "answer", "(LReplicaSessions$Session;III)I"⟩
abbrev cX4_countAnswer : ByteArray := prog_6_method_17_code
def yX4_countAnswer : MethodName := ⟨RX4, "countAnswer", "(I)V"⟩
abbrev cX4_copyFrom : ByteArray := prog_6_method_18_code
def yX4_copyFrom : MethodName := ⟨RX4, "copyFrom", "(LReplicaSessions$State;)V"⟩
def RX5 : String := "ReplicaSessions$Text"
def TX5 : u_T := fun k => match k with
  | 0 => ("ReplicaSessions$Text", "codes", "[I", true)
  | 1 => ("ReplicaSessions$Text", "count", "I", false)
  | 2 => ("ReplicaSessions$Text", "at", "I", false)
  | 3 => ("ReplicaSessions$Text", "letter", "I", false)
  | 4 => ("ReplicaSessions$Text", "arguments", "[I", true)
  | _ => ("ReplicaSessions$Text", "argumentCount", "I", false)
def tyX5 : Nat → FieldType := fun k => match k with
  | 0 => .array .int
  | 1 => .int
  | 2 => .int
  | 3 => .int
  | 4 => .array .int
  | _ => .int
abbrev wsX50 : List Cond := u_ws RX5 TX5 6
theorem nmX5 : ∀ a, a < 6 → ∀ b, b < 6 → a ≠ b → (TX5 a).2.1 ≠ (TX5 b).2.1 := by decide +kernel
theorem tyX5_ok : ∀ k, k < 6 → parseFieldDescriptor (TX5 k).2.2.1 = some (tyX5 k) := by decide +kernel
abbrev cX5_init : ByteArray := prog_7_method_1_code
def yX5_init : MethodName := ⟨RX5, "<init>", "()V"⟩
abbrev cX5_add : ByteArray := prog_7_method_2_code
def yX5_add : MethodName := ⟨RX5, "add", "(I)I"⟩
abbrev cX5_empty : ByteArray := prog_7_method_3_code
def yX5_empty : MethodName := ⟨RX5, "empty", "()I"⟩
abbrev cX5_findError : ByteArray := prog_7_method_4_code
def yX5_findError : MethodName := ⟨RX5, "findError", "()I"⟩
abbrev cX5_rewind : ByteArray := prog_7_method_5_code
def yX5_rewind : MethodName := ⟨RX5, "rewind", "()V"⟩
abbrev cX5_readCommand : ByteArray := prog_7_method_6_code
def yX5_readCommand : MethodName := ⟨RX5, "readCommand", "()Z"⟩
abbrev cX5_argument : ByteArray := prog_7_method_7_code
def yX5_argument : MethodName := ⟨RX5, "argument", "(I)I"⟩
abbrev cX5_readSign : ByteArray := prog_7_method_8_code
def yX5_readSign : MethodName := ⟨RX5, "readSign", "(I)Z"⟩
abbrev cX5_readDigit : ByteArray := prog_7_method_9_code
def yX5_readDigit : MethodName := ⟨RX5, "readDigit", "()Z"⟩
abbrev cX5_readNumber : ByteArray := prog_7_method_10_code
def yX5_readNumber : MethodName := ⟨RX5, "readNumber", "()Z"⟩
abbrev cX5_readPlace : ByteArray := prog_7_method_11_code
def yX5_readPlace : MethodName := ⟨RX5, "readPlace", "()Z"⟩
abbrev cX5_addArgument : ByteArray := prog_7_method_12_code
def yX5_addArgument : MethodName := ⟨RX5, "addArgument", "(I)Z"⟩
abbrev cX5_takeDigit : ByteArray := prog_7_method_13_code
def yX5_takeDigit : MethodName := ⟨RX5, "takeDigit", "()I"⟩
abbrev cX5_codeHere : ByteArray := prog_7_method_14_code
def yX5_codeHere : MethodName := ⟨RX5, "codeHere", "()I"⟩
def RX6 : String := "ReplicaSessions"
def TX6 : u_T := fun k => match k with
  | 0 => ("ReplicaSessions", "now", "LReplicaSessions$State;", true)
  | 1 => ("ReplicaSessions", "saved", "LReplicaSessions$State;", true)
  | 2 => ("ReplicaSessions", "isSaved", "Z", false)
  | 3 => ("ReplicaSessions", "history", "LReplicaSessions$History;", true)
  | _ => ("ReplicaSessions", "text", "LReplicaSessions$Text;", true)
def tyX6 : Nat → FieldType := fun k => match k with
  | 0 => .object "ReplicaSessions$State"
  | 1 => .object "ReplicaSessions$State"
  | 2 => .boolean
  | 3 => .object "ReplicaSessions$History"
  | _ => .object "ReplicaSessions$Text"
abbrev wsX60 : List Cond := u_ws RX6 TX6 5
theorem nmX6 : ∀ a, a < 5 → ∀ b, b < 5 → a ≠ b → (TX6 a).2.1 ≠ (TX6 b).2.1 := by decide +kernel
theorem tyX6_ok : ∀ k, k < 5 → parseFieldDescriptor (TX6 k).2.2.1 = some (tyX6 k) := by decide +kernel
abbrev cX6_init : ByteArray := prog_1_method_1_code
def yX6_init : MethodName := ⟨RX6, "<init>", "()V"⟩
abbrev cX6_addReplica : ByteArray := prog_1_method_2_code
def yX6_addReplica : MethodName := ⟨RX6, "addReplica", "(II)I"⟩
abbrev cX6_drop : ByteArray := prog_1_method_3_code
def yX6_drop : MethodName := ⟨RX6, "drop", "(I)I"⟩
abbrev cX6_setRate : ByteArray := prog_1_method_4_code
def yX6_setRate : MethodName := ⟨RX6, "setRate", "(II)I"⟩
abbrev cX6_stop : ByteArray := prog_1_method_5_code
def yX6_stop : MethodName := ⟨RX6, "stop", "(IZ)I"⟩
abbrev cX6_jumpBack : ByteArray := prog_1_method_6_code
def yX6_jumpBack : MethodName := ⟨RX6, "jumpBack", "(II)I"⟩
abbrev cX6_tick : ByteArray := prog_1_method_7_code
def yX6_tick : MethodName := ⟨RX6, "tick", "(I)I"⟩
abbrev cX6_replicas : ByteArray := prog_1_method_8_code
def yX6_replicas : MethodName := ⟨RX6, "replicas", "()I"⟩
abbrev cX6_replica : ByteArray := prog_1_method_9_code
def yX6_replica : MethodName := ⟨RX6, "replica", "(II)I"⟩
abbrev cX6_length : ByteArray := prog_1_method_10_code
def yX6_length : MethodName := ⟨RX6, "length", "()I"⟩
abbrev cX6_logged : ByteArray := prog_1_method_11_code
def yX6_logged : MethodName := ⟨RX6, "logged", "(II)I"⟩
abbrev cX6_position : ByteArray := prog_1_method_12_code
def yX6_position : MethodName := ⟨RX6, "position", "(I)I"⟩
abbrev cX6_version : ByteArray := prog_1_method_13_code
def yX6_version : MethodName := ⟨RX6, "version", "(II)I"⟩
abbrev cX6_value : ByteArray := prog_1_method_14_code
def yX6_value : MethodName := ⟨RX6, "value", "(II)I"⟩
abbrev cX6_missing : ByteArray := prog_1_method_15_code
def yX6_missing : MethodName := ⟨RX6, "missing", "(II)I"⟩
abbrev cX6_answers : ByteArray := prog_1_method_16_code
def yX6_answers : MethodName := ⟨RX6, "answers", "(I)I"⟩
abbrev cX6_open : ByteArray := prog_1_method_17_code
def yX6_open : MethodName := ⟨RX6, "open", "(III)I"⟩
abbrev cX6_close : ByteArray := prog_1_method_18_code
def yX6_close : MethodName := ⟨RX6, "close", "(I)I"⟩
abbrev cX6_move : ByteArray := prog_1_method_19_code
def yX6_move : MethodName := ⟨RX6, "move", "(II)I"⟩
abbrev cX6_change : ByteArray := prog_1_method_20_code
def yX6_change : MethodName := ⟨RX6, "change", "(III)I"⟩
abbrev cX6_hand : ByteArray := prog_1_method_21_code
def yX6_hand : MethodName := ⟨RX6, "hand", "(II)I"⟩
abbrev cX6_sessions : ByteArray := prog_1_method_22_code
def yX6_sessions : MethodName := ⟨RX6, "sessions", "()I"⟩
abbrev cX6_session : ByteArray := prog_1_method_23_code
def yX6_session : MethodName := ⟨RX6, "session", "(II)I"⟩
abbrev cX6_write : ByteArray := prog_1_method_24_code
def yX6_write : MethodName := ⟨RX6, "write", "(III)I"⟩
abbrev cX6_read : ByteArray := prog_1_method_25_code
def yX6_read : MethodName := ⟨RX6, "read", "(II)I"⟩
abbrev cX6_readAt : ByteArray := prog_1_method_26_code
def yX6_readAt : MethodName := ⟨RX6, "readAt", "(III)I"⟩
abbrev cX6_latest : ByteArray := prog_1_method_27_code
def yX6_latest : MethodName := ⟨RX6, "latest", "(I)I"⟩
abbrev cX6_waitFor : ByteArray := prog_1_method_28_code
def yX6_waitFor : MethodName := ⟨RX6, "waitFor", "(III)I"⟩
abbrev cX6_bestReplica : ByteArray := prog_1_method_29_code
def yX6_bestReplica : MethodName := ⟨RX6, "bestReplica", "(II)I"⟩
abbrev cX6_keysAfter : ByteArray := prog_1_method_30_code
def yX6_keysAfter : MethodName := ⟨RX6, "keysAfter", "(III)I"⟩
abbrev cX6_catchUp : ByteArray := prog_1_method_31_code
def yX6_catchUp : MethodName := ⟨RX6, "catchUp", "()I"⟩
abbrev cX6_append : ByteArray := prog_1_method_32_code
def yX6_append : MethodName := ⟨RX6, "append", "(I)I"⟩
abbrev cX6_clearText : ByteArray := prog_1_method_33_code
def yX6_clearText : MethodName := ⟨RX6, "clearText", "()I"⟩
abbrev cX6_errorPosition : ByteArray := prog_1_method_34_code
def yX6_errorPosition : MethodName := ⟨RX6, "errorPosition", "()I"⟩
abbrev cX6_execute : ByteArray := prog_1_method_35_code
def yX6_execute : MethodName := ⟨RX6, "execute", "()I"⟩
abbrev cX6_undo : ByteArray := prog_1_method_36_code
def yX6_undo : MethodName := ⟨RX6, "undo", "()I"⟩
abbrev cX6_save : ByteArray := prog_1_method_37_code
def yX6_save : MethodName := ⟨RX6, "save", "()I"⟩
abbrev cX6_restore : ByteArray := prog_1_method_38_code
def yX6_restore : MethodName := ⟨RX6, "restore", "()I"⟩
abbrev cX6_startReplica : ByteArray := prog_1_method_39_code
def yX6_startReplica : MethodName := ⟨RX6, "startReplica", "(II)I"⟩
abbrev cX6_removeReplica : ByteArray := prog_1_method_40_code
def yX6_removeReplica : MethodName := ⟨RX6, "removeReplica", "(I)I"⟩
abbrev cX6_changeRate : ByteArray := prog_1_method_41_code
def yX6_changeRate : MethodName := ⟨RX6, "changeRate", "(II)I"⟩
abbrev cX6_changeStopped : ByteArray := prog_1_method_42_code
def yX6_changeStopped : MethodName := ⟨RX6, "changeStopped", "(IZ)I"⟩
abbrev cX6_setBack : ByteArray := prog_1_method_43_code
def yX6_setBack : MethodName := ⟨RX6, "setBack", "(II)I"⟩
abbrev cX6_letTicksPass : ByteArray := prog_1_method_44_code
def yX6_letTicksPass : MethodName := ⟨RX6, "letTicksPass", "(I)I"⟩
abbrev cX6_startSession : ByteArray := prog_1_method_45_code
def yX6_startSession : MethodName := ⟨RX6, "startSession", "(III)I"⟩
abbrev cX6_endSession : ByteArray := prog_1_method_46_code
def yX6_endSession : MethodName := ⟨RX6, "endSession", "(I)I"⟩
abbrev cX6_changeHome : ByteArray := prog_1_method_47_code
def yX6_changeHome : MethodName := ⟨RX6, "changeHome", "(II)I"⟩
abbrev cX6_changeOptions : ByteArray := prog_1_method_48_code
def yX6_changeOptions : MethodName := ⟨RX6, "changeOptions", "(III)I"⟩
abbrev cX6_handMarks : ByteArray := prog_1_method_49_code
def yX6_handMarks : MethodName := ⟨RX6, "handMarks", "(II)I"⟩
abbrev cX6_addWrite : ByteArray := prog_1_method_50_code
def yX6_addWrite : MethodName := ⟨RX6, "addWrite", "(III)I"⟩
abbrev cX6_readAtHome : ByteArray := prog_1_method_51_code
def yX6_readAtHome : MethodName := ⟨RX6, "readAtHome", "(II)I"⟩
abbrev cX6_readAtPlace : ByteArray := prog_1_method_52_code
def yX6_readAtPlace : MethodName := ⟨RX6, "readAtPlace", "(III)I"⟩
abbrev cX6_runCommand : ByteArray := prog_1_method_53_code
def yX6_runCommand : MethodName := ⟨RX6, "runCommand", "()I"⟩
abbrev cX6_isWithin : ByteArray := prog_1_method_54_code
def yX6_isWithin : MethodName := ⟨RX6, "isWithin", "(III)Z"⟩
abbrev cX6_isKey : ByteArray := prog_1_method_55_code
def yX6_isKey : MethodName := ⟨RX6, "isKey", "(I)Z"⟩
abbrev cX6_isError : ByteArray := prog_1_method_56_code
def yX6_isError : MethodName := ⟨RX6, "isError", "(I)Z"⟩
def RX7 : String := "ReplicaSessionsModel"
def TX7 : u_T := fun k => match k with
  | 0 => ("ReplicaSessionsModel", "z", "[I", true)
  | 1 => ("ReplicaSessionsModel", "past", "[I", true)
  | 2 => ("ReplicaSessionsModel", "pastMany", "I", false)
  | 3 => ("ReplicaSessionsModel", "kept", "[I", true)
  | 4 => ("ReplicaSessionsModel", "isKept", "Z", false)
  | 5 => ("ReplicaSessionsModel", "buffer", "[C", true)
  | 6 => ("ReplicaSessionsModel", "typed", "I", false)
  | 7 => ("ReplicaSessionsModel", "told", "[I", true)
  | 8 => ("ReplicaSessionsModel", "toldMany", "I", false)
  | 9 => ("ReplicaSessionsModel", "spot", "I", false)
  | _ => ("ReplicaSessionsModel", "wrong", "I", false)
def tyX7 : Nat → FieldType := fun k => match k with
  | 0 => .array .int
  | 1 => .array .int
  | 2 => .int
  | 3 => .array .int
  | 4 => .boolean
  | 5 => .array .char
  | 6 => .int
  | 7 => .array .int
  | 8 => .int
  | 9 => .int
  | _ => .int
abbrev wsX70 : List Cond := u_ws RX7 TX7 11
theorem nmX7 : ∀ a, a < 11 → ∀ b, b < 11 → a ≠ b → (TX7 a).2.1 ≠ (TX7 b).2.1 := by decide +kernel
theorem tyX7_ok : ∀ k, k < 11 → parseFieldDescriptor (TX7 k).2.2.1 = some (tyX7 k) := by decide +kernel
abbrev cX7_init : ByteArray := prog_9_method_1_code
def yX7_init : MethodName := ⟨RX7, "<init>", "()V"⟩
abbrev cX7_in : ByteArray := prog_9_method_2_code
def yX7_in : MethodName := ⟨RX7, "in", "(III)Z"⟩
abbrev cX7_ofReplica : ByteArray := prog_9_method_3_code
def yX7_ofReplica : MethodName := ⟨RX7, "ofReplica", "(II)I"⟩
abbrev cX7_layReplica : ByteArray := prog_9_method_4_code
def yX7_layReplica : MethodName := ⟨RX7, "layReplica", "(III)V"⟩
abbrev cX7_ofSession : ByteArray := prog_9_method_5_code
def yX7_ofSession : MethodName := ⟨RX7, "ofSession", "(II)I"⟩
abbrev cX7_laySession : ByteArray := prog_9_method_6_code
def yX7_laySession : MethodName := ⟨RX7, "laySession", "(III)V"⟩
abbrev cX7_isReplica : ByteArray := prog_9_method_7_code
def yX7_isReplica : MethodName := ⟨RX7, "isReplica", "(I)Z"⟩
abbrev cX7_isPlace : ByteArray := prog_9_method_8_code
def yX7_isPlace : MethodName := ⟨RX7, "isPlace", "(I)Z"⟩
abbrev cX7_isSession : ByteArray := prog_9_method_9_code
def yX7_isSession : MethodName := ⟨RX7, "isSession", "(I)Z"⟩
abbrev cX7_isKey : ByteArray := prog_9_method_10_code
def yX7_isKey : MethodName := ⟨RX7, "isKey", "(I)Z"⟩
abbrev cX7_record : ByteArray := prog_9_method_11_code
def yX7_record : MethodName := ⟨RX7, "record", "()V"⟩
abbrev cX7_undo : ByteArray := prog_9_method_12_code
def yX7_undo : MethodName := ⟨RX7, "undo", "()I"⟩
abbrev cX7_save : ByteArray := prog_9_method_13_code
def yX7_save : MethodName := ⟨RX7, "save", "()I"⟩
abbrev cX7_restore : ByteArray := prog_9_method_14_code
def yX7_restore : MethodName := ⟨RX7, "restore", "()I"⟩
abbrev cX7_at : ByteArray := prog_9_method_15_code
def yX7_at : MethodName := ⟨RX7, "at", "(I)I"⟩
abbrev cX7_addReplica : ByteArray := prog_9_method_16_code
def yX7_addReplica : MethodName := ⟨RX7, "addReplica", "(II)I"⟩
abbrev cX7_homes : ByteArray := prog_9_method_17_code
def yX7_homes : MethodName := ⟨RX7, "homes", "(I)I"⟩
abbrev cX7_drop : ByteArray := prog_9_method_18_code
def yX7_drop : MethodName := ⟨RX7, "drop", "(I)I"⟩
abbrev cX7_setRate : ByteArray := prog_9_method_19_code
def yX7_setRate : MethodName := ⟨RX7, "setRate", "(II)I"⟩
abbrev cX7_stop : ByteArray := prog_9_method_20_code
def yX7_stop : MethodName := ⟨RX7, "stop", "(IZ)I"⟩
abbrev cX7_whyNotJump : ByteArray := prog_9_method_21_code
def yX7_whyNotJump : MethodName := ⟨RX7, "whyNotJump", "(II)I"⟩
abbrev cX7_jumps : ByteArray := prog_9_method_22_code
def yX7_jumps : MethodName := ⟨RX7, "jumps", "(II)I"⟩
abbrev cX7_jumpBack : ByteArray := prog_9_method_23_code
def yX7_jumpBack : MethodName := ⟨RX7, "jumpBack", "(II)I"⟩
abbrev cX7_atBehind : ByteArray := prog_9_method_24_code
def yX7_atBehind : MethodName := ⟨RX7, "atBehind", "(II)I"⟩
abbrev cX7_ticks : ByteArray := prog_9_method_25_code
def yX7_ticks : MethodName := ⟨RX7, "ticks", "(I)V"⟩
abbrev cX7_tick : ByteArray := prog_9_method_26_code
def yX7_tick : MethodName := ⟨RX7, "tick", "(I)I"⟩
abbrev cX7_replicas : ByteArray := prog_9_method_27_code
def yX7_replicas : MethodName := ⟨RX7, "replicas", "()I"⟩
abbrev cX7_replica : ByteArray := prog_9_method_28_code
def yX7_replica : MethodName := ⟨RX7, "replica", "(II)I"⟩
abbrev cX7_length : ByteArray := prog_9_method_29_code
def yX7_length : MethodName := ⟨RX7, "length", "()I"⟩
abbrev cX7_ofWrite : ByteArray := prog_9_method_30_code
def yX7_ofWrite : MethodName := ⟨RX7, "ofWrite", "(II)I"⟩
abbrev cX7_logged : ByteArray := prog_9_method_31_code
def yX7_logged : MethodName := ⟨RX7, "logged", "(II)I"⟩
abbrev cX7_position : ByteArray := prog_9_method_32_code
def yX7_position : MethodName := ⟨RX7, "position", "(I)I"⟩
abbrev cX7_versionAt : ByteArray := prog_9_method_33_code
def yX7_versionAt : MethodName := ⟨RX7, "versionAt", "(II)I"⟩
abbrev cX7_version : ByteArray := prog_9_method_34_code
def yX7_version : MethodName := ⟨RX7, "version", "(II)I"⟩
abbrev cX7_valueOf : ByteArray := prog_9_method_35_code
def yX7_valueOf : MethodName := ⟨RX7, "valueOf", "(I)I"⟩
abbrev cX7_value : ByteArray := prog_9_method_36_code
def yX7_value : MethodName := ⟨RX7, "value", "(II)I"⟩
abbrev cX7_missing : ByteArray := prog_9_method_37_code
def yX7_missing : MethodName := ⟨RX7, "missing", "(II)I"⟩
abbrev cX7_answers : ByteArray := prog_9_method_38_code
def yX7_answers : MethodName := ⟨RX7, "answers", "(I)I"⟩
abbrev cX7_open : ByteArray := prog_9_method_39_code
def yX7_open : MethodName := ⟨RX7, "open", "(III)I"⟩
abbrev cX7_close : ByteArray := prog_9_method_40_code
def yX7_close : MethodName := ⟨RX7, "close", "(I)I"⟩
abbrev cX7_moves : ByteArray := prog_9_method_41_code
def yX7_moves : MethodName := ⟨RX7, "moves", "(II)I"⟩
abbrev cX7_move : ByteArray := prog_9_method_42_code
def yX7_move : MethodName := ⟨RX7, "move", "(II)I"⟩
abbrev cX7_change : ByteArray := prog_9_method_43_code
def yX7_change : MethodName := ⟨RX7, "change", "(III)I"⟩
abbrev cX7_more : ByteArray := prog_9_method_44_code
def yX7_more : MethodName := ⟨RX7, "more", "(II)I"⟩
abbrev cX7_whyNotHand : ByteArray := prog_9_method_45_code
def yX7_whyNotHand : MethodName := ⟨RX7, "whyNotHand", "(II)I"⟩
abbrev cX7_hands : ByteArray := prog_9_method_46_code
def yX7_hands : MethodName := ⟨RX7, "hands", "(II)I"⟩
abbrev cX7_hand : ByteArray := prog_9_method_47_code
def yX7_hand : MethodName := ⟨RX7, "hand", "(II)I"⟩
abbrev cX7_sessions : ByteArray := prog_9_method_48_code
def yX7_sessions : MethodName := ⟨RX7, "sessions", "()I"⟩
abbrev cX7_has : ByteArray := prog_9_method_49_code
def yX7_has : MethodName := ⟨RX7, "has", "(II)Z"⟩
abbrev cX7_need : ByteArray := prog_9_method_50_code
def yX7_need : MethodName := ⟨RX7, "need", "(I)I"⟩
abbrev cX7_session : ByteArray := prog_9_method_51_code
def yX7_session : MethodName := ⟨RX7, "session", "(II)I"⟩
abbrev cX7_whyNotWrite : ByteArray := prog_9_method_52_code
def yX7_whyNotWrite : MethodName := ⟨RX7, "whyNotWrite", "(III)I"⟩
abbrev cX7_writes : ByteArray := prog_9_method_53_code
def yX7_writes : MethodName := ⟨RX7, "writes", "(III)I"⟩
abbrev cX7_write : ByteArray := prog_9_method_54_code
def yX7_write : MethodName := ⟨RX7, "write", "(III)I"⟩
abbrev cX7_needed : ByteArray := prog_9_method_55_code
def yX7_needed : MethodName := ⟨RX7, "needed", "(II)I"⟩
abbrev cX7_waitOf : ByteArray := prog_9_method_56_code
def yX7_waitOf : MethodName := ⟨RX7, "waitOf", "(III)I"⟩
abbrev cX7_answer : ByteArray := prog_9_method_57_code
def yX7_answer : MethodName := ⟨RX7, "answer", "(IIII)I"⟩
abbrev cX7_waitsAtHome : ByteArray := prog_9_method_58_code
def yX7_waitsAtHome : MethodName := ⟨RX7, "waitsAtHome", "(II)I"⟩
abbrev cX7_whyNotRead : ByteArray := prog_9_method_59_code
def yX7_whyNotRead : MethodName := ⟨RX7, "whyNotRead", "(II)I"⟩
abbrev cX7_reads : ByteArray := prog_9_method_60_code
def yX7_reads : MethodName := ⟨RX7, "reads", "(II)I"⟩
abbrev cX7_read : ByteArray := prog_9_method_61_code
def yX7_read : MethodName := ⟨RX7, "read", "(II)I"⟩
abbrev cX7_readAt : ByteArray := prog_9_method_62_code
def yX7_readAt : MethodName := ⟨RX7, "readAt", "(III)I"⟩
abbrev cX7_latest : ByteArray := prog_9_method_63_code
def yX7_latest : MethodName := ⟨RX7, "latest", "(I)I"⟩
abbrev cX7_waitFor : ByteArray := prog_9_method_64_code
def yX7_waitFor : MethodName := ⟨RX7, "waitFor", "(III)I"⟩
abbrev cX7_bestReplica : ByteArray := prog_9_method_65_code
def yX7_bestReplica : MethodName := ⟨RX7, "bestReplica", "(II)I"⟩
abbrev cX7_keysAfter : ByteArray := prog_9_method_66_code
def yX7_keysAfter : MethodName := ⟨RX7, "keysAfter", "(III)I"⟩
abbrev cX7_catchUp : ByteArray := prog_9_method_67_code
def yX7_catchUp : MethodName := ⟨RX7, "catchUp", "()I"⟩
abbrev cX7_append : ByteArray := prog_9_method_68_code
def yX7_append : MethodName := ⟨RX7, "append", "(I)I"⟩
abbrev cX7_clearText : ByteArray := prog_9_method_69_code
def yX7_clearText : MethodName := ⟨RX7, "clearText", "()I"⟩
abbrev cX7_letter : ByteArray := prog_9_method_70_code
def yX7_letter : MethodName := ⟨RX7, "letter", "()I"⟩
abbrev cX7_wants : ByteArray := prog_9_method_71_code
def yX7_wants : MethodName := ⟨RX7, "wants", "(Z)V"⟩
abbrev cX7_digit : ByteArray := prog_9_method_72_code
def yX7_digit : MethodName := ⟨RX7, "digit", "()I"⟩
abbrev cX7_number : ByteArray := prog_9_method_73_code
def yX7_number : MethodName := ⟨RX7, "number", "()I"⟩
abbrev cX7_place : ByteArray := prog_9_method_74_code
def yX7_place : MethodName := ⟨RX7, "place", "()I"⟩
abbrev cX7_readCommand : ByteArray := prog_9_method_75_code
def yX7_readCommand : MethodName := ⟨RX7, "readCommand", "()V"⟩
abbrev cX7_errorPosition : ByteArray := prog_9_method_76_code
def yX7_errorPosition : MethodName := ⟨RX7, "errorPosition", "()I"⟩
abbrev cX7_executeOne : ByteArray := prog_9_method_77_code
def yX7_executeOne : MethodName := ⟨RX7, "executeOne", "(I)I"⟩
abbrev cX7_execute : ByteArray := prog_9_method_78_code
def yX7_execute : MethodName := ⟨RX7, "execute", "()I"⟩
def RJ9 : String := "java/lang/Math"
def TJ9 : u_T := fun k => match k with
  | _ => ("", "", "", false)
def tyJ9 : Nat → FieldType := fun k => match k with
  | _ => .int
abbrev wsJ90 : List Cond := u_ws RJ9 TJ9 0
theorem nmJ9 : ∀ a, a < 0 → ∀ b, b < 0 → a ≠ b → (TJ9 a).2.1 ≠ (TJ9 b).2.1 := by decide +kernel
theorem tyJ9_ok : ∀ k, k < 0 → parseFieldDescriptor (TJ9 k).2.2.1 = some (tyJ9 k) := by decide +kernel
abbrev cJ9_floorMod_7cf53 : ByteArray := prog_10_method_50_code
def yJ9_floorMod_7cf53 : MethodName := ⟨RJ9, "floorMod", "(II)I"⟩
abbrev cJ9_max_7cf53 : ByteArray := prog_10_method_65_code
def yJ9_max_7cf53 : MethodName := ⟨RJ9, "max", "(II)I"⟩
abbrev cJ9_min_7cf53 : ByteArray := prog_10_method_69_code
def yJ9_min_7cf53 : MethodName := ⟨RJ9, "min", "(II)I"⟩
def RJ10 : String := "java/lang/System"
def TJ10 : u_T := fun k => match k with
  | _ => ("", "", "", false)
def tyJ10 : Nat → FieldType := fun k => match k with
  | _ => .int
abbrev wsJ100 : List Cond := u_ws RJ10 TJ10 0
theorem nmJ10 : ∀ a, a < 0 → ∀ b, b < 0 → a ≠ b → (TJ10 a).2.1 ≠ (TJ10 b).2.1 := by decide +kernel
theorem tyJ10_ok : ∀ k, k < 0 → parseFieldDescriptor (TJ10 k).2.2.1 = some (tyJ10 k) := by decide +kernel
def RJ7 : String := "java/util/Arrays"
def TJ7 : u_T := fun k => match k with
  | _ => ("", "", "", false)
def tyJ7 : Nat → FieldType := fun k => match k with
  | _ => .int
abbrev wsJ70 : List Cond := u_ws RJ7 TJ7 0
theorem nmJ7 : ∀ a, a < 0 → ∀ b, b < 0 → a ≠ b → (TJ7 a).2.1 ≠ (TJ7 b).2.1 := by decide +kernel
theorem tyJ7_ok : ∀ k, k < 0 → parseFieldDescriptor (TJ7 k).2.2.1 = some (tyJ7 k) := by decide +kernel
abbrev cJ7_fill_53178 : ByteArray := prog_12_method_103_code
def yJ7_fill_53178 : MethodName := ⟨RJ7, "fill", "([II)V"⟩
def RL : String := "ReplicaSessionsLaw"
abbrev cL_law : ByteArray := code
def yL_law : MethodName := ⟨RL, "law", "([I)Z"⟩
abbrev vwCl : List vw_C := [(RX0, TX0, 3), (RX1, TX1, 4), (RX2, TX2, 5), (RX3, TX3, 11), (RX4, TX4, 7), (RX5, TX5, 6), (RX6, TX6, 5), (RX7, TX7, 11)]
end
section
/-! words of the tables by their places (mine, by program) -/
def BW : List Cond := lw_tbl.filter goodWord
theorem bw_at {w : Cond} (i : Nat) (h : lw_tbl[i]? = some w) (g : goodWord w = true) : w ∈ BW := List.mem_filter.mpr ⟨List.mem_of_getElem? h, g⟩
theorem bw_sub (ws : List Cond) (ps : List Nat) (hp : ws = ps.filterMap (fun i => lw_tbl[i]?)) (h : ws.all goodWord = true) : ∀ w ∈ ws, w ∈ BW := by
  intro w hw
  have h1 := List.all_eq_true.mp h w hw
  rw [hp] at hw
  obtain ⟨i, -, hi⟩ := List.mem_filterMap.mp hw
  exact List.mem_filter.mpr ⟨List.mem_of_getElem? hi, h1⟩
theorem bw_tbl : ∀ w ∈ BW, w ∈ lw_tbl := fun w h => (List.mem_filter.mp h).1
theorem bw_good : ∀ w ∈ BW, goodWord w = true := fun w h => (List.mem_filter.mp h).2
theorem b_se_yX0_stateAfterOldest : Cond.selects RX0 yX0_stateAfterOldest yX0_stateAfterOldest ∈ BW := bw_at 0 (by decide +kernel) (by first | rfl | decide +kernel)
theorem b_se_yX6_startReplica : Cond.selects RX6 yX6_startReplica yX6_startReplica ∈ BW := bw_at 1 (by decide +kernel) (by first | rfl | decide +kernel)
theorem b_se_yX6_removeReplica : Cond.selects RX6 yX6_removeReplica yX6_removeReplica ∈ BW := bw_at 2 (by decide +kernel) (by first | rfl | decide +kernel)
theorem b_se_yX6_changeRate : Cond.selects RX6 yX6_changeRate yX6_changeRate ∈ BW := bw_at 3 (by decide +kernel) (by first | rfl | decide +kernel)
theorem b_se_yX6_changeStopped : Cond.selects RX6 yX6_changeStopped yX6_changeStopped ∈ BW := bw_at 4 (by decide +kernel) (by first | rfl | decide +kernel)
theorem b_se_yX6_setBack : Cond.selects RX6 yX6_setBack yX6_setBack ∈ BW := bw_at 5 (by decide +kernel) (by first | rfl | decide +kernel)
theorem b_se_yX6_letTicksPass : Cond.selects RX6 yX6_letTicksPass yX6_letTicksPass ∈ BW := bw_at 6 (by decide +kernel) (by first | rfl | decide +kernel)
theorem b_se_yX6_startSession : Cond.selects RX6 yX6_startSession yX6_startSession ∈ BW := bw_at 7 (by decide +kernel) (by first | rfl | decide +kernel)
theorem b_se_yX6_endSession : Cond.selects RX6 yX6_endSession yX6_endSession ∈ BW := bw_at 8 (by decide +kernel) (by first | rfl | decide +kernel)
theorem b_se_yX6_changeHome : Cond.selects RX6 yX6_changeHome yX6_changeHome ∈ BW := bw_at 9 (by decide +kernel) (by first | rfl | decide +kernel)
theorem b_se_yX6_changeOptions : Cond.selects RX6 yX6_changeOptions yX6_changeOptions ∈ BW := bw_at 10 (by decide +kernel) (by first | rfl | decide +kernel)
theorem b_se_yX6_handMarks : Cond.selects RX6 yX6_handMarks yX6_handMarks ∈ BW := bw_at 11 (by decide +kernel) (by first | rfl | decide +kernel)
theorem b_se_yX6_addWrite : Cond.selects RX6 yX6_addWrite yX6_addWrite ∈ BW := bw_at 12 (by decide +kernel) (by first | rfl | decide +kernel)
theorem b_se_yX6_readAtHome : Cond.selects RX6 yX6_readAtHome yX6_readAtHome ∈ BW := bw_at 13 (by decide +kernel) (by first | rfl | decide +kernel)
theorem b_se_yX4_neededPosition : Cond.selects RX4 yX4_neededPosition yX4_neededPosition ∈ BW := bw_at 14 (by decide +kernel) (by first | rfl | decide +kernel)
theorem b_se_yX4_countAnswer : Cond.selects RX4 yX4_countAnswer yX4_countAnswer ∈ BW := bw_at 15 (by decide +kernel) (by first | rfl | decide +kernel)
theorem b_se_yX6_readAtPlace : Cond.selects RX6 yX6_readAtPlace yX6_readAtPlace ∈ BW := bw_at 16 (by decide +kernel) (by first | rfl | decide +kernel)
theorem b_se_yX5_codeHere : Cond.selects RX5 yX5_codeHere yX5_codeHere ∈ BW := bw_at 17 (by decide +kernel) (by first | rfl | decide +kernel)
theorem b_se_yX5_readDigit : Cond.selects RX5 yX5_readDigit yX5_readDigit ∈ BW := bw_at 18 (by decide +kernel) (by first | rfl | decide +kernel)
theorem b_se_yX5_takeDigit : Cond.selects RX5 yX5_takeDigit yX5_takeDigit ∈ BW := bw_at 19 (by decide +kernel) (by first | rfl | decide +kernel)
theorem b_se_yX5_addArgument : Cond.selects RX5 yX5_addArgument yX5_addArgument ∈ BW := bw_at 20 (by decide +kernel) (by first | rfl | decide +kernel)
theorem b_se_yX5_readNumber : Cond.selects RX5 yX5_readNumber yX5_readNumber ∈ BW := bw_at 21 (by decide +kernel) (by first | rfl | decide +kernel)
theorem b_se_yX5_readPlace : Cond.selects RX5 yX5_readPlace yX5_readPlace ∈ BW := bw_at 22 (by decide +kernel) (by first | rfl | decide +kernel)
theorem b_se_yX6_runCommand : Cond.selects RX6 yX6_runCommand yX6_runCommand ∈ BW := bw_at 23 (by decide +kernel) (by first | rfl | decide +kernel)
theorem b_se_yX7_record : Cond.selects RX7 yX7_record yX7_record ∈ BW := bw_at 24 (by decide +kernel) (by first | rfl | decide +kernel)
theorem b_se_yX7_isPlace : Cond.selects RX7 yX7_isPlace yX7_isPlace ∈ BW := bw_at 25 (by decide +kernel) (by first | rfl | decide +kernel)
theorem b_se_yX7_isReplica : Cond.selects RX7 yX7_isReplica yX7_isReplica ∈ BW := bw_at 26 (by decide +kernel) (by first | rfl | decide +kernel)
theorem b_se_yX7_ofReplica : Cond.selects RX7 yX7_ofReplica yX7_ofReplica ∈ BW := bw_at 27 (by decide +kernel) (by first | rfl | decide +kernel)
theorem b_se_yX7_layReplica : Cond.selects RX7 yX7_layReplica yX7_layReplica ∈ BW := bw_at 28 (by decide +kernel) (by first | rfl | decide +kernel)
theorem b_se_yX7_at : Cond.selects RX7 yX7_at yX7_at ∈ BW := bw_at 29 (by decide +kernel) (by first | rfl | decide +kernel)
theorem b_se_yX7_homes : Cond.selects RX7 yX7_homes yX7_homes ∈ BW := bw_at 30 (by decide +kernel) (by first | rfl | decide +kernel)
theorem b_se_yX7_ofSession : Cond.selects RX7 yX7_ofSession yX7_ofSession ∈ BW := bw_at 31 (by decide +kernel) (by first | rfl | decide +kernel)
theorem b_se_yX7_laySession : Cond.selects RX7 yX7_laySession yX7_laySession ∈ BW := bw_at 32 (by decide +kernel) (by first | rfl | decide +kernel)
theorem b_se_yX7_whyNotJump : Cond.selects RX7 yX7_whyNotJump yX7_whyNotJump ∈ BW := bw_at 33 (by decide +kernel) (by first | rfl | decide +kernel)
theorem b_se_yX7_jumps : Cond.selects RX7 yX7_jumps yX7_jumps ∈ BW := bw_at 34 (by decide +kernel) (by first | rfl | decide +kernel)
theorem b_se_yX7_ticks : Cond.selects RX7 yX7_ticks yX7_ticks ∈ BW := bw_at 35 (by decide +kernel) (by first | rfl | decide +kernel)
theorem b_se_yX7_atBehind : Cond.selects RX7 yX7_atBehind yX7_atBehind ∈ BW := bw_at 36 (by decide +kernel) (by first | rfl | decide +kernel)
theorem b_se_yX7_ofWrite : Cond.selects RX7 yX7_ofWrite yX7_ofWrite ∈ BW := bw_at 37 (by decide +kernel) (by first | rfl | decide +kernel)
theorem b_se_yX7_versionAt : Cond.selects RX7 yX7_versionAt yX7_versionAt ∈ BW := bw_at 38 (by decide +kernel) (by first | rfl | decide +kernel)
theorem b_se_yX7_valueOf : Cond.selects RX7 yX7_valueOf yX7_valueOf ∈ BW := bw_at 39 (by decide +kernel) (by first | rfl | decide +kernel)
theorem b_se_yX7_isSession : Cond.selects RX7 yX7_isSession yX7_isSession ∈ BW := bw_at 40 (by decide +kernel) (by first | rfl | decide +kernel)
theorem b_se_yX7_moves : Cond.selects RX7 yX7_moves yX7_moves ∈ BW := bw_at 41 (by decide +kernel) (by first | rfl | decide +kernel)
theorem b_se_yX7_whyNotHand : Cond.selects RX7 yX7_whyNotHand yX7_whyNotHand ∈ BW := bw_at 42 (by decide +kernel) (by first | rfl | decide +kernel)
theorem b_se_yX7_hands : Cond.selects RX7 yX7_hands yX7_hands ∈ BW := bw_at 43 (by decide +kernel) (by first | rfl | decide +kernel)
theorem b_se_yX7_need : Cond.selects RX7 yX7_need yX7_need ∈ BW := bw_at 44 (by decide +kernel) (by first | rfl | decide +kernel)
theorem b_se_yX7_has : Cond.selects RX7 yX7_has yX7_has ∈ BW := bw_at 45 (by decide +kernel) (by first | rfl | decide +kernel)
theorem b_se_yX7_whyNotWrite : Cond.selects RX7 yX7_whyNotWrite yX7_whyNotWrite ∈ BW := bw_at 46 (by decide +kernel) (by first | rfl | decide +kernel)
theorem b_se_yX7_writes : Cond.selects RX7 yX7_writes yX7_writes ∈ BW := bw_at 47 (by decide +kernel) (by first | rfl | decide +kernel)
theorem b_se_yX7_whyNotRead : Cond.selects RX7 yX7_whyNotRead yX7_whyNotRead ∈ BW := bw_at 48 (by decide +kernel) (by first | rfl | decide +kernel)
theorem b_se_yX7_waitsAtHome : Cond.selects RX7 yX7_waitsAtHome yX7_waitsAtHome ∈ BW := bw_at 49 (by decide +kernel) (by first | rfl | decide +kernel)
theorem b_se_yX7_waitOf : Cond.selects RX7 yX7_waitOf yX7_waitOf ∈ BW := bw_at 50 (by decide +kernel) (by first | rfl | decide +kernel)
theorem b_se_yX7_needed : Cond.selects RX7 yX7_needed yX7_needed ∈ BW := bw_at 51 (by decide +kernel) (by first | rfl | decide +kernel)
theorem b_se_yX7_reads : Cond.selects RX7 yX7_reads yX7_reads ∈ BW := bw_at 52 (by decide +kernel) (by first | rfl | decide +kernel)
theorem b_se_yX7_answer : Cond.selects RX7 yX7_answer yX7_answer ∈ BW := bw_at 53 (by decide +kernel) (by first | rfl | decide +kernel)
theorem b_se_yX7_readCommand : Cond.selects RX7 yX7_readCommand yX7_readCommand ∈ BW := bw_at 54 (by decide +kernel) (by first | rfl | decide +kernel)
theorem b_se_yX7_letter : Cond.selects RX7 yX7_letter yX7_letter ∈ BW := bw_at 55 (by decide +kernel) (by first | rfl | decide +kernel)
theorem b_se_yX7_wants : Cond.selects RX7 yX7_wants yX7_wants ∈ BW := bw_at 56 (by decide +kernel) (by first | rfl | decide +kernel)
theorem b_se_yX7_number : Cond.selects RX7 yX7_number yX7_number ∈ BW := bw_at 57 (by decide +kernel) (by first | rfl | decide +kernel)
theorem b_se_yX7_digit : Cond.selects RX7 yX7_digit yX7_digit ∈ BW := bw_at 58 (by decide +kernel) (by first | rfl | decide +kernel)
theorem b_se_yX7_place : Cond.selects RX7 yX7_place yX7_place ∈ BW := bw_at 59 (by decide +kernel) (by first | rfl | decide +kernel)
theorem b_se_yX7_executeOne : Cond.selects RX7 yX7_executeOne yX7_executeOne ∈ BW := bw_at 60 (by decide +kernel) (by first | rfl | decide +kernel)
theorem b_in_L : Cond.initialized RL ∈ BW := bw_at 61 (by decide +kernel) (by first | rfl | decide +kernel)
theorem b_in_X6 : Cond.initialized RX6 ∈ BW := bw_at 62 (by decide +kernel) (by first | rfl | decide +kernel)
theorem b_in_X4 : Cond.initialized RX4 ∈ BW := bw_at 63 (by decide +kernel) (by first | rfl | decide +kernel)
theorem b_in_X1 : Cond.initialized RX1 ∈ BW := bw_at 64 (by decide +kernel) (by first | rfl | decide +kernel)
theorem b_in_X2 : Cond.initialized RX2 ∈ BW := bw_at 65 (by decide +kernel) (by first | rfl | decide +kernel)
theorem b_in_X3 : Cond.initialized RX3 ∈ BW := bw_at 66 (by decide +kernel) (by first | rfl | decide +kernel)
theorem b_in_X0 : Cond.initialized RX0 ∈ BW := bw_at 67 (by decide +kernel) (by first | rfl | decide +kernel)
theorem b_in_X5 : Cond.initialized RX5 ∈ BW := bw_at 68 (by decide +kernel) (by first | rfl | decide +kernel)
theorem b_in_X7 : Cond.initialized RX7 ∈ BW := bw_at 69 (by decide +kernel) (by first | rfl | decide +kernel)
theorem b_in_J9 : Cond.initialized RJ9 ∈ BW := bw_at 70 (by decide +kernel) (by first | rfl | decide +kernel)
theorem b_in_J10 : Cond.initialized RJ10 ∈ BW := bw_at 71 (by decide +kernel) (by first | rfl | decide +kernel)
theorem b_in_J7 : Cond.initialized RJ7 ∈ BW := bw_at 72 (by decide +kernel) (by first | rfl | decide +kernel)
theorem b_cl_L_7 : Cond.classLink RL 7 RX6 ∈ BW := bw_at 73 (by decide +kernel) (by first | rfl | decide +kernel)
theorem b_is_X6 : Cond.instantiable RX6 5 ∈ BW := bw_at 74 (by decide +kernel) (by first | rfl | decide +kernel)
theorem b_ml_L_9 : Cond.methodLink RL 9 yX6_init ∈ BW := bw_at 75 (by decide +kernel) (by first | rfl | decide +kernel)
theorem b_in_yX6_init : Cond.instanceMethod yX6_init ∈ BW := bw_at 76 (by decide +kernel) (by first | rfl | decide +kernel)
theorem b_co_yX6_init : Cond.code yX6_init cX6_init 1 none ∈ BW := bw_at 77 (by decide +kernel) (by first | rfl | decide +kernel)
theorem b_ml_X6_3 : Cond.methodLink RX6 3 objectInit ∈ BW := bw_at 78 (by decide +kernel) (by first | rfl | decide +kernel)
theorem b_in_objectInit : Cond.instanceMethod objectInit ∈ BW := bw_at 79 (by decide +kernel) (by first | rfl | decide +kernel)
theorem b_co_objectInit : Cond.code objectInit ⟨#[0xb1]⟩ 1 none ∈ BW := bw_at 80 (by decide +kernel) (by first | rfl | decide +kernel)
theorem b_cl_X6_9 : Cond.classLink RX6 9 RX4 ∈ BW := bw_at 81 (by decide +kernel) (by first | rfl | decide +kernel)
theorem b_is_X4 : Cond.instantiable RX4 7 ∈ BW := bw_at 82 (by decide +kernel) (by first | rfl | decide +kernel)
theorem b_ml_X6_11 : Cond.methodLink RX6 11 yX4_init ∈ BW := bw_at 83 (by decide +kernel) (by first | rfl | decide +kernel)
theorem b_in_yX4_init : Cond.instanceMethod yX4_init ∈ BW := bw_at 84 (by decide +kernel) (by first | rfl | decide +kernel)
theorem b_co_yX4_init : Cond.code yX4_init cX4_init 2 none ∈ BW := bw_at 85 (by decide +kernel) (by first | rfl | decide +kernel)
theorem b_ml_X4_3 : Cond.methodLink RX4 3 objectInit ∈ BW := bw_at 86 (by decide +kernel) (by first | rfl | decide +kernel)
theorem b_cl_X4_9 : Cond.classLink RX4 9 RX1 ∈ BW := bw_at 87 (by decide +kernel) (by first | rfl | decide +kernel)
theorem b_is_X1 : Cond.instantiable RX1 4 ∈ BW := bw_at 88 (by decide +kernel) (by first | rfl | decide +kernel)
theorem nest_X4_11 : Cond.methodLinkNest RX4 11 yX1_init RX6 ∈ lw_tbl := List.mem_of_getElem? (i := 89) (by decide +kernel)
theorem b_in_yX1_init : Cond.instanceMethod yX1_init ∈ BW := bw_at 90 (by decide +kernel) (by first | rfl | decide +kernel)
theorem b_co_yX1_init : Cond.code yX1_init cX1_init 1 none ∈ BW := bw_at 91 (by decide +kernel) (by first | rfl | decide +kernel)
theorem b_ml_X1_3 : Cond.methodLink RX1 3 objectInit ∈ BW := bw_at 92 (by decide +kernel) (by first | rfl | decide +kernel)
theorem b_fl_X1_9 : Cond.fieldLink RX1 9 RX1 "count" "I" ∈ BW := bw_at 93 (by decide +kernel) (by first | rfl | decide +kernel)
theorem b_fl_X6_89 : Cond.fieldLink RX6 89 RX1 "count" "I" ∈ BW := bw_at 94 (by decide +kernel) (by first | rfl | decide +kernel)
theorem b_fl_X4_74 : Cond.fieldLink RX4 74 RX1 "count" "I" ∈ BW := bw_at 95 (by decide +kernel) (by first | rfl | decide +kernel)
theorem b_fl_X1_15 : Cond.fieldLink RX1 15 RX1 "keys" "[I" ∈ BW := bw_at 96 (by decide +kernel) (by first | rfl | decide +kernel)
theorem b_fl_X1_19 : Cond.fieldLink RX1 19 RX1 "values" "[I" ∈ BW := bw_at 97 (by decide +kernel) (by first | rfl | decide +kernel)
theorem b_fl_X1_22 : Cond.fieldLink RX1 22 RX1 "writers" "[I" ∈ BW := bw_at 98 (by decide +kernel) (by first | rfl | decide +kernel)
theorem b_ac_int : Cond.arrayClass .int ∈ BW := bw_at 108 (by decide +kernel) (by first | rfl | decide +kernel)
theorem b_cl_X4_18 : Cond.classLink RX4 18 RX2 ∈ BW := bw_at 109 (by decide +kernel) (by first | rfl | decide +kernel)
theorem b_ao_X2 : Cond.arrayOver (.object RX2) ∈ lw_tbl := List.mem_of_getElem? (i := 110) (by decide +kernel)
theorem b_cl_X4_24 : Cond.classLink RX4 24 RX3 ∈ BW := bw_at 111 (by decide +kernel) (by first | rfl | decide +kernel)
theorem b_ao_X3 : Cond.arrayOver (.object RX3) ∈ lw_tbl := List.mem_of_getElem? (i := 112) (by decide +kernel)
theorem b_is_X2 : Cond.instantiable RX2 5 ∈ BW := bw_at 113 (by decide +kernel) (by first | rfl | decide +kernel)
theorem nest_X4_43 : Cond.methodLinkNest RX4 43 yX2_init RX6 ∈ lw_tbl := List.mem_of_getElem? (i := 114) (by decide +kernel)
theorem b_in_yX2_init : Cond.instanceMethod yX2_init ∈ BW := bw_at 115 (by decide +kernel) (by first | rfl | decide +kernel)
theorem b_co_yX2_init : Cond.code yX2_init cX2_init 1 none ∈ BW := bw_at 116 (by decide +kernel) (by first | rfl | decide +kernel)
theorem b_ml_X2_3 : Cond.methodLink RX2 3 objectInit ∈ BW := bw_at 117 (by decide +kernel) (by first | rfl | decide +kernel)
theorem b_fl_X2_9 : Cond.fieldLink RX2 9 RX2 "isThere" "Z" ∈ BW := bw_at 118 (by decide +kernel) (by first | rfl | decide +kernel)
theorem b_fl_X4_49 : Cond.fieldLink RX4 49 RX2 "isThere" "Z" ∈ BW := bw_at 119 (by decide +kernel) (by first | rfl | decide +kernel)
theorem b_fl_X6_249 : Cond.fieldLink RX6 249 RX2 "isThere" "Z" ∈ BW := bw_at 120 (by decide +kernel) (by first | rfl | decide +kernel)
theorem b_fl_X2_15 : Cond.fieldLink RX2 15 RX2 "position" "I" ∈ BW := bw_at 121 (by decide +kernel) (by first | rfl | decide +kernel)
theorem b_fl_X4_77 : Cond.fieldLink RX4 77 RX2 "position" "I" ∈ BW := bw_at 122 (by decide +kernel) (by first | rfl | decide +kernel)
theorem b_fl_X6_255 : Cond.fieldLink RX6 255 RX2 "position" "I" ∈ BW := bw_at 123 (by decide +kernel) (by first | rfl | decide +kernel)
theorem b_fl_X2_19 : Cond.fieldLink RX2 19 RX2 "rate" "I" ∈ BW := bw_at 124 (by decide +kernel) (by first | rfl | decide +kernel)
theorem b_fl_X6_73 : Cond.fieldLink RX6 73 RX2 "rate" "I" ∈ BW := bw_at 125 (by decide +kernel) (by first | rfl | decide +kernel)
theorem b_fl_X2_22 : Cond.fieldLink RX2 22 RX2 "isStopped" "Z" ∈ BW := bw_at 126 (by decide +kernel) (by first | rfl | decide +kernel)
theorem b_fl_X6_79 : Cond.fieldLink RX6 79 RX2 "isStopped" "Z" ∈ BW := bw_at 127 (by decide +kernel) (by first | rfl | decide +kernel)
theorem b_fl_X2_25 : Cond.fieldLink RX2 25 RX2 "answerCount" "I" ∈ BW := bw_at 128 (by decide +kernel) (by first | rfl | decide +kernel)
theorem b_fl_X6_125 : Cond.fieldLink RX6 125 RX2 "answerCount" "I" ∈ BW := bw_at 129 (by decide +kernel) (by first | rfl | decide +kernel)
theorem b_fl_X4_116 : Cond.fieldLink RX4 116 RX2 "answerCount" "I" ∈ BW := bw_at 130 (by decide +kernel) (by first | rfl | decide +kernel)
theorem b_is_X3 : Cond.instantiable RX3 11 ∈ BW := bw_at 142 (by decide +kernel) (by first | rfl | decide +kernel)
theorem nest_X4_44 : Cond.methodLinkNest RX4 44 yX3_init RX6 ∈ lw_tbl := List.mem_of_getElem? (i := 143) (by decide +kernel)
theorem b_in_yX3_init : Cond.instanceMethod yX3_init ∈ BW := bw_at 144 (by decide +kernel) (by first | rfl | decide +kernel)
theorem b_co_yX3_init : Cond.code yX3_init cX3_init 1 none ∈ BW := bw_at 145 (by decide +kernel) (by first | rfl | decide +kernel)
theorem b_ml_X3_3 : Cond.methodLink RX3 3 objectInit ∈ BW := bw_at 146 (by decide +kernel) (by first | rfl | decide +kernel)
theorem b_fl_X3_9 : Cond.fieldLink RX3 9 RX3 "isOpen" "Z" ∈ BW := bw_at 147 (by decide +kernel) (by first | rfl | decide +kernel)
theorem b_fl_X4_53 : Cond.fieldLink RX4 53 RX3 "isOpen" "Z" ∈ BW := bw_at 148 (by decide +kernel) (by first | rfl | decide +kernel)
theorem b_fl_X6_268 : Cond.fieldLink RX6 268 RX3 "isOpen" "Z" ∈ BW := bw_at 149 (by decide +kernel) (by first | rfl | decide +kernel)
theorem b_fl_X3_15 : Cond.fieldLink RX3 15 RX3 "home" "I" ∈ BW := bw_at 150 (by decide +kernel) (by first | rfl | decide +kernel)
theorem b_fl_X4_71 : Cond.fieldLink RX4 71 RX3 "home" "I" ∈ BW := bw_at 151 (by decide +kernel) (by first | rfl | decide +kernel)
theorem b_fl_X6_151 : Cond.fieldLink RX6 151 RX3 "home" "I" ∈ BW := bw_at 152 (by decide +kernel) (by first | rfl | decide +kernel)
theorem b_fl_X3_19 : Cond.fieldLink RX3 19 RX3 "options" "I" ∈ BW := bw_at 153 (by decide +kernel) (by first | rfl | decide +kernel)
theorem b_fl_X6_156 : Cond.fieldLink RX6 156 RX3 "options" "I" ∈ BW := bw_at 154 (by decide +kernel) (by first | rfl | decide +kernel)
theorem b_fl_X3_22 : Cond.fieldLink RX3 22 RX3 "bound" "I" ∈ BW := bw_at 155 (by decide +kernel) (by first | rfl | decide +kernel)
theorem b_fl_X6_159 : Cond.fieldLink RX6 159 RX3 "bound" "I" ∈ BW := bw_at 156 (by decide +kernel) (by first | rfl | decide +kernel)
theorem b_fl_X3_25 : Cond.fieldLink RX3 25 RX3 "ownMark" "I" ∈ BW := bw_at 157 (by decide +kernel) (by first | rfl | decide +kernel)
theorem b_fl_X6_162 : Cond.fieldLink RX6 162 RX3 "ownMark" "I" ∈ BW := bw_at 158 (by decide +kernel) (by first | rfl | decide +kernel)
theorem b_fl_X3_28 : Cond.fieldLink RX3 28 RX3 "seenMark" "I" ∈ BW := bw_at 159 (by decide +kernel) (by first | rfl | decide +kernel)
theorem b_fl_X6_165 : Cond.fieldLink RX6 165 RX3 "seenMark" "I" ∈ BW := bw_at 160 (by decide +kernel) (by first | rfl | decide +kernel)
theorem b_fl_X3_31 : Cond.fieldLink RX3 31 RX3 "readCount" "I" ∈ BW := bw_at 161 (by decide +kernel) (by first | rfl | decide +kernel)
theorem b_fl_X6_171 : Cond.fieldLink RX6 171 RX3 "readCount" "I" ∈ BW := bw_at 162 (by decide +kernel) (by first | rfl | decide +kernel)
theorem b_fl_X3_34 : Cond.fieldLink RX3 34 RX3 "undoingReads" "I" ∈ BW := bw_at 163 (by decide +kernel) (by first | rfl | decide +kernel)
theorem b_fl_X6_174 : Cond.fieldLink RX6 174 RX3 "undoingReads" "I" ∈ BW := bw_at 164 (by decide +kernel) (by first | rfl | decide +kernel)
theorem b_fl_X3_37 : Cond.fieldLink RX3 37 RX3 "readsGoneBack" "I" ∈ BW := bw_at 165 (by decide +kernel) (by first | rfl | decide +kernel)
theorem b_fl_X6_177 : Cond.fieldLink RX6 177 RX3 "readsGoneBack" "I" ∈ BW := bw_at 166 (by decide +kernel) (by first | rfl | decide +kernel)
theorem b_fl_X3_40 : Cond.fieldLink RX3 40 RX3 "latestWrites" "[I" ∈ BW := bw_at 167 (by decide +kernel) (by first | rfl | decide +kernel)
theorem b_fl_X3_44 : Cond.fieldLink RX3 44 RX3 "greatestReads" "[I" ∈ BW := bw_at 168 (by decide +kernel) (by first | rfl | decide +kernel)
theorem b_fl_X4_12 : Cond.fieldLink RX4 12 RX4 "log" "LReplicaSessions$Log;" ∈ BW := bw_at 192 (by decide +kernel) (by first | rfl | decide +kernel)
theorem b_fl_X6_85 : Cond.fieldLink RX6 85 RX4 "log" "LReplicaSessions$Log;" ∈ BW := bw_at 193 (by decide +kernel) (by first | rfl | decide +kernel)
theorem b_fl_X4_20 : Cond.fieldLink RX4 20 RX4 "replicas" "[LReplicaSessions$Replica;" ∈ BW := bw_at 194 (by decide +kernel) (by first | rfl | decide +kernel)
theorem b_fl_X4_26 : Cond.fieldLink RX4 26 RX4 "sessions" "[LReplicaSessions$Session;" ∈ BW := bw_at 195 (by decide +kernel) (by first | rfl | decide +kernel)
theorem b_fl_X4_30 : Cond.fieldLink RX4 30 RX4 "primaryAnswers" "I" ∈ BW := bw_at 196 (by decide +kernel) (by first | rfl | decide +kernel)
theorem b_fl_X6_122 : Cond.fieldLink RX6 122 RX4 "primaryAnswers" "I" ∈ BW := bw_at 197 (by decide +kernel) (by first | rfl | decide +kernel)
theorem b_fl_X4_34 : Cond.fieldLink RX4 34 RX4 "latestPlace" "I" ∈ BW := bw_at 198 (by decide +kernel) (by first | rfl | decide +kernel)
theorem b_fl_X6_193 : Cond.fieldLink RX6 193 RX4 "latestPlace" "I" ∈ BW := bw_at 199 (by decide +kernel) (by first | rfl | decide +kernel)
theorem b_fl_X4_37 : Cond.fieldLink RX4 37 RX4 "latestVersion" "I" ∈ BW := bw_at 200 (by decide +kernel) (by first | rfl | decide +kernel)
theorem b_fl_X6_196 : Cond.fieldLink RX6 196 RX4 "latestVersion" "I" ∈ BW := bw_at 201 (by decide +kernel) (by first | rfl | decide +kernel)
theorem b_fl_X4_40 : Cond.fieldLink RX4 40 RX4 "latestTicks" "I" ∈ BW := bw_at 202 (by decide +kernel) (by first | rfl | decide +kernel)
theorem b_fl_X6_199 : Cond.fieldLink RX6 199 RX4 "latestTicks" "I" ∈ BW := bw_at 203 (by decide +kernel) (by first | rfl | decide +kernel)
theorem b_cl_X6_23 : Cond.classLink RX6 23 RX0 ∈ BW := bw_at 219 (by decide +kernel) (by first | rfl | decide +kernel)
theorem b_is_X0 : Cond.instantiable RX0 3 ∈ BW := bw_at 220 (by decide +kernel) (by first | rfl | decide +kernel)
theorem b_ml_X6_25 : Cond.methodLink RX6 25 yX0_init ∈ BW := bw_at 221 (by decide +kernel) (by first | rfl | decide +kernel)
theorem b_in_yX0_init : Cond.instanceMethod yX0_init ∈ BW := bw_at 222 (by decide +kernel) (by first | rfl | decide +kernel)
theorem b_co_yX0_init : Cond.code yX0_init cX0_init 2 none ∈ BW := bw_at 223 (by decide +kernel) (by first | rfl | decide +kernel)
theorem b_ml_X0_3 : Cond.methodLink RX0 3 objectInit ∈ BW := bw_at 224 (by decide +kernel) (by first | rfl | decide +kernel)
theorem b_cl_X0_11 : Cond.classLink RX0 11 RX4 ∈ BW := bw_at 225 (by decide +kernel) (by first | rfl | decide +kernel)
theorem b_ao_X4 : Cond.arrayOver (.object RX4) ∈ lw_tbl := List.mem_of_getElem? (i := 226) (by decide +kernel)
theorem b_ml_X0_24 : Cond.methodLink RX0 24 yX4_init ∈ BW := bw_at 227 (by decide +kernel) (by first | rfl | decide +kernel)
theorem b_fl_X0_13 : Cond.fieldLink RX0 13 RX0 "states" "[LReplicaSessions$State;" ∈ BW := bw_at 228 (by decide +kernel) (by first | rfl | decide +kernel)
theorem b_fl_X0_17 : Cond.fieldLink RX0 17 RX0 "oldest" "I" ∈ BW := bw_at 229 (by decide +kernel) (by first | rfl | decide +kernel)
theorem b_fl_X0_21 : Cond.fieldLink RX0 21 RX0 "count" "I" ∈ BW := bw_at 230 (by decide +kernel) (by first | rfl | decide +kernel)
theorem b_cl_X6_30 : Cond.classLink RX6 30 RX5 ∈ BW := bw_at 238 (by decide +kernel) (by first | rfl | decide +kernel)
theorem b_is_X5 : Cond.instantiable RX5 6 ∈ BW := bw_at 239 (by decide +kernel) (by first | rfl | decide +kernel)
theorem nest_X6_32 : Cond.methodLinkNest RX6 32 yX5_init RX6 ∈ lw_tbl := List.mem_of_getElem? (i := 240) (by decide +kernel)
theorem b_in_yX5_init : Cond.instanceMethod yX5_init ∈ BW := bw_at 241 (by decide +kernel) (by first | rfl | decide +kernel)
theorem b_co_yX5_init : Cond.code yX5_init cX5_init 1 none ∈ BW := bw_at 242 (by decide +kernel) (by first | rfl | decide +kernel)
theorem b_ml_X5_3 : Cond.methodLink RX5 3 objectInit ∈ BW := bw_at 243 (by decide +kernel) (by first | rfl | decide +kernel)
theorem b_fl_X5_9 : Cond.fieldLink RX5 9 RX5 "codes" "[I" ∈ BW := bw_at 244 (by decide +kernel) (by first | rfl | decide +kernel)
theorem b_fl_X5_15 : Cond.fieldLink RX5 15 RX5 "count" "I" ∈ BW := bw_at 245 (by decide +kernel) (by first | rfl | decide +kernel)
theorem b_fl_X5_19 : Cond.fieldLink RX5 19 RX5 "at" "I" ∈ BW := bw_at 246 (by decide +kernel) (by first | rfl | decide +kernel)
theorem b_fl_X5_22 : Cond.fieldLink RX5 22 RX5 "letter" "I" ∈ BW := bw_at 247 (by decide +kernel) (by first | rfl | decide +kernel)
theorem b_fl_X6_287 : Cond.fieldLink RX6 287 RX5 "letter" "I" ∈ BW := bw_at 248 (by decide +kernel) (by first | rfl | decide +kernel)
theorem b_fl_X5_25 : Cond.fieldLink RX5 25 RX5 "arguments" "[I" ∈ BW := bw_at 249 (by decide +kernel) (by first | rfl | decide +kernel)
theorem b_fl_X5_28 : Cond.fieldLink RX5 28 RX5 "argumentCount" "I" ∈ BW := bw_at 250 (by decide +kernel) (by first | rfl | decide +kernel)
theorem b_fl_X6_12 : Cond.fieldLink RX6 12 RX6 "now" "LReplicaSessions$State;" ∈ BW := bw_at 264 (by decide +kernel) (by first | rfl | decide +kernel)
theorem b_fl_X6_16 : Cond.fieldLink RX6 16 RX6 "saved" "LReplicaSessions$State;" ∈ BW := bw_at 265 (by decide +kernel) (by first | rfl | decide +kernel)
theorem b_fl_X6_19 : Cond.fieldLink RX6 19 RX6 "isSaved" "Z" ∈ BW := bw_at 266 (by decide +kernel) (by first | rfl | decide +kernel)
theorem b_fl_X6_26 : Cond.fieldLink RX6 26 RX6 "history" "LReplicaSessions$History;" ∈ BW := bw_at 267 (by decide +kernel) (by first | rfl | decide +kernel)
theorem b_fl_X6_33 : Cond.fieldLink RX6 33 RX6 "text" "LReplicaSessions$Text;" ∈ BW := bw_at 268 (by decide +kernel) (by first | rfl | decide +kernel)
theorem b_ml_L_13 : Cond.methodLink RL 13 yX6_addReplica ∈ BW := bw_at 280 (by decide +kernel) (by first | rfl | decide +kernel)
theorem b_in_yX6_addReplica : Cond.instanceMethod yX6_addReplica ∈ BW := bw_at 281 (by decide +kernel) (by first | rfl | decide +kernel)
theorem b_se_yX6_addReplica : Cond.selects RX6 yX6_addReplica yX6_addReplica ∈ BW := bw_at 282 (by decide +kernel) (by first | rfl | decide +kernel)
theorem b_co_yX6_addReplica : Cond.code yX6_addReplica cX6_addReplica 3 (some .int) ∈ BW := bw_at 283 (by decide +kernel) (by first | rfl | decide +kernel)
theorem b_ml_X6_37 : Cond.methodLink RX6 37 yX0_prepare ∈ BW := bw_at 284 (by decide +kernel) (by first | rfl | decide +kernel)
theorem b_in_yX0_prepare : Cond.instanceMethod yX0_prepare ∈ BW := bw_at 285 (by decide +kernel) (by first | rfl | decide +kernel)
theorem b_se_yX0_prepare : Cond.selects RX0 yX0_prepare yX0_prepare ∈ BW := bw_at 286 (by decide +kernel) (by first | rfl | decide +kernel)
theorem b_co_yX0_prepare : Cond.code yX0_prepare cX0_prepare 3 none ∈ BW := bw_at 287 (by decide +kernel) (by first | rfl | decide +kernel)
theorem b_ml_X0_25 : Cond.methodLink RX0 25 yX0_stateAfterOldest ∈ BW := bw_at 288 (by decide +kernel) (by first | rfl | decide +kernel)
theorem b_in_yX0_stateAfterOldest : Cond.instanceMethod yX0_stateAfterOldest ∈ BW := bw_at 290 (by decide +kernel) (by first | rfl | decide +kernel)
theorem b_co_yX0_stateAfterOldest : Cond.code yX0_stateAfterOldest cX0_stateAfterOldest 2 (some (.object "ReplicaSessions$State")) ∈ BW := bw_at 291 (by decide +kernel) (by first | rfl | decide +kernel)
theorem b_ml_X0_37 : Cond.methodLink RX0 37 yJ9_floorMod_7cf53 ∈ BW := bw_at 292 (by decide +kernel) (by first | rfl | decide +kernel)
theorem b_st_yJ9_floorMod_7cf53 : Cond.static yJ9_floorMod_7cf53 ∈ BW := bw_at 293 (by decide +kernel) (by first | rfl | decide +kernel)
theorem b_co_yJ9_floorMod_7cf53 : Cond.code yJ9_floorMod_7cf53 cJ9_floorMod_7cf53 3 (some .int) ∈ BW := bw_at 294 (by decide +kernel) (by first | rfl | decide +kernel)
theorem b_ml_X0_29 : Cond.methodLink RX0 29 yX4_copyFrom ∈ BW := bw_at 295 (by decide +kernel) (by first | rfl | decide +kernel)
theorem b_in_yX4_copyFrom : Cond.instanceMethod yX4_copyFrom ∈ BW := bw_at 296 (by decide +kernel) (by first | rfl | decide +kernel)
theorem b_se_yX4_copyFrom : Cond.selects RX4 yX4_copyFrom yX4_copyFrom ∈ BW := bw_at 297 (by decide +kernel) (by first | rfl | decide +kernel)
theorem b_co_yX4_copyFrom : Cond.code yX4_copyFrom cX4_copyFrom 5 none ∈ BW := bw_at 298 (by decide +kernel) (by first | rfl | decide +kernel)
theorem b_ml_X4_119 : Cond.methodLink RX4 119 yX1_copyFrom ∈ BW := bw_at 299 (by decide +kernel) (by first | rfl | decide +kernel)
theorem b_in_yX1_copyFrom : Cond.instanceMethod yX1_copyFrom ∈ BW := bw_at 300 (by decide +kernel) (by first | rfl | decide +kernel)
theorem b_se_yX1_copyFrom : Cond.selects RX1 yX1_copyFrom yX1_copyFrom ∈ BW := bw_at 301 (by decide +kernel) (by first | rfl | decide +kernel)
theorem b_co_yX1_copyFrom : Cond.code yX1_copyFrom cX1_copyFrom 2 none ∈ BW := bw_at 302 (by decide +kernel) (by first | rfl | decide +kernel)
theorem b_ml_X1_39 : Cond.methodLink RX1 39 arraycopyName ∈ BW := bw_at 303 (by decide +kernel) (by first | rfl | decide +kernel)
theorem b_st_arraycopyName : Cond.static arraycopyName ∈ BW := bw_at 304 (by decide +kernel) (by first | rfl | decide +kernel)
theorem b_na_arraycopyName : Cond.native arraycopyName ∈ BW := bw_at 305 (by decide +kernel) (by first | rfl | decide +kernel)
theorem b_ml_X4_123 : Cond.methodLink RX4 123 yX2_copyFrom ∈ BW := bw_at 306 (by decide +kernel) (by first | rfl | decide +kernel)
theorem b_in_yX2_copyFrom : Cond.instanceMethod yX2_copyFrom ∈ BW := bw_at 307 (by decide +kernel) (by first | rfl | decide +kernel)
theorem b_se_yX2_copyFrom : Cond.selects RX2 yX2_copyFrom yX2_copyFrom ∈ BW := bw_at 308 (by decide +kernel) (by first | rfl | decide +kernel)
theorem b_co_yX2_copyFrom : Cond.code yX2_copyFrom cX2_copyFrom 2 none ∈ BW := bw_at 309 (by decide +kernel) (by first | rfl | decide +kernel)
theorem b_ml_X4_126 : Cond.methodLink RX4 126 yX3_copyFrom ∈ BW := bw_at 310 (by decide +kernel) (by first | rfl | decide +kernel)
theorem b_in_yX3_copyFrom : Cond.instanceMethod yX3_copyFrom ∈ BW := bw_at 311 (by decide +kernel) (by first | rfl | decide +kernel)
theorem b_se_yX3_copyFrom : Cond.selects RX3 yX3_copyFrom yX3_copyFrom ∈ BW := bw_at 312 (by decide +kernel) (by first | rfl | decide +kernel)
theorem b_co_yX3_copyFrom : Cond.code yX3_copyFrom cX3_copyFrom 2 none ∈ BW := bw_at 313 (by decide +kernel) (by first | rfl | decide +kernel)
theorem b_ml_X3_66 : Cond.methodLink RX3 66 arraycopyName ∈ BW := bw_at 314 (by decide +kernel) (by first | rfl | decide +kernel)
theorem b_ml_X6_41 : Cond.methodLink RX6 41 yX6_startReplica ∈ BW := bw_at 315 (by decide +kernel) (by first | rfl | decide +kernel)
theorem b_in_yX6_startReplica : Cond.instanceMethod yX6_startReplica ∈ BW := bw_at 317 (by decide +kernel) (by first | rfl | decide +kernel)
theorem b_co_yX6_startReplica : Cond.code yX6_startReplica cX6_startReplica 4 (some .int) ∈ BW := bw_at 318 (by decide +kernel) (by first | rfl | decide +kernel)
theorem b_ml_X6_107 : Cond.methodLink RX6 107 yX4_positionOf ∈ BW := bw_at 319 (by decide +kernel) (by first | rfl | decide +kernel)
theorem b_in_yX4_positionOf : Cond.instanceMethod yX4_positionOf ∈ BW := bw_at 320 (by decide +kernel) (by first | rfl | decide +kernel)
theorem b_se_yX4_positionOf : Cond.selects RX4 yX4_positionOf yX4_positionOf ∈ BW := bw_at 321 (by decide +kernel) (by first | rfl | decide +kernel)
theorem b_co_yX4_positionOf : Cond.code yX4_positionOf cX4_positionOf 3 (some .int) ∈ BW := bw_at 322 (by decide +kernel) (by first | rfl | decide +kernel)
theorem b_ml_X4_63 : Cond.methodLink RX4 63 yX4_findReplica ∈ BW := bw_at 323 (by decide +kernel) (by first | rfl | decide +kernel)
theorem b_in_yX4_findReplica : Cond.instanceMethod yX4_findReplica ∈ BW := bw_at 324 (by decide +kernel) (by first | rfl | decide +kernel)
theorem b_se_yX4_findReplica : Cond.selects RX4 yX4_findReplica yX4_findReplica ∈ BW := bw_at 325 (by decide +kernel) (by first | rfl | decide +kernel)
theorem b_co_yX4_findReplica : Cond.code yX4_findReplica cX4_findReplica 3 (some (.object "ReplicaSessions$Replica")) ∈ BW := bw_at 326 (by decide +kernel) (by first | rfl | decide +kernel)
theorem nest_X4_45 : Cond.methodLinkNest RX4 45 yX6_isWithin RX6 ∈ lw_tbl := List.mem_of_getElem? (i := 327) (by decide +kernel)
theorem b_st_yX6_isWithin : Cond.static yX6_isWithin ∈ BW := bw_at 328 (by decide +kernel) (by first | rfl | decide +kernel)
theorem b_co_yX6_isWithin : Cond.code yX6_isWithin cX6_isWithin 3 (some .boolean) ∈ BW := bw_at 329 (by decide +kernel) (by first | rfl | decide +kernel)
theorem b_ml_X6_189 : Cond.methodLink RX6 189 yX6_isWithin ∈ BW := bw_at 330 (by decide +kernel) (by first | rfl | decide +kernel)
theorem b_ml_X6_246 : Cond.methodLink RX6 246 yX4_takeFreeReplica ∈ BW := bw_at 331 (by decide +kernel) (by first | rfl | decide +kernel)
theorem b_in_yX4_takeFreeReplica : Cond.instanceMethod yX4_takeFreeReplica ∈ BW := bw_at 332 (by decide +kernel) (by first | rfl | decide +kernel)
theorem b_se_yX4_takeFreeReplica : Cond.selects RX4 yX4_takeFreeReplica yX4_takeFreeReplica ∈ BW := bw_at 333 (by decide +kernel) (by first | rfl | decide +kernel)
theorem b_co_yX4_takeFreeReplica : Cond.code yX4_takeFreeReplica cX4_takeFreeReplica 5 (some .int) ∈ BW := bw_at 334 (by decide +kernel) (by first | rfl | decide +kernel)
theorem b_ml_X4_56 : Cond.methodLink RX4 56 yX2_begin ∈ BW := bw_at 335 (by decide +kernel) (by first | rfl | decide +kernel)
theorem b_in_yX2_begin : Cond.instanceMethod yX2_begin ∈ BW := bw_at 336 (by decide +kernel) (by first | rfl | decide +kernel)
theorem b_se_yX2_begin : Cond.selects RX2 yX2_begin yX2_begin ∈ BW := bw_at 337 (by decide +kernel) (by first | rfl | decide +kernel)
theorem b_co_yX2_begin : Cond.code yX2_begin cX2_begin 3 none ∈ BW := bw_at 338 (by decide +kernel) (by first | rfl | decide +kernel)
theorem b_ml_X6_45 : Cond.methodLink RX6 45 yX0_keepUnlessError ∈ BW := bw_at 339 (by decide +kernel) (by first | rfl | decide +kernel)
theorem b_in_yX0_keepUnlessError : Cond.instanceMethod yX0_keepUnlessError ∈ BW := bw_at 340 (by decide +kernel) (by first | rfl | decide +kernel)
theorem b_se_yX0_keepUnlessError : Cond.selects RX0 yX0_keepUnlessError yX0_keepUnlessError ∈ BW := bw_at 341 (by decide +kernel) (by first | rfl | decide +kernel)
theorem b_co_yX0_keepUnlessError : Cond.code yX0_keepUnlessError cX0_keepUnlessError 2 (some .int) ∈ BW := bw_at 342 (by decide +kernel) (by first | rfl | decide +kernel)
theorem nest_X0_33 : Cond.methodLinkNest RX0 33 yX6_isError RX6 ∈ lw_tbl := List.mem_of_getElem? (i := 343) (by decide +kernel)
theorem b_st_yX6_isError : Cond.static yX6_isError ∈ BW := bw_at 344 (by decide +kernel) (by first | rfl | decide +kernel)
theorem b_co_yX6_isError : Cond.code yX6_isError cX6_isError 1 (some .boolean) ∈ BW := bw_at 345 (by decide +kernel) (by first | rfl | decide +kernel)
theorem b_ml_L_18 : Cond.methodLink RL 18 yX6_drop ∈ BW := bw_at 346 (by decide +kernel) (by first | rfl | decide +kernel)
theorem b_in_yX6_drop : Cond.instanceMethod yX6_drop ∈ BW := bw_at 347 (by decide +kernel) (by first | rfl | decide +kernel)
theorem b_se_yX6_drop : Cond.selects RX6 yX6_drop yX6_drop ∈ BW := bw_at 348 (by decide +kernel) (by first | rfl | decide +kernel)
theorem b_co_yX6_drop : Cond.code yX6_drop cX6_drop 2 (some .int) ∈ BW := bw_at 349 (by decide +kernel) (by first | rfl | decide +kernel)
theorem b_ml_X6_49 : Cond.methodLink RX6 49 yX6_removeReplica ∈ BW := bw_at 350 (by decide +kernel) (by first | rfl | decide +kernel)
theorem b_in_yX6_removeReplica : Cond.instanceMethod yX6_removeReplica ∈ BW := bw_at 352 (by decide +kernel) (by first | rfl | decide +kernel)
theorem b_co_yX6_removeReplica : Cond.code yX6_removeReplica cX6_removeReplica 3 (some .int) ∈ BW := bw_at 353 (by decide +kernel) (by first | rfl | decide +kernel)
theorem b_ml_X6_69 : Cond.methodLink RX6 69 yX4_findReplica ∈ BW := bw_at 354 (by decide +kernel) (by first | rfl | decide +kernel)
theorem b_ml_X6_252 : Cond.methodLink RX6 252 yX4_sendSessionsToPrimary ∈ BW := bw_at 355 (by decide +kernel) (by first | rfl | decide +kernel)
theorem b_in_yX4_sendSessionsToPrimary : Cond.instanceMethod yX4_sendSessionsToPrimary ∈ BW := bw_at 356 (by decide +kernel) (by first | rfl | decide +kernel)
theorem b_se_yX4_sendSessionsToPrimary : Cond.selects RX4 yX4_sendSessionsToPrimary yX4_sendSessionsToPrimary ∈ BW := bw_at 357 (by decide +kernel) (by first | rfl | decide +kernel)
theorem b_co_yX4_sendSessionsToPrimary : Cond.code yX4_sendSessionsToPrimary cX4_sendSessionsToPrimary 5 (some .int) ∈ BW := bw_at 358 (by decide +kernel) (by first | rfl | decide +kernel)
theorem b_ml_X4_67 : Cond.methodLink RX4 67 yX4_findSession ∈ BW := bw_at 359 (by decide +kernel) (by first | rfl | decide +kernel)
theorem b_in_yX4_findSession : Cond.instanceMethod yX4_findSession ∈ BW := bw_at 360 (by decide +kernel) (by first | rfl | decide +kernel)
theorem b_se_yX4_findSession : Cond.selects RX4 yX4_findSession yX4_findSession ∈ BW := bw_at 361 (by decide +kernel) (by first | rfl | decide +kernel)
theorem b_co_yX4_findSession : Cond.code yX4_findSession cX4_findSession 3 (some (.object "ReplicaSessions$Session")) ∈ BW := bw_at 362 (by decide +kernel) (by first | rfl | decide +kernel)
theorem b_ml_L_23 : Cond.methodLink RL 23 yX6_setRate ∈ BW := bw_at 363 (by decide +kernel) (by first | rfl | decide +kernel)
theorem b_in_yX6_setRate : Cond.instanceMethod yX6_setRate ∈ BW := bw_at 364 (by decide +kernel) (by first | rfl | decide +kernel)
theorem b_se_yX6_setRate : Cond.selects RX6 yX6_setRate yX6_setRate ∈ BW := bw_at 365 (by decide +kernel) (by first | rfl | decide +kernel)
theorem b_co_yX6_setRate : Cond.code yX6_setRate cX6_setRate 3 (some .int) ∈ BW := bw_at 366 (by decide +kernel) (by first | rfl | decide +kernel)
theorem b_ml_X6_52 : Cond.methodLink RX6 52 yX6_changeRate ∈ BW := bw_at 367 (by decide +kernel) (by first | rfl | decide +kernel)
theorem b_in_yX6_changeRate : Cond.instanceMethod yX6_changeRate ∈ BW := bw_at 369 (by decide +kernel) (by first | rfl | decide +kernel)
theorem b_co_yX6_changeRate : Cond.code yX6_changeRate cX6_changeRate 5 (some .int) ∈ BW := bw_at 370 (by decide +kernel) (by first | rfl | decide +kernel)
theorem b_ml_L_27 : Cond.methodLink RL 27 yX6_stop ∈ BW := bw_at 371 (by decide +kernel) (by first | rfl | decide +kernel)
theorem b_in_yX6_stop : Cond.instanceMethod yX6_stop ∈ BW := bw_at 372 (by decide +kernel) (by first | rfl | decide +kernel)
theorem b_se_yX6_stop : Cond.selects RX6 yX6_stop yX6_stop ∈ BW := bw_at 373 (by decide +kernel) (by first | rfl | decide +kernel)
theorem b_co_yX6_stop : Cond.code yX6_stop cX6_stop 3 (some .int) ∈ BW := bw_at 374 (by decide +kernel) (by first | rfl | decide +kernel)
theorem b_ml_X6_55 : Cond.methodLink RX6 55 yX6_changeStopped ∈ BW := bw_at 375 (by decide +kernel) (by first | rfl | decide +kernel)
theorem b_in_yX6_changeStopped : Cond.instanceMethod yX6_changeStopped ∈ BW := bw_at 377 (by decide +kernel) (by first | rfl | decide +kernel)
theorem b_co_yX6_changeStopped : Cond.code yX6_changeStopped cX6_changeStopped 5 (some .int) ∈ BW := bw_at 378 (by decide +kernel) (by first | rfl | decide +kernel)
theorem b_ml_L_32 : Cond.methodLink RL 32 yX6_jumpBack ∈ BW := bw_at 379 (by decide +kernel) (by first | rfl | decide +kernel)
theorem b_in_yX6_jumpBack : Cond.instanceMethod yX6_jumpBack ∈ BW := bw_at 380 (by decide +kernel) (by first | rfl | decide +kernel)
theorem b_se_yX6_jumpBack : Cond.selects RX6 yX6_jumpBack yX6_jumpBack ∈ BW := bw_at 381 (by decide +kernel) (by first | rfl | decide +kernel)
theorem b_co_yX6_jumpBack : Cond.code yX6_jumpBack cX6_jumpBack 3 (some .int) ∈ BW := bw_at 382 (by decide +kernel) (by first | rfl | decide +kernel)
theorem b_ml_X6_59 : Cond.methodLink RX6 59 yX6_setBack ∈ BW := bw_at 383 (by decide +kernel) (by first | rfl | decide +kernel)
theorem b_in_yX6_setBack : Cond.instanceMethod yX6_setBack ∈ BW := bw_at 385 (by decide +kernel) (by first | rfl | decide +kernel)
theorem b_co_yX6_setBack : Cond.code yX6_setBack cX6_setBack 5 (some .int) ∈ BW := bw_at 386 (by decide +kernel) (by first | rfl | decide +kernel)
theorem b_ml_L_36 : Cond.methodLink RL 36 yX6_tick ∈ BW := bw_at 387 (by decide +kernel) (by first | rfl | decide +kernel)
theorem b_in_yX6_tick : Cond.instanceMethod yX6_tick ∈ BW := bw_at 388 (by decide +kernel) (by first | rfl | decide +kernel)
theorem b_se_yX6_tick : Cond.selects RX6 yX6_tick yX6_tick ∈ BW := bw_at 389 (by decide +kernel) (by first | rfl | decide +kernel)
theorem b_co_yX6_tick : Cond.code yX6_tick cX6_tick 2 (some .int) ∈ BW := bw_at 390 (by decide +kernel) (by first | rfl | decide +kernel)
theorem b_ml_X6_62 : Cond.methodLink RX6 62 yX6_letTicksPass ∈ BW := bw_at 391 (by decide +kernel) (by first | rfl | decide +kernel)
theorem b_in_yX6_letTicksPass : Cond.instanceMethod yX6_letTicksPass ∈ BW := bw_at 393 (by decide +kernel) (by first | rfl | decide +kernel)
theorem b_co_yX6_letTicksPass : Cond.code yX6_letTicksPass cX6_letTicksPass 2 (some .int) ∈ BW := bw_at 394 (by decide +kernel) (by first | rfl | decide +kernel)
theorem b_ml_X6_258 : Cond.methodLink RX6 258 yX4_passTicks ∈ BW := bw_at 395 (by decide +kernel) (by first | rfl | decide +kernel)
theorem b_in_yX4_passTicks : Cond.instanceMethod yX4_passTicks ∈ BW := bw_at 396 (by decide +kernel) (by first | rfl | decide +kernel)
theorem b_se_yX4_passTicks : Cond.selects RX4 yX4_passTicks yX4_passTicks ∈ BW := bw_at 397 (by decide +kernel) (by first | rfl | decide +kernel)
theorem b_co_yX4_passTicks : Cond.code yX4_passTicks cX4_passTicks 4 none ∈ BW := bw_at 398 (by decide +kernel) (by first | rfl | decide +kernel)
theorem b_ml_X4_80 : Cond.methodLink RX4 80 yX2_passTicks ∈ BW := bw_at 399 (by decide +kernel) (by first | rfl | decide +kernel)
theorem b_in_yX2_passTicks : Cond.instanceMethod yX2_passTicks ∈ BW := bw_at 400 (by decide +kernel) (by first | rfl | decide +kernel)
theorem b_se_yX2_passTicks : Cond.selects RX2 yX2_passTicks yX2_passTicks ∈ BW := bw_at 401 (by decide +kernel) (by first | rfl | decide +kernel)
theorem b_co_yX2_passTicks : Cond.code yX2_passTicks cX2_passTicks 3 none ∈ BW := bw_at 402 (by decide +kernel) (by first | rfl | decide +kernel)
theorem b_ml_X2_28 : Cond.methodLink RX2 28 Lib.Math.min.name ∈ BW := bw_at 403 (by decide +kernel) (by first | rfl | decide +kernel)
theorem b_st_Jmin : Cond.static Lib.Math.min.name ∈ BW := bw_at 404 (by decide +kernel) (by first | rfl | decide +kernel)
theorem b_co_Jmin : Cond.code Lib.Math.min.name Lib.Math.min.code 2 (some .int) ∈ BW := bw_at 405 (by decide +kernel) (by first | rfl | decide +kernel)
theorem b_ml_X6_262 : Cond.methodLink RX6 262 yX4_countCaughtUp ∈ BW := bw_at 406 (by decide +kernel) (by first | rfl | decide +kernel)
theorem b_in_yX4_countCaughtUp : Cond.instanceMethod yX4_countCaughtUp ∈ BW := bw_at 407 (by decide +kernel) (by first | rfl | decide +kernel)
theorem b_se_yX4_countCaughtUp : Cond.selects RX4 yX4_countCaughtUp yX4_countCaughtUp ∈ BW := bw_at 408 (by decide +kernel) (by first | rfl | decide +kernel)
theorem b_co_yX4_countCaughtUp : Cond.code yX4_countCaughtUp cX4_countCaughtUp 4 (some .int) ∈ BW := bw_at 409 (by decide +kernel) (by first | rfl | decide +kernel)
theorem b_ml_L_40 : Cond.methodLink RL 40 yX6_replicas ∈ BW := bw_at 410 (by decide +kernel) (by first | rfl | decide +kernel)
theorem b_in_yX6_replicas : Cond.instanceMethod yX6_replicas ∈ BW := bw_at 411 (by decide +kernel) (by first | rfl | decide +kernel)
theorem b_se_yX6_replicas : Cond.selects RX6 yX6_replicas yX6_replicas ∈ BW := bw_at 412 (by decide +kernel) (by first | rfl | decide +kernel)
theorem b_co_yX6_replicas : Cond.code yX6_replicas cX6_replicas 1 (some .int) ∈ BW := bw_at 413 (by decide +kernel) (by first | rfl | decide +kernel)
theorem b_ml_X6_65 : Cond.methodLink RX6 65 yX4_replicaMask ∈ BW := bw_at 414 (by decide +kernel) (by first | rfl | decide +kernel)
theorem b_in_yX4_replicaMask : Cond.instanceMethod yX4_replicaMask ∈ BW := bw_at 415 (by decide +kernel) (by first | rfl | decide +kernel)
theorem b_se_yX4_replicaMask : Cond.selects RX4 yX4_replicaMask yX4_replicaMask ∈ BW := bw_at 416 (by decide +kernel) (by first | rfl | decide +kernel)
theorem b_co_yX4_replicaMask : Cond.code yX4_replicaMask cX4_replicaMask 3 (some .int) ∈ BW := bw_at 417 (by decide +kernel) (by first | rfl | decide +kernel)
theorem b_ml_L_45 : Cond.methodLink RL 45 yX6_replica ∈ BW := bw_at 418 (by decide +kernel) (by first | rfl | decide +kernel)
theorem b_in_yX6_replica : Cond.instanceMethod yX6_replica ∈ BW := bw_at 419 (by decide +kernel) (by first | rfl | decide +kernel)
theorem b_se_yX6_replica : Cond.selects RX6 yX6_replica yX6_replica ∈ BW := bw_at 420 (by decide +kernel) (by first | rfl | decide +kernel)
theorem b_co_yX6_replica : Cond.code yX6_replica cX6_replica 4 (some .int) ∈ BW := bw_at 421 (by decide +kernel) (by first | rfl | decide +kernel)
theorem b_ml_X6_82 : Cond.methodLink RX6 82 yX4_countSessionsAt ∈ BW := bw_at 422 (by decide +kernel) (by first | rfl | decide +kernel)
theorem b_in_yX4_countSessionsAt : Cond.instanceMethod yX4_countSessionsAt ∈ BW := bw_at 423 (by decide +kernel) (by first | rfl | decide +kernel)
theorem b_se_yX4_countSessionsAt : Cond.selects RX4 yX4_countSessionsAt yX4_countSessionsAt ∈ BW := bw_at 424 (by decide +kernel) (by first | rfl | decide +kernel)
theorem b_co_yX4_countSessionsAt : Cond.code yX4_countSessionsAt cX4_countSessionsAt 5 (some .int) ∈ BW := bw_at 425 (by decide +kernel) (by first | rfl | decide +kernel)
theorem b_ml_L_49 : Cond.methodLink RL 49 yX6_length ∈ BW := bw_at 426 (by decide +kernel) (by first | rfl | decide +kernel)
theorem b_in_yX6_length : Cond.instanceMethod yX6_length ∈ BW := bw_at 427 (by decide +kernel) (by first | rfl | decide +kernel)
theorem b_se_yX6_length : Cond.selects RX6 yX6_length yX6_length ∈ BW := bw_at 428 (by decide +kernel) (by first | rfl | decide +kernel)
theorem b_co_yX6_length : Cond.code yX6_length cX6_length 1 (some .int) ∈ BW := bw_at 429 (by decide +kernel) (by first | rfl | decide +kernel)
theorem b_ml_L_53 : Cond.methodLink RL 53 yX6_logged ∈ BW := bw_at 430 (by decide +kernel) (by first | rfl | decide +kernel)
theorem b_in_yX6_logged : Cond.instanceMethod yX6_logged ∈ BW := bw_at 431 (by decide +kernel) (by first | rfl | decide +kernel)
theorem b_se_yX6_logged : Cond.selects RX6 yX6_logged yX6_logged ∈ BW := bw_at 432 (by decide +kernel) (by first | rfl | decide +kernel)
theorem b_co_yX6_logged : Cond.code yX6_logged cX6_logged 3 (some .int) ∈ BW := bw_at 433 (by decide +kernel) (by first | rfl | decide +kernel)
theorem b_ml_X6_94 : Cond.methodLink RX6 94 yX1_contains ∈ BW := bw_at 434 (by decide +kernel) (by first | rfl | decide +kernel)
theorem b_in_yX1_contains : Cond.instanceMethod yX1_contains ∈ BW := bw_at 435 (by decide +kernel) (by first | rfl | decide +kernel)
theorem b_se_yX1_contains : Cond.selects RX1 yX1_contains yX1_contains ∈ BW := bw_at 436 (by decide +kernel) (by first | rfl | decide +kernel)
theorem b_co_yX1_contains : Cond.code yX1_contains cX1_contains 2 (some .boolean) ∈ BW := bw_at 437 (by decide +kernel) (by first | rfl | decide +kernel)
theorem b_ml_X6_98 : Cond.methodLink RX6 98 yX1_keyOf ∈ BW := bw_at 438 (by decide +kernel) (by first | rfl | decide +kernel)
theorem b_in_yX1_keyOf : Cond.instanceMethod yX1_keyOf ∈ BW := bw_at 439 (by decide +kernel) (by first | rfl | decide +kernel)
theorem b_se_yX1_keyOf : Cond.selects RX1 yX1_keyOf yX1_keyOf ∈ BW := bw_at 440 (by decide +kernel) (by first | rfl | decide +kernel)
theorem b_co_yX1_keyOf : Cond.code yX1_keyOf cX1_keyOf 2 (some .int) ∈ BW := bw_at 441 (by decide +kernel) (by first | rfl | decide +kernel)
theorem b_ml_X1_25 : Cond.methodLink RX1 25 yX1_contains ∈ BW := bw_at 442 (by decide +kernel) (by first | rfl | decide +kernel)
theorem b_ml_X6_101 : Cond.methodLink RX6 101 yX1_valueOf ∈ BW := bw_at 443 (by decide +kernel) (by first | rfl | decide +kernel)
theorem b_in_yX1_valueOf : Cond.instanceMethod yX1_valueOf ∈ BW := bw_at 444 (by decide +kernel) (by first | rfl | decide +kernel)
theorem b_se_yX1_valueOf : Cond.selects RX1 yX1_valueOf yX1_valueOf ∈ BW := bw_at 445 (by decide +kernel) (by first | rfl | decide +kernel)
theorem b_co_yX1_valueOf : Cond.code yX1_valueOf cX1_valueOf 2 (some .int) ∈ BW := bw_at 446 (by decide +kernel) (by first | rfl | decide +kernel)
theorem b_ml_X6_104 : Cond.methodLink RX6 104 yX1_writerOf ∈ BW := bw_at 447 (by decide +kernel) (by first | rfl | decide +kernel)
theorem b_in_yX1_writerOf : Cond.instanceMethod yX1_writerOf ∈ BW := bw_at 448 (by decide +kernel) (by first | rfl | decide +kernel)
theorem b_se_yX1_writerOf : Cond.selects RX1 yX1_writerOf yX1_writerOf ∈ BW := bw_at 449 (by decide +kernel) (by first | rfl | decide +kernel)
theorem b_co_yX1_writerOf : Cond.code yX1_writerOf cX1_writerOf 2 (some .int) ∈ BW := bw_at 450 (by decide +kernel) (by first | rfl | decide +kernel)
theorem b_ml_L_57 : Cond.methodLink RL 57 yX6_position ∈ BW := bw_at 451 (by decide +kernel) (by first | rfl | decide +kernel)
theorem b_in_yX6_position : Cond.instanceMethod yX6_position ∈ BW := bw_at 452 (by decide +kernel) (by first | rfl | decide +kernel)
theorem b_se_yX6_position : Cond.selects RX6 yX6_position yX6_position ∈ BW := bw_at 453 (by decide +kernel) (by first | rfl | decide +kernel)
theorem b_co_yX6_position : Cond.code yX6_position cX6_position 2 (some .int) ∈ BW := bw_at 454 (by decide +kernel) (by first | rfl | decide +kernel)
theorem b_ml_L_61 : Cond.methodLink RL 61 yX6_version ∈ BW := bw_at 455 (by decide +kernel) (by first | rfl | decide +kernel)
theorem b_in_yX6_version : Cond.instanceMethod yX6_version ∈ BW := bw_at 456 (by decide +kernel) (by first | rfl | decide +kernel)
theorem b_se_yX6_version : Cond.selects RX6 yX6_version yX6_version ∈ BW := bw_at 457 (by decide +kernel) (by first | rfl | decide +kernel)
theorem b_co_yX6_version : Cond.code yX6_version cX6_version 3 (some .int) ∈ BW := bw_at 458 (by decide +kernel) (by first | rfl | decide +kernel)
theorem b_ml_X6_110 : Cond.methodLink RX6 110 yX4_hasPlace ∈ BW := bw_at 459 (by decide +kernel) (by first | rfl | decide +kernel)
theorem b_in_yX4_hasPlace : Cond.instanceMethod yX4_hasPlace ∈ BW := bw_at 460 (by decide +kernel) (by first | rfl | decide +kernel)
theorem b_se_yX4_hasPlace : Cond.selects RX4 yX4_hasPlace yX4_hasPlace ∈ BW := bw_at 461 (by decide +kernel) (by first | rfl | decide +kernel)
theorem b_co_yX4_hasPlace : Cond.code yX4_hasPlace cX4_hasPlace 2 (some .boolean) ∈ BW := bw_at 462 (by decide +kernel) (by first | rfl | decide +kernel)
theorem b_ml_X6_113 : Cond.methodLink RX6 113 yX6_isKey ∈ BW := bw_at 463 (by decide +kernel) (by first | rfl | decide +kernel)
theorem b_st_yX6_isKey : Cond.static yX6_isKey ∈ BW := bw_at 464 (by decide +kernel) (by first | rfl | decide +kernel)
theorem b_co_yX6_isKey : Cond.code yX6_isKey cX6_isKey 1 (some .boolean) ∈ BW := bw_at 465 (by decide +kernel) (by first | rfl | decide +kernel)
theorem b_ml_X6_116 : Cond.methodLink RX6 116 yX1_versionAt ∈ BW := bw_at 466 (by decide +kernel) (by first | rfl | decide +kernel)
theorem b_in_yX1_versionAt : Cond.instanceMethod yX1_versionAt ∈ BW := bw_at 467 (by decide +kernel) (by first | rfl | decide +kernel)
theorem b_se_yX1_versionAt : Cond.selects RX1 yX1_versionAt yX1_versionAt ∈ BW := bw_at 468 (by decide +kernel) (by first | rfl | decide +kernel)
theorem b_co_yX1_versionAt : Cond.code yX1_versionAt cX1_versionAt 4 (some .int) ∈ BW := bw_at 469 (by decide +kernel) (by first | rfl | decide +kernel)
theorem b_ml_X1_29 : Cond.methodLink RX1 29 Lib.Math.min.name ∈ BW := bw_at 470 (by decide +kernel) (by first | rfl | decide +kernel)
theorem b_ml_X1_35 : Cond.methodLink RX1 35 yX1_keyOf ∈ BW := bw_at 471 (by decide +kernel) (by first | rfl | decide +kernel)
theorem b_ml_L_65 : Cond.methodLink RL 65 yX6_value ∈ BW := bw_at 472 (by decide +kernel) (by first | rfl | decide +kernel)
theorem b_in_yX6_value : Cond.instanceMethod yX6_value ∈ BW := bw_at 473 (by decide +kernel) (by first | rfl | decide +kernel)
theorem b_se_yX6_value : Cond.selects RX6 yX6_value yX6_value ∈ BW := bw_at 474 (by decide +kernel) (by first | rfl | decide +kernel)
theorem b_co_yX6_value : Cond.code yX6_value cX6_value 3 (some .int) ∈ BW := bw_at 475 (by decide +kernel) (by first | rfl | decide +kernel)
theorem b_ml_L_69 : Cond.methodLink RL 69 yX6_missing ∈ BW := bw_at 476 (by decide +kernel) (by first | rfl | decide +kernel)
theorem b_in_yX6_missing : Cond.instanceMethod yX6_missing ∈ BW := bw_at 477 (by decide +kernel) (by first | rfl | decide +kernel)
theorem b_se_yX6_missing : Cond.selects RX6 yX6_missing yX6_missing ∈ BW := bw_at 478 (by decide +kernel) (by first | rfl | decide +kernel)
theorem b_co_yX6_missing : Cond.code yX6_missing cX6_missing 3 (some .int) ∈ BW := bw_at 479 (by decide +kernel) (by first | rfl | decide +kernel)
theorem b_ml_X6_119 : Cond.methodLink RX6 119 yX1_countAfter ∈ BW := bw_at 480 (by decide +kernel) (by first | rfl | decide +kernel)
theorem b_in_yX1_countAfter : Cond.instanceMethod yX1_countAfter ∈ BW := bw_at 481 (by decide +kernel) (by first | rfl | decide +kernel)
theorem b_se_yX1_countAfter : Cond.selects RX1 yX1_countAfter yX1_countAfter ∈ BW := bw_at 482 (by decide +kernel) (by first | rfl | decide +kernel)
theorem b_co_yX1_countAfter : Cond.code yX1_countAfter cX1_countAfter 5 (some .int) ∈ BW := bw_at 483 (by decide +kernel) (by first | rfl | decide +kernel)
theorem b_ml_L_73 : Cond.methodLink RL 73 yX6_answers ∈ BW := bw_at 484 (by decide +kernel) (by first | rfl | decide +kernel)
theorem b_in_yX6_answers : Cond.instanceMethod yX6_answers ∈ BW := bw_at 485 (by decide +kernel) (by first | rfl | decide +kernel)
theorem b_se_yX6_answers : Cond.selects RX6 yX6_answers yX6_answers ∈ BW := bw_at 486 (by decide +kernel) (by first | rfl | decide +kernel)
theorem b_co_yX6_answers : Cond.code yX6_answers cX6_answers 3 (some .int) ∈ BW := bw_at 487 (by decide +kernel) (by first | rfl | decide +kernel)
theorem b_ml_L_77 : Cond.methodLink RL 77 yX6_open ∈ BW := bw_at 488 (by decide +kernel) (by first | rfl | decide +kernel)
theorem b_in_yX6_open : Cond.instanceMethod yX6_open ∈ BW := bw_at 489 (by decide +kernel) (by first | rfl | decide +kernel)
theorem b_se_yX6_open : Cond.selects RX6 yX6_open yX6_open ∈ BW := bw_at 490 (by decide +kernel) (by first | rfl | decide +kernel)
theorem b_co_yX6_open : Cond.code yX6_open cX6_open 4 (some .int) ∈ BW := bw_at 491 (by decide +kernel) (by first | rfl | decide +kernel)
theorem b_ml_X6_128 : Cond.methodLink RX6 128 yX6_startSession ∈ BW := bw_at 492 (by decide +kernel) (by first | rfl | decide +kernel)
theorem b_in_yX6_startSession : Cond.instanceMethod yX6_startSession ∈ BW := bw_at 494 (by decide +kernel) (by first | rfl | decide +kernel)
theorem b_co_yX6_startSession : Cond.code yX6_startSession cX6_startSession 4 (some .int) ∈ BW := bw_at 495 (by decide +kernel) (by first | rfl | decide +kernel)
theorem b_ml_X6_265 : Cond.methodLink RX6 265 yX4_takeFreeSession ∈ BW := bw_at 496 (by decide +kernel) (by first | rfl | decide +kernel)
theorem b_in_yX4_takeFreeSession : Cond.instanceMethod yX4_takeFreeSession ∈ BW := bw_at 497 (by decide +kernel) (by first | rfl | decide +kernel)
theorem b_se_yX4_takeFreeSession : Cond.selects RX4 yX4_takeFreeSession yX4_takeFreeSession ∈ BW := bw_at 498 (by decide +kernel) (by first | rfl | decide +kernel)
theorem b_co_yX4_takeFreeSession : Cond.code yX4_takeFreeSession cX4_takeFreeSession 6 (some .int) ∈ BW := bw_at 499 (by decide +kernel) (by first | rfl | decide +kernel)
theorem b_ml_X4_60 : Cond.methodLink RX4 60 yX3_begin ∈ BW := bw_at 500 (by decide +kernel) (by first | rfl | decide +kernel)
theorem b_in_yX3_begin : Cond.instanceMethod yX3_begin ∈ BW := bw_at 501 (by decide +kernel) (by first | rfl | decide +kernel)
theorem b_se_yX3_begin : Cond.selects RX3 yX3_begin yX3_begin ∈ BW := bw_at 502 (by decide +kernel) (by first | rfl | decide +kernel)
theorem b_co_yX3_begin : Cond.code yX3_begin cX3_begin 4 none ∈ BW := bw_at 503 (by decide +kernel) (by first | rfl | decide +kernel)
theorem b_ml_X3_47 : Cond.methodLink RX3 47 yJ7_fill_53178 ∈ BW := bw_at 504 (by decide +kernel) (by first | rfl | decide +kernel)
theorem b_st_yJ7_fill_53178 : Cond.static yJ7_fill_53178 ∈ BW := bw_at 505 (by decide +kernel) (by first | rfl | decide +kernel)
theorem b_co_yJ7_fill_53178 : Cond.code yJ7_fill_53178 cJ7_fill_53178 4 none ∈ BW := bw_at 506 (by decide +kernel) (by first | rfl | decide +kernel)
theorem b_ml_L_82 : Cond.methodLink RL 82 yX6_close ∈ BW := bw_at 507 (by decide +kernel) (by first | rfl | decide +kernel)
theorem b_in_yX6_close : Cond.instanceMethod yX6_close ∈ BW := bw_at 508 (by decide +kernel) (by first | rfl | decide +kernel)
theorem b_se_yX6_close : Cond.selects RX6 yX6_close yX6_close ∈ BW := bw_at 509 (by decide +kernel) (by first | rfl | decide +kernel)
theorem b_co_yX6_close : Cond.code yX6_close cX6_close 2 (some .int) ∈ BW := bw_at 510 (by decide +kernel) (by first | rfl | decide +kernel)
theorem b_ml_X6_132 : Cond.methodLink RX6 132 yX6_endSession ∈ BW := bw_at 511 (by decide +kernel) (by first | rfl | decide +kernel)
theorem b_in_yX6_endSession : Cond.instanceMethod yX6_endSession ∈ BW := bw_at 513 (by decide +kernel) (by first | rfl | decide +kernel)
theorem b_co_yX6_endSession : Cond.code yX6_endSession cX6_endSession 3 (some .int) ∈ BW := bw_at 514 (by decide +kernel) (by first | rfl | decide +kernel)
theorem b_ml_X6_147 : Cond.methodLink RX6 147 yX4_findSession ∈ BW := bw_at 515 (by decide +kernel) (by first | rfl | decide +kernel)
theorem b_ml_L_86 : Cond.methodLink RL 86 yX6_move ∈ BW := bw_at 516 (by decide +kernel) (by first | rfl | decide +kernel)
theorem b_in_yX6_move : Cond.instanceMethod yX6_move ∈ BW := bw_at 517 (by decide +kernel) (by first | rfl | decide +kernel)
theorem b_se_yX6_move : Cond.selects RX6 yX6_move yX6_move ∈ BW := bw_at 518 (by decide +kernel) (by first | rfl | decide +kernel)
theorem b_co_yX6_move : Cond.code yX6_move cX6_move 3 (some .int) ∈ BW := bw_at 519 (by decide +kernel) (by first | rfl | decide +kernel)
theorem b_ml_X6_135 : Cond.methodLink RX6 135 yX6_changeHome ∈ BW := bw_at 520 (by decide +kernel) (by first | rfl | decide +kernel)
theorem b_in_yX6_changeHome : Cond.instanceMethod yX6_changeHome ∈ BW := bw_at 522 (by decide +kernel) (by first | rfl | decide +kernel)
theorem b_co_yX6_changeHome : Cond.code yX6_changeHome cX6_changeHome 5 (some .int) ∈ BW := bw_at 523 (by decide +kernel) (by first | rfl | decide +kernel)
theorem b_ml_L_90 : Cond.methodLink RL 90 yX6_change ∈ BW := bw_at 524 (by decide +kernel) (by first | rfl | decide +kernel)
theorem b_in_yX6_change : Cond.instanceMethod yX6_change ∈ BW := bw_at 525 (by decide +kernel) (by first | rfl | decide +kernel)
theorem b_se_yX6_change : Cond.selects RX6 yX6_change yX6_change ∈ BW := bw_at 526 (by decide +kernel) (by first | rfl | decide +kernel)
theorem b_co_yX6_change : Cond.code yX6_change cX6_change 4 (some .int) ∈ BW := bw_at 527 (by decide +kernel) (by first | rfl | decide +kernel)
theorem b_ml_X6_138 : Cond.methodLink RX6 138 yX6_changeOptions ∈ BW := bw_at 528 (by decide +kernel) (by first | rfl | decide +kernel)
theorem b_in_yX6_changeOptions : Cond.instanceMethod yX6_changeOptions ∈ BW := bw_at 530 (by decide +kernel) (by first | rfl | decide +kernel)
theorem b_co_yX6_changeOptions : Cond.code yX6_changeOptions cX6_changeOptions 6 (some .int) ∈ BW := bw_at 531 (by decide +kernel) (by first | rfl | decide +kernel)
theorem b_ml_L_94 : Cond.methodLink RL 94 yX6_hand ∈ BW := bw_at 532 (by decide +kernel) (by first | rfl | decide +kernel)
theorem b_in_yX6_hand : Cond.instanceMethod yX6_hand ∈ BW := bw_at 533 (by decide +kernel) (by first | rfl | decide +kernel)
theorem b_se_yX6_hand : Cond.selects RX6 yX6_hand yX6_hand ∈ BW := bw_at 534 (by decide +kernel) (by first | rfl | decide +kernel)
theorem b_co_yX6_hand : Cond.code yX6_hand cX6_hand 3 (some .int) ∈ BW := bw_at 535 (by decide +kernel) (by first | rfl | decide +kernel)
theorem b_ml_X6_141 : Cond.methodLink RX6 141 yX6_handMarks ∈ BW := bw_at 536 (by decide +kernel) (by first | rfl | decide +kernel)
theorem b_in_yX6_handMarks : Cond.instanceMethod yX6_handMarks ∈ BW := bw_at 538 (by decide +kernel) (by first | rfl | decide +kernel)
theorem b_co_yX6_handMarks : Cond.code yX6_handMarks cX6_handMarks 5 (some .int) ∈ BW := bw_at 539 (by decide +kernel) (by first | rfl | decide +kernel)
theorem b_ml_X6_209 : Cond.methodLink RX6 209 Lib.Math.max.name ∈ BW := bw_at 540 (by decide +kernel) (by first | rfl | decide +kernel)
theorem b_st_Jmax : Cond.static Lib.Math.max.name ∈ BW := bw_at 541 (by decide +kernel) (by first | rfl | decide +kernel)
theorem b_co_Jmax : Cond.code Lib.Math.max.name Lib.Math.max.code 2 (some .int) ∈ BW := bw_at 542 (by decide +kernel) (by first | rfl | decide +kernel)
theorem b_ml_L_98 : Cond.methodLink RL 98 yX6_sessions ∈ BW := bw_at 543 (by decide +kernel) (by first | rfl | decide +kernel)
theorem b_in_yX6_sessions : Cond.instanceMethod yX6_sessions ∈ BW := bw_at 544 (by decide +kernel) (by first | rfl | decide +kernel)
theorem b_se_yX6_sessions : Cond.selects RX6 yX6_sessions yX6_sessions ∈ BW := bw_at 545 (by decide +kernel) (by first | rfl | decide +kernel)
theorem b_co_yX6_sessions : Cond.code yX6_sessions cX6_sessions 1 (some .int) ∈ BW := bw_at 546 (by decide +kernel) (by first | rfl | decide +kernel)
theorem b_ml_X6_144 : Cond.methodLink RX6 144 yX4_sessionMask ∈ BW := bw_at 547 (by decide +kernel) (by first | rfl | decide +kernel)
theorem b_in_yX4_sessionMask : Cond.instanceMethod yX4_sessionMask ∈ BW := bw_at 548 (by decide +kernel) (by first | rfl | decide +kernel)
theorem b_se_yX4_sessionMask : Cond.selects RX4 yX4_sessionMask yX4_sessionMask ∈ BW := bw_at 549 (by decide +kernel) (by first | rfl | decide +kernel)
theorem b_co_yX4_sessionMask : Cond.code yX4_sessionMask cX4_sessionMask 3 (some .int) ∈ BW := bw_at 550 (by decide +kernel) (by first | rfl | decide +kernel)
theorem b_ml_L_102 : Cond.methodLink RL 102 yX6_session ∈ BW := bw_at 551 (by decide +kernel) (by first | rfl | decide +kernel)
theorem b_in_yX6_session : Cond.instanceMethod yX6_session ∈ BW := bw_at 552 (by decide +kernel) (by first | rfl | decide +kernel)
theorem b_se_yX6_session : Cond.selects RX6 yX6_session yX6_session ∈ BW := bw_at 553 (by decide +kernel) (by first | rfl | decide +kernel)
theorem b_co_yX6_session : Cond.code yX6_session cX6_session 4 (some .int) ∈ BW := bw_at 554 (by decide +kernel) (by first | rfl | decide +kernel)
theorem b_ml_X6_168 : Cond.methodLink RX6 168 yX3_need ∈ BW := bw_at 555 (by decide +kernel) (by first | rfl | decide +kernel)
theorem b_in_yX3_need : Cond.instanceMethod yX3_need ∈ BW := bw_at 556 (by decide +kernel) (by first | rfl | decide +kernel)
theorem b_se_yX3_need : Cond.selects RX3 yX3_need yX3_need ∈ BW := bw_at 557 (by decide +kernel) (by first | rfl | decide +kernel)
theorem b_co_yX3_need : Cond.code yX3_need cX3_need 1 (some .int) ∈ BW := bw_at 558 (by decide +kernel) (by first | rfl | decide +kernel)
theorem b_ml_X3_53 : Cond.methodLink RX3 53 yX3_has ∈ BW := bw_at 559 (by decide +kernel) (by first | rfl | decide +kernel)
theorem b_in_yX3_has : Cond.instanceMethod yX3_has ∈ BW := bw_at 560 (by decide +kernel) (by first | rfl | decide +kernel)
theorem b_se_yX3_has : Cond.selects RX3 yX3_has yX3_has ∈ BW := bw_at 561 (by decide +kernel) (by first | rfl | decide +kernel)
theorem b_co_yX3_has : Cond.code yX3_has cX3_has 2 (some .boolean) ∈ BW := bw_at 562 (by decide +kernel) (by first | rfl | decide +kernel)
theorem b_ml_X3_57 : Cond.methodLink RX3 57 Lib.Math.max.name ∈ BW := bw_at 563 (by decide +kernel) (by first | rfl | decide +kernel)
theorem b_ml_L_106 : Cond.methodLink RL 106 yX6_write ∈ BW := bw_at 564 (by decide +kernel) (by first | rfl | decide +kernel)
theorem b_in_yX6_write : Cond.instanceMethod yX6_write ∈ BW := bw_at 565 (by decide +kernel) (by first | rfl | decide +kernel)
theorem b_se_yX6_write : Cond.selects RX6 yX6_write yX6_write ∈ BW := bw_at 566 (by decide +kernel) (by first | rfl | decide +kernel)
theorem b_co_yX6_write : Cond.code yX6_write cX6_write 4 (some .int) ∈ BW := bw_at 567 (by decide +kernel) (by first | rfl | decide +kernel)
theorem b_ml_X6_180 : Cond.methodLink RX6 180 yX6_addWrite ∈ BW := bw_at 568 (by decide +kernel) (by first | rfl | decide +kernel)
theorem b_in_yX6_addWrite : Cond.instanceMethod yX6_addWrite ∈ BW := bw_at 570 (by decide +kernel) (by first | rfl | decide +kernel)
theorem b_co_yX6_addWrite : Cond.code yX6_addWrite cX6_addWrite 6 (some .int) ∈ BW := bw_at 571 (by decide +kernel) (by first | rfl | decide +kernel)
theorem b_ml_X6_271 : Cond.methodLink RX6 271 yX1_add ∈ BW := bw_at 572 (by decide +kernel) (by first | rfl | decide +kernel)
theorem b_in_yX1_add : Cond.instanceMethod yX1_add ∈ BW := bw_at 573 (by decide +kernel) (by first | rfl | decide +kernel)
theorem b_se_yX1_add : Cond.selects RX1 yX1_add yX1_add ∈ BW := bw_at 574 (by decide +kernel) (by first | rfl | decide +kernel)
theorem b_co_yX1_add : Cond.code yX1_add cX1_add 4 (some .int) ∈ BW := bw_at 575 (by decide +kernel) (by first | rfl | decide +kernel)
theorem b_ml_X6_273 : Cond.methodLink RX6 273 yX3_noteWrite ∈ BW := bw_at 576 (by decide +kernel) (by first | rfl | decide +kernel)
theorem b_in_yX3_noteWrite : Cond.instanceMethod yX3_noteWrite ∈ BW := bw_at 577 (by decide +kernel) (by first | rfl | decide +kernel)
theorem b_se_yX3_noteWrite : Cond.selects RX3 yX3_noteWrite yX3_noteWrite ∈ BW := bw_at 578 (by decide +kernel) (by first | rfl | decide +kernel)
theorem b_co_yX3_noteWrite : Cond.code yX3_noteWrite cX3_noteWrite 3 none ∈ BW := bw_at 579 (by decide +kernel) (by first | rfl | decide +kernel)
theorem nest_X3_63 : Cond.methodLinkNest RX3 63 yX6_isKey RX6 ∈ lw_tbl := List.mem_of_getElem? (i := 580) (by decide +kernel)
theorem b_ml_L_110 : Cond.methodLink RL 110 yX6_read ∈ BW := bw_at 581 (by decide +kernel) (by first | rfl | decide +kernel)
theorem b_in_yX6_read : Cond.instanceMethod yX6_read ∈ BW := bw_at 582 (by decide +kernel) (by first | rfl | decide +kernel)
theorem b_se_yX6_read : Cond.selects RX6 yX6_read yX6_read ∈ BW := bw_at 583 (by decide +kernel) (by first | rfl | decide +kernel)
theorem b_co_yX6_read : Cond.code yX6_read cX6_read 3 (some .int) ∈ BW := bw_at 584 (by decide +kernel) (by first | rfl | decide +kernel)
theorem b_ml_X6_183 : Cond.methodLink RX6 183 yX6_readAtHome ∈ BW := bw_at 585 (by decide +kernel) (by first | rfl | decide +kernel)
theorem b_in_yX6_readAtHome : Cond.instanceMethod yX6_readAtHome ∈ BW := bw_at 587 (by decide +kernel) (by first | rfl | decide +kernel)
theorem b_co_yX6_readAtHome : Cond.code yX6_readAtHome cX6_readAtHome 5 (some .int) ∈ BW := bw_at 588 (by decide +kernel) (by first | rfl | decide +kernel)
theorem b_ml_X6_202 : Cond.methodLink RX6 202 yX4_waitOf ∈ BW := bw_at 589 (by decide +kernel) (by first | rfl | decide +kernel)
theorem b_in_yX4_waitOf : Cond.instanceMethod yX4_waitOf ∈ BW := bw_at 590 (by decide +kernel) (by first | rfl | decide +kernel)
theorem b_se_yX4_waitOf : Cond.selects RX4 yX4_waitOf yX4_waitOf ∈ BW := bw_at 591 (by decide +kernel) (by first | rfl | decide +kernel)
theorem b_co_yX4_waitOf : Cond.code yX4_waitOf cX4_waitOf 5 (some .int) ∈ BW := bw_at 592 (by decide +kernel) (by first | rfl | decide +kernel)
theorem b_ml_X4_95 : Cond.methodLink RX4 95 yX4_neededPosition ∈ BW := bw_at 593 (by decide +kernel) (by first | rfl | decide +kernel)
theorem b_in_yX4_neededPosition : Cond.instanceMethod yX4_neededPosition ∈ BW := bw_at 595 (by decide +kernel) (by first | rfl | decide +kernel)
theorem b_co_yX4_neededPosition : Cond.code yX4_neededPosition cX4_neededPosition 4 (some .int) ∈ BW := bw_at 596 (by decide +kernel) (by first | rfl | decide +kernel)
theorem b_ml_X4_83 : Cond.methodLink RX4 83 yX3_need ∈ BW := bw_at 597 (by decide +kernel) (by first | rfl | decide +kernel)
theorem b_ml_X4_87 : Cond.methodLink RX4 87 yX3_has ∈ BW := bw_at 598 (by decide +kernel) (by first | rfl | decide +kernel)
theorem b_ml_X4_91 : Cond.methodLink RX4 91 yX1_versionAt ∈ BW := bw_at 599 (by decide +kernel) (by first | rfl | decide +kernel)
theorem b_ml_X4_99 : Cond.methodLink RX4 99 yX2_ticksTo ∈ BW := bw_at 600 (by decide +kernel) (by first | rfl | decide +kernel)
theorem b_in_yX2_ticksTo : Cond.instanceMethod yX2_ticksTo ∈ BW := bw_at 601 (by decide +kernel) (by first | rfl | decide +kernel)
theorem b_se_yX2_ticksTo : Cond.selects RX2 yX2_ticksTo yX2_ticksTo ∈ BW := bw_at 602 (by decide +kernel) (by first | rfl | decide +kernel)
theorem b_co_yX2_ticksTo : Cond.code yX2_ticksTo cX2_ticksTo 2 (some .int) ∈ BW := bw_at 603 (by decide +kernel) (by first | rfl | decide +kernel)
theorem b_ml_X6_277 : Cond.methodLink RX6 277 yX4_answer ∈ BW := bw_at 604 (by decide +kernel) (by first | rfl | decide +kernel)
theorem b_in_yX4_answer : Cond.instanceMethod yX4_answer ∈ BW := bw_at 605 (by decide +kernel) (by first | rfl | decide +kernel)
theorem b_se_yX4_answer : Cond.selects RX4 yX4_answer yX4_answer ∈ BW := bw_at 606 (by decide +kernel) (by first | rfl | decide +kernel)
theorem b_co_yX4_answer : Cond.code yX4_answer cX4_answer 7 (some .int) ∈ BW := bw_at 607 (by decide +kernel) (by first | rfl | decide +kernel)
theorem b_ml_X4_103 : Cond.methodLink RX4 103 yX4_positionOf ∈ BW := bw_at 608 (by decide +kernel) (by first | rfl | decide +kernel)
theorem b_ml_X4_106 : Cond.methodLink RX4 106 yX3_noteRead ∈ BW := bw_at 609 (by decide +kernel) (by first | rfl | decide +kernel)
theorem b_in_yX3_noteRead : Cond.instanceMethod yX3_noteRead ∈ BW := bw_at 610 (by decide +kernel) (by first | rfl | decide +kernel)
theorem b_se_yX3_noteRead : Cond.selects RX3 yX3_noteRead yX3_noteRead ∈ BW := bw_at 611 (by decide +kernel) (by first | rfl | decide +kernel)
theorem b_co_yX3_noteRead : Cond.code yX3_noteRead cX3_noteRead 4 none ∈ BW := bw_at 612 (by decide +kernel) (by first | rfl | decide +kernel)
theorem b_ml_X4_109 : Cond.methodLink RX4 109 yX4_countAnswer ∈ BW := bw_at 613 (by decide +kernel) (by first | rfl | decide +kernel)
theorem b_in_yX4_countAnswer : Cond.instanceMethod yX4_countAnswer ∈ BW := bw_at 615 (by decide +kernel) (by first | rfl | decide +kernel)
theorem b_co_yX4_countAnswer : Cond.code yX4_countAnswer cX4_countAnswer 3 none ∈ BW := bw_at 616 (by decide +kernel) (by first | rfl | decide +kernel)
theorem b_ml_X4_113 : Cond.methodLink RX4 113 yX1_valueOf ∈ BW := bw_at 617 (by decide +kernel) (by first | rfl | decide +kernel)
theorem b_ml_X6_281 : Cond.methodLink RX6 281 yX3_has ∈ BW := bw_at 618 (by decide +kernel) (by first | rfl | decide +kernel)
theorem b_ml_L_114 : Cond.methodLink RL 114 yX6_readAt ∈ BW := bw_at 619 (by decide +kernel) (by first | rfl | decide +kernel)
theorem b_in_yX6_readAt : Cond.instanceMethod yX6_readAt ∈ BW := bw_at 620 (by decide +kernel) (by first | rfl | decide +kernel)
theorem b_se_yX6_readAt : Cond.selects RX6 yX6_readAt yX6_readAt ∈ BW := bw_at 621 (by decide +kernel) (by first | rfl | decide +kernel)
theorem b_co_yX6_readAt : Cond.code yX6_readAt cX6_readAt 4 (some .int) ∈ BW := bw_at 622 (by decide +kernel) (by first | rfl | decide +kernel)
theorem b_ml_X6_186 : Cond.methodLink RX6 186 yX6_readAtPlace ∈ BW := bw_at 623 (by decide +kernel) (by first | rfl | decide +kernel)
theorem b_in_yX6_readAtPlace : Cond.instanceMethod yX6_readAtPlace ∈ BW := bw_at 625 (by decide +kernel) (by first | rfl | decide +kernel)
theorem b_co_yX6_readAtPlace : Cond.code yX6_readAtPlace cX6_readAtPlace 5 (some .int) ∈ BW := bw_at 626 (by decide +kernel) (by first | rfl | decide +kernel)
theorem b_ml_L_118 : Cond.methodLink RL 118 yX6_latest ∈ BW := bw_at 627 (by decide +kernel) (by first | rfl | decide +kernel)
theorem b_in_yX6_latest : Cond.instanceMethod yX6_latest ∈ BW := bw_at 628 (by decide +kernel) (by first | rfl | decide +kernel)
theorem b_se_yX6_latest : Cond.selects RX6 yX6_latest yX6_latest ∈ BW := bw_at 629 (by decide +kernel) (by first | rfl | decide +kernel)
theorem b_co_yX6_latest : Cond.code yX6_latest cX6_latest 2 (some .int) ∈ BW := bw_at 630 (by decide +kernel) (by first | rfl | decide +kernel)
theorem b_ml_L_122 : Cond.methodLink RL 122 yX6_waitFor ∈ BW := bw_at 631 (by decide +kernel) (by first | rfl | decide +kernel)
theorem b_in_yX6_waitFor : Cond.instanceMethod yX6_waitFor ∈ BW := bw_at 632 (by decide +kernel) (by first | rfl | decide +kernel)
theorem b_se_yX6_waitFor : Cond.selects RX6 yX6_waitFor yX6_waitFor ∈ BW := bw_at 633 (by decide +kernel) (by first | rfl | decide +kernel)
theorem b_co_yX6_waitFor : Cond.code yX6_waitFor cX6_waitFor 5 (some .int) ∈ BW := bw_at 634 (by decide +kernel) (by first | rfl | decide +kernel)
theorem b_ml_L_126 : Cond.methodLink RL 126 yX6_bestReplica ∈ BW := bw_at 635 (by decide +kernel) (by first | rfl | decide +kernel)
theorem b_in_yX6_bestReplica : Cond.instanceMethod yX6_bestReplica ∈ BW := bw_at 636 (by decide +kernel) (by first | rfl | decide +kernel)
theorem b_se_yX6_bestReplica : Cond.selects RX6 yX6_bestReplica yX6_bestReplica ∈ BW := bw_at 637 (by decide +kernel) (by first | rfl | decide +kernel)
theorem b_co_yX6_bestReplica : Cond.code yX6_bestReplica cX6_bestReplica 8 (some .int) ∈ BW := bw_at 638 (by decide +kernel) (by first | rfl | decide +kernel)
theorem b_ml_L_130 : Cond.methodLink RL 130 yX6_keysAfter ∈ BW := bw_at 639 (by decide +kernel) (by first | rfl | decide +kernel)
theorem b_in_yX6_keysAfter : Cond.instanceMethod yX6_keysAfter ∈ BW := bw_at 640 (by decide +kernel) (by first | rfl | decide +kernel)
theorem b_se_yX6_keysAfter : Cond.selects RX6 yX6_keysAfter yX6_keysAfter ∈ BW := bw_at 641 (by decide +kernel) (by first | rfl | decide +kernel)
theorem b_co_yX6_keysAfter : Cond.code yX6_keysAfter cX6_keysAfter 8 (some .int) ∈ BW := bw_at 642 (by decide +kernel) (by first | rfl | decide +kernel)
theorem b_ml_L_134 : Cond.methodLink RL 134 yX6_catchUp ∈ BW := bw_at 643 (by decide +kernel) (by first | rfl | decide +kernel)
theorem b_in_yX6_catchUp : Cond.instanceMethod yX6_catchUp ∈ BW := bw_at 644 (by decide +kernel) (by first | rfl | decide +kernel)
theorem b_se_yX6_catchUp : Cond.selects RX6 yX6_catchUp yX6_catchUp ∈ BW := bw_at 645 (by decide +kernel) (by first | rfl | decide +kernel)
theorem b_co_yX6_catchUp : Cond.code yX6_catchUp cX6_catchUp 5 (some .int) ∈ BW := bw_at 646 (by decide +kernel) (by first | rfl | decide +kernel)
theorem b_ml_X6_206 : Cond.methodLink RX6 206 yX2_ticksTo ∈ BW := bw_at 647 (by decide +kernel) (by first | rfl | decide +kernel)
theorem b_ml_L_138 : Cond.methodLink RL 138 yX6_append ∈ BW := bw_at 648 (by decide +kernel) (by first | rfl | decide +kernel)
theorem b_in_yX6_append : Cond.instanceMethod yX6_append ∈ BW := bw_at 649 (by decide +kernel) (by first | rfl | decide +kernel)
theorem b_se_yX6_append : Cond.selects RX6 yX6_append yX6_append ∈ BW := bw_at 650 (by decide +kernel) (by first | rfl | decide +kernel)
theorem b_co_yX6_append : Cond.code yX6_append cX6_append 2 (some .int) ∈ BW := bw_at 651 (by decide +kernel) (by first | rfl | decide +kernel)
theorem b_ml_X6_214 : Cond.methodLink RX6 214 yX5_add ∈ BW := bw_at 652 (by decide +kernel) (by first | rfl | decide +kernel)
theorem b_in_yX5_add : Cond.instanceMethod yX5_add ∈ BW := bw_at 653 (by decide +kernel) (by first | rfl | decide +kernel)
theorem b_se_yX5_add : Cond.selects RX5 yX5_add yX5_add ∈ BW := bw_at 654 (by decide +kernel) (by first | rfl | decide +kernel)
theorem b_co_yX5_add : Cond.code yX5_add cX5_add 2 (some .int) ∈ BW := bw_at 655 (by decide +kernel) (by first | rfl | decide +kernel)
theorem b_ml_L_142 : Cond.methodLink RL 142 yX6_clearText ∈ BW := bw_at 656 (by decide +kernel) (by first | rfl | decide +kernel)
theorem b_in_yX6_clearText : Cond.instanceMethod yX6_clearText ∈ BW := bw_at 657 (by decide +kernel) (by first | rfl | decide +kernel)
theorem b_se_yX6_clearText : Cond.selects RX6 yX6_clearText yX6_clearText ∈ BW := bw_at 658 (by decide +kernel) (by first | rfl | decide +kernel)
theorem b_co_yX6_clearText : Cond.code yX6_clearText cX6_clearText 1 (some .int) ∈ BW := bw_at 659 (by decide +kernel) (by first | rfl | decide +kernel)
theorem b_ml_X6_217 : Cond.methodLink RX6 217 yX5_empty ∈ BW := bw_at 660 (by decide +kernel) (by first | rfl | decide +kernel)
theorem b_in_yX5_empty : Cond.instanceMethod yX5_empty ∈ BW := bw_at 661 (by decide +kernel) (by first | rfl | decide +kernel)
theorem b_se_yX5_empty : Cond.selects RX5 yX5_empty yX5_empty ∈ BW := bw_at 662 (by decide +kernel) (by first | rfl | decide +kernel)
theorem b_co_yX5_empty : Cond.code yX5_empty cX5_empty 2 (some .int) ∈ BW := bw_at 663 (by decide +kernel) (by first | rfl | decide +kernel)
theorem b_ml_L_146 : Cond.methodLink RL 146 yX6_errorPosition ∈ BW := bw_at 664 (by decide +kernel) (by first | rfl | decide +kernel)
theorem b_in_yX6_errorPosition : Cond.instanceMethod yX6_errorPosition ∈ BW := bw_at 665 (by decide +kernel) (by first | rfl | decide +kernel)
theorem b_se_yX6_errorPosition : Cond.selects RX6 yX6_errorPosition yX6_errorPosition ∈ BW := bw_at 666 (by decide +kernel) (by first | rfl | decide +kernel)
theorem b_co_yX6_errorPosition : Cond.code yX6_errorPosition cX6_errorPosition 1 (some .int) ∈ BW := bw_at 667 (by decide +kernel) (by first | rfl | decide +kernel)
theorem b_ml_X6_220 : Cond.methodLink RX6 220 yX5_findError ∈ BW := bw_at 668 (by decide +kernel) (by first | rfl | decide +kernel)
theorem b_in_yX5_findError : Cond.instanceMethod yX5_findError ∈ BW := bw_at 669 (by decide +kernel) (by first | rfl | decide +kernel)
theorem b_se_yX5_findError : Cond.selects RX5 yX5_findError yX5_findError ∈ BW := bw_at 670 (by decide +kernel) (by first | rfl | decide +kernel)
theorem b_co_yX5_findError : Cond.code yX5_findError cX5_findError 2 (some .int) ∈ BW := bw_at 671 (by decide +kernel) (by first | rfl | decide +kernel)
theorem b_ml_X5_31 : Cond.methodLink RX5 31 yX5_rewind ∈ BW := bw_at 672 (by decide +kernel) (by first | rfl | decide +kernel)
theorem b_in_yX5_rewind : Cond.instanceMethod yX5_rewind ∈ BW := bw_at 673 (by decide +kernel) (by first | rfl | decide +kernel)
theorem b_se_yX5_rewind : Cond.selects RX5 yX5_rewind yX5_rewind ∈ BW := bw_at 674 (by decide +kernel) (by first | rfl | decide +kernel)
theorem b_co_yX5_rewind : Cond.code yX5_rewind cX5_rewind 1 none ∈ BW := bw_at 675 (by decide +kernel) (by first | rfl | decide +kernel)
theorem b_ml_X5_34 : Cond.methodLink RX5 34 yX5_readCommand ∈ BW := bw_at 676 (by decide +kernel) (by first | rfl | decide +kernel)
theorem b_in_yX5_readCommand : Cond.instanceMethod yX5_readCommand ∈ BW := bw_at 677 (by decide +kernel) (by first | rfl | decide +kernel)
theorem b_se_yX5_readCommand : Cond.selects RX5 yX5_readCommand yX5_readCommand ∈ BW := bw_at 678 (by decide +kernel) (by first | rfl | decide +kernel)
theorem b_co_yX5_readCommand : Cond.code yX5_readCommand cX5_readCommand 1 (some .boolean) ∈ BW := bw_at 679 (by decide +kernel) (by first | rfl | decide +kernel)
theorem b_ml_X5_42 : Cond.methodLink RX5 42 yX5_codeHere ∈ BW := bw_at 680 (by decide +kernel) (by first | rfl | decide +kernel)
theorem b_in_yX5_codeHere : Cond.instanceMethod yX5_codeHere ∈ BW := bw_at 682 (by decide +kernel) (by first | rfl | decide +kernel)
theorem b_co_yX5_codeHere : Cond.code yX5_codeHere cX5_codeHere 1 (some .int) ∈ BW := bw_at 683 (by decide +kernel) (by first | rfl | decide +kernel)
theorem b_ml_X5_38 : Cond.methodLink RX5 38 yX5_readSign ∈ BW := bw_at 684 (by decide +kernel) (by first | rfl | decide +kernel)
theorem b_in_yX5_readSign : Cond.instanceMethod yX5_readSign ∈ BW := bw_at 685 (by decide +kernel) (by first | rfl | decide +kernel)
theorem b_se_yX5_readSign : Cond.selects RX5 yX5_readSign yX5_readSign ∈ BW := bw_at 686 (by decide +kernel) (by first | rfl | decide +kernel)
theorem b_co_yX5_readSign : Cond.code yX5_readSign cX5_readSign 2 (some .boolean) ∈ BW := bw_at 687 (by decide +kernel) (by first | rfl | decide +kernel)
theorem b_ml_X5_46 : Cond.methodLink RX5 46 yX5_readDigit ∈ BW := bw_at 688 (by decide +kernel) (by first | rfl | decide +kernel)
theorem b_in_yX5_readDigit : Cond.instanceMethod yX5_readDigit ∈ BW := bw_at 690 (by decide +kernel) (by first | rfl | decide +kernel)
theorem b_co_yX5_readDigit : Cond.code yX5_readDigit cX5_readDigit 1 (some .boolean) ∈ BW := bw_at 691 (by decide +kernel) (by first | rfl | decide +kernel)
theorem nest_X5_55 : Cond.methodLinkNest RX5 55 yX6_isWithin RX6 ∈ lw_tbl := List.mem_of_getElem? (i := 692) (by decide +kernel)
theorem b_ml_X5_59 : Cond.methodLink RX5 59 yX5_takeDigit ∈ BW := bw_at 693 (by decide +kernel) (by first | rfl | decide +kernel)
theorem b_in_yX5_takeDigit : Cond.instanceMethod yX5_takeDigit ∈ BW := bw_at 695 (by decide +kernel) (by first | rfl | decide +kernel)
theorem b_co_yX5_takeDigit : Cond.code yX5_takeDigit cX5_takeDigit 2 (some .int) ∈ BW := bw_at 696 (by decide +kernel) (by first | rfl | decide +kernel)
theorem b_ml_X5_62 : Cond.methodLink RX5 62 yX5_addArgument ∈ BW := bw_at 697 (by decide +kernel) (by first | rfl | decide +kernel)
theorem b_in_yX5_addArgument : Cond.instanceMethod yX5_addArgument ∈ BW := bw_at 699 (by decide +kernel) (by first | rfl | decide +kernel)
theorem b_co_yX5_addArgument : Cond.code yX5_addArgument cX5_addArgument 2 (some .boolean) ∈ BW := bw_at 700 (by decide +kernel) (by first | rfl | decide +kernel)
theorem b_ml_X5_49 : Cond.methodLink RX5 49 yX5_readNumber ∈ BW := bw_at 701 (by decide +kernel) (by first | rfl | decide +kernel)
theorem b_in_yX5_readNumber : Cond.instanceMethod yX5_readNumber ∈ BW := bw_at 703 (by decide +kernel) (by first | rfl | decide +kernel)
theorem b_co_yX5_readNumber : Cond.code yX5_readNumber cX5_readNumber 3 (some .boolean) ∈ BW := bw_at 704 (by decide +kernel) (by first | rfl | decide +kernel)
theorem b_ml_X5_52 : Cond.methodLink RX5 52 yX5_readPlace ∈ BW := bw_at 705 (by decide +kernel) (by first | rfl | decide +kernel)
theorem b_in_yX5_readPlace : Cond.instanceMethod yX5_readPlace ∈ BW := bw_at 707 (by decide +kernel) (by first | rfl | decide +kernel)
theorem b_co_yX5_readPlace : Cond.code yX5_readPlace cX5_readPlace 1 (some .boolean) ∈ BW := bw_at 708 (by decide +kernel) (by first | rfl | decide +kernel)
theorem b_ml_L_150 : Cond.methodLink RL 150 yX6_execute ∈ BW := bw_at 709 (by decide +kernel) (by first | rfl | decide +kernel)
theorem b_in_yX6_execute : Cond.instanceMethod yX6_execute ∈ BW := bw_at 710 (by decide +kernel) (by first | rfl | decide +kernel)
theorem b_se_yX6_execute : Cond.selects RX6 yX6_execute yX6_execute ∈ BW := bw_at 711 (by decide +kernel) (by first | rfl | decide +kernel)
theorem b_co_yX6_execute : Cond.code yX6_execute cX6_execute 2 (some .int) ∈ BW := bw_at 712 (by decide +kernel) (by first | rfl | decide +kernel)
theorem b_ml_X6_223 : Cond.methodLink RX6 223 yX5_rewind ∈ BW := bw_at 713 (by decide +kernel) (by first | rfl | decide +kernel)
theorem b_ml_X6_226 : Cond.methodLink RX6 226 yX5_readCommand ∈ BW := bw_at 714 (by decide +kernel) (by first | rfl | decide +kernel)
theorem b_ml_X6_230 : Cond.methodLink RX6 230 yX6_runCommand ∈ BW := bw_at 715 (by decide +kernel) (by first | rfl | decide +kernel)
theorem b_in_yX6_runCommand : Cond.instanceMethod yX6_runCommand ∈ BW := bw_at 717 (by decide +kernel) (by first | rfl | decide +kernel)
theorem b_co_yX6_runCommand : Cond.code yX6_runCommand cX6_runCommand 3 (some .int) ∈ BW := bw_at 718 (by decide +kernel) (by first | rfl | decide +kernel)
theorem b_ml_X6_284 : Cond.methodLink RX6 284 yX5_argument ∈ BW := bw_at 719 (by decide +kernel) (by first | rfl | decide +kernel)
theorem b_in_yX5_argument : Cond.instanceMethod yX5_argument ∈ BW := bw_at 720 (by decide +kernel) (by first | rfl | decide +kernel)
theorem b_se_yX5_argument : Cond.selects RX5 yX5_argument yX5_argument ∈ BW := bw_at 721 (by decide +kernel) (by first | rfl | decide +kernel)
theorem b_co_yX5_argument : Cond.code yX5_argument cX5_argument 2 (some .int) ∈ BW := bw_at 722 (by decide +kernel) (by first | rfl | decide +kernel)
theorem b_ml_X6_233 : Cond.methodLink RX6 233 yX6_isError ∈ BW := bw_at 723 (by decide +kernel) (by first | rfl | decide +kernel)
theorem b_ml_X6_236 : Cond.methodLink RX6 236 yX5_readSign ∈ BW := bw_at 724 (by decide +kernel) (by first | rfl | decide +kernel)
theorem b_ml_L_154 : Cond.methodLink RL 154 yX6_undo ∈ BW := bw_at 725 (by decide +kernel) (by first | rfl | decide +kernel)
theorem b_in_yX6_undo : Cond.instanceMethod yX6_undo ∈ BW := bw_at 726 (by decide +kernel) (by first | rfl | decide +kernel)
theorem b_se_yX6_undo : Cond.selects RX6 yX6_undo yX6_undo ∈ BW := bw_at 727 (by decide +kernel) (by first | rfl | decide +kernel)
theorem b_co_yX6_undo : Cond.code yX6_undo cX6_undo 1 (some .int) ∈ BW := bw_at 728 (by decide +kernel) (by first | rfl | decide +kernel)
theorem b_ml_X6_239 : Cond.methodLink RX6 239 yX0_takeLatest ∈ BW := bw_at 729 (by decide +kernel) (by first | rfl | decide +kernel)
theorem b_in_yX0_takeLatest : Cond.instanceMethod yX0_takeLatest ∈ BW := bw_at 730 (by decide +kernel) (by first | rfl | decide +kernel)
theorem b_se_yX0_takeLatest : Cond.selects RX0 yX0_takeLatest yX0_takeLatest ∈ BW := bw_at 731 (by decide +kernel) (by first | rfl | decide +kernel)
theorem b_co_yX0_takeLatest : Cond.code yX0_takeLatest cX0_takeLatest 3 (some .int) ∈ BW := bw_at 732 (by decide +kernel) (by first | rfl | decide +kernel)
theorem b_ml_L_158 : Cond.methodLink RL 158 yX6_save ∈ BW := bw_at 733 (by decide +kernel) (by first | rfl | decide +kernel)
theorem b_in_yX6_save : Cond.instanceMethod yX6_save ∈ BW := bw_at 734 (by decide +kernel) (by first | rfl | decide +kernel)
theorem b_se_yX6_save : Cond.selects RX6 yX6_save yX6_save ∈ BW := bw_at 735 (by decide +kernel) (by first | rfl | decide +kernel)
theorem b_co_yX6_save : Cond.code yX6_save cX6_save 1 (some .int) ∈ BW := bw_at 736 (by decide +kernel) (by first | rfl | decide +kernel)
theorem b_ml_X6_243 : Cond.methodLink RX6 243 yX4_copyFrom ∈ BW := bw_at 737 (by decide +kernel) (by first | rfl | decide +kernel)
theorem b_ml_L_162 : Cond.methodLink RL 162 yX6_restore ∈ BW := bw_at 738 (by decide +kernel) (by first | rfl | decide +kernel)
theorem b_in_yX6_restore : Cond.instanceMethod yX6_restore ∈ BW := bw_at 739 (by decide +kernel) (by first | rfl | decide +kernel)
theorem b_se_yX6_restore : Cond.selects RX6 yX6_restore yX6_restore ∈ BW := bw_at 740 (by decide +kernel) (by first | rfl | decide +kernel)
theorem b_co_yX6_restore : Cond.code yX6_restore cX6_restore 1 (some .int) ∈ BW := bw_at 741 (by decide +kernel) (by first | rfl | decide +kernel)
theorem b_cl_L_10 : Cond.classLink RL 10 RX7 ∈ BW := bw_at 742 (by decide +kernel) (by first | rfl | decide +kernel)
theorem b_is_X7 : Cond.instantiable RX7 11 ∈ BW := bw_at 743 (by decide +kernel) (by first | rfl | decide +kernel)
theorem b_ml_L_12 : Cond.methodLink RL 12 yX7_init ∈ BW := bw_at 744 (by decide +kernel) (by first | rfl | decide +kernel)
theorem b_in_yX7_init : Cond.instanceMethod yX7_init ∈ BW := bw_at 745 (by decide +kernel) (by first | rfl | decide +kernel)
theorem b_co_yX7_init : Cond.code yX7_init cX7_init 2 none ∈ BW := bw_at 746 (by decide +kernel) (by first | rfl | decide +kernel)
theorem b_ml_X7_1 : Cond.methodLink RX7 1 objectInit ∈ BW := bw_at 747 (by decide +kernel) (by first | rfl | decide +kernel)
theorem b_fl_X7_7 : Cond.fieldLink RX7 7 RX7 "z" "[I" ∈ BW := bw_at 748 (by decide +kernel) (by first | rfl | decide +kernel)
theorem b_fl_X7_13 : Cond.fieldLink RX7 13 RX7 "past" "[I" ∈ BW := bw_at 749 (by decide +kernel) (by first | rfl | decide +kernel)
theorem b_fl_X7_41 : Cond.fieldLink RX7 41 RX7 "pastMany" "I" ∈ BW := bw_at 750 (by decide +kernel) (by first | rfl | decide +kernel)
theorem b_fl_X7_16 : Cond.fieldLink RX7 16 RX7 "kept" "[I" ∈ BW := bw_at 751 (by decide +kernel) (by first | rfl | decide +kernel)
theorem b_fl_X7_45 : Cond.fieldLink RX7 45 RX7 "isKept" "Z" ∈ BW := bw_at 752 (by decide +kernel) (by first | rfl | decide +kernel)
theorem b_fl_X7_19 : Cond.fieldLink RX7 19 RX7 "buffer" "[C" ∈ BW := bw_at 753 (by decide +kernel) (by first | rfl | decide +kernel)
theorem b_fl_X7_142 : Cond.fieldLink RX7 142 RX7 "typed" "I" ∈ BW := bw_at 754 (by decide +kernel) (by first | rfl | decide +kernel)
theorem b_fl_X7_23 : Cond.fieldLink RX7 23 RX7 "told" "[I" ∈ BW := bw_at 755 (by decide +kernel) (by first | rfl | decide +kernel)
theorem b_fl_X7_162 : Cond.fieldLink RX7 162 RX7 "toldMany" "I" ∈ BW := bw_at 756 (by decide +kernel) (by first | rfl | decide +kernel)
theorem b_fl_X7_145 : Cond.fieldLink RX7 145 RX7 "spot" "I" ∈ BW := bw_at 757 (by decide +kernel) (by first | rfl | decide +kernel)
theorem b_fl_X7_148 : Cond.fieldLink RX7 148 RX7 "wrong" "I" ∈ BW := bw_at 758 (by decide +kernel) (by first | rfl | decide +kernel)
theorem b_ac_char : Cond.arrayClass .char ∈ BW := bw_at 782 (by decide +kernel) (by first | rfl | decide +kernel)
theorem b_ml_L_157 : Cond.methodLink RL 157 yX7_undo ∈ BW := bw_at 783 (by decide +kernel) (by first | rfl | decide +kernel)
theorem b_in_yX7_undo : Cond.instanceMethod yX7_undo ∈ BW := bw_at 784 (by decide +kernel) (by first | rfl | decide +kernel)
theorem b_se_yX7_undo : Cond.selects RX7 yX7_undo yX7_undo ∈ BW := bw_at 785 (by decide +kernel) (by first | rfl | decide +kernel)
theorem b_co_yX7_undo : Cond.code yX7_undo cX7_undo 2 (some .int) ∈ BW := bw_at 786 (by decide +kernel) (by first | rfl | decide +kernel)
theorem b_ml_L_161 : Cond.methodLink RL 161 yX7_save ∈ BW := bw_at 787 (by decide +kernel) (by first | rfl | decide +kernel)
theorem b_in_yX7_save : Cond.instanceMethod yX7_save ∈ BW := bw_at 788 (by decide +kernel) (by first | rfl | decide +kernel)
theorem b_se_yX7_save : Cond.selects RX7 yX7_save yX7_save ∈ BW := bw_at 789 (by decide +kernel) (by first | rfl | decide +kernel)
theorem b_co_yX7_save : Cond.code yX7_save cX7_save 2 (some .int) ∈ BW := bw_at 790 (by decide +kernel) (by first | rfl | decide +kernel)
theorem b_ml_L_165 : Cond.methodLink RL 165 yX7_restore ∈ BW := bw_at 791 (by decide +kernel) (by first | rfl | decide +kernel)
theorem b_in_yX7_restore : Cond.instanceMethod yX7_restore ∈ BW := bw_at 792 (by decide +kernel) (by first | rfl | decide +kernel)
theorem b_se_yX7_restore : Cond.selects RX7 yX7_restore yX7_restore ∈ BW := bw_at 793 (by decide +kernel) (by first | rfl | decide +kernel)
theorem b_co_yX7_restore : Cond.code yX7_restore cX7_restore 2 (some .int) ∈ BW := bw_at 794 (by decide +kernel) (by first | rfl | decide +kernel)
theorem b_ml_X7_49 : Cond.methodLink RX7 49 yX7_record ∈ BW := bw_at 795 (by decide +kernel) (by first | rfl | decide +kernel)
theorem b_in_yX7_record : Cond.instanceMethod yX7_record ∈ BW := bw_at 797 (by decide +kernel) (by first | rfl | decide +kernel)
theorem b_co_yX7_record : Cond.code yX7_record cX7_record 2 none ∈ BW := bw_at 798 (by decide +kernel) (by first | rfl | decide +kernel)
theorem b_ml_L_17 : Cond.methodLink RL 17 yX7_addReplica ∈ BW := bw_at 799 (by decide +kernel) (by first | rfl | decide +kernel)
theorem b_in_yX7_addReplica : Cond.instanceMethod yX7_addReplica ∈ BW := bw_at 800 (by decide +kernel) (by first | rfl | decide +kernel)
theorem b_se_yX7_addReplica : Cond.selects RX7 yX7_addReplica yX7_addReplica ∈ BW := bw_at 801 (by decide +kernel) (by first | rfl | decide +kernel)
theorem b_co_yX7_addReplica : Cond.code yX7_addReplica cX7_addReplica 4 (some .int) ∈ BW := bw_at 802 (by decide +kernel) (by first | rfl | decide +kernel)
theorem b_ml_X7_52 : Cond.methodLink RX7 52 yX7_isPlace ∈ BW := bw_at 803 (by decide +kernel) (by first | rfl | decide +kernel)
theorem b_in_yX7_isPlace : Cond.instanceMethod yX7_isPlace ∈ BW := bw_at 805 (by decide +kernel) (by first | rfl | decide +kernel)
theorem b_co_yX7_isPlace : Cond.code yX7_isPlace cX7_isPlace 2 (some .boolean) ∈ BW := bw_at 806 (by decide +kernel) (by first | rfl | decide +kernel)
theorem b_ml_X7_34 : Cond.methodLink RX7 34 yX7_isReplica ∈ BW := bw_at 807 (by decide +kernel) (by first | rfl | decide +kernel)
theorem b_in_yX7_isReplica : Cond.instanceMethod yX7_isReplica ∈ BW := bw_at 809 (by decide +kernel) (by first | rfl | decide +kernel)
theorem b_co_yX7_isReplica : Cond.code yX7_isReplica cX7_isReplica 2 (some .boolean) ∈ BW := bw_at 810 (by decide +kernel) (by first | rfl | decide +kernel)
theorem b_ml_X7_26 : Cond.methodLink RX7 26 yX7_in ∈ BW := bw_at 811 (by decide +kernel) (by first | rfl | decide +kernel)
theorem b_st_yX7_in : Cond.static yX7_in ∈ BW := bw_at 812 (by decide +kernel) (by first | rfl | decide +kernel)
theorem b_co_yX7_in : Cond.code yX7_in cX7_in 3 (some .boolean) ∈ BW := bw_at 813 (by decide +kernel) (by first | rfl | decide +kernel)
theorem b_ml_X7_30 : Cond.methodLink RX7 30 yX7_ofReplica ∈ BW := bw_at 814 (by decide +kernel) (by first | rfl | decide +kernel)
theorem b_in_yX7_ofReplica : Cond.instanceMethod yX7_ofReplica ∈ BW := bw_at 816 (by decide +kernel) (by first | rfl | decide +kernel)
theorem b_co_yX7_ofReplica : Cond.code yX7_ofReplica cX7_ofReplica 3 (some .int) ∈ BW := bw_at 817 (by decide +kernel) (by first | rfl | decide +kernel)
theorem b_ml_X7_55 : Cond.methodLink RX7 55 yX7_layReplica ∈ BW := bw_at 818 (by decide +kernel) (by first | rfl | decide +kernel)
theorem b_in_yX7_layReplica : Cond.instanceMethod yX7_layReplica ∈ BW := bw_at 820 (by decide +kernel) (by first | rfl | decide +kernel)
theorem b_co_yX7_layReplica : Cond.code yX7_layReplica cX7_layReplica 4 none ∈ BW := bw_at 821 (by decide +kernel) (by first | rfl | decide +kernel)
theorem b_ml_X7_59 : Cond.methodLink RX7 59 yX7_at ∈ BW := bw_at 822 (by decide +kernel) (by first | rfl | decide +kernel)
theorem b_in_yX7_at : Cond.instanceMethod yX7_at ∈ BW := bw_at 824 (by decide +kernel) (by first | rfl | decide +kernel)
theorem b_co_yX7_at : Cond.code yX7_at cX7_at 2 (some .int) ∈ BW := bw_at 825 (by decide +kernel) (by first | rfl | decide +kernel)
theorem b_ml_L_22 : Cond.methodLink RL 22 yX7_drop ∈ BW := bw_at 826 (by decide +kernel) (by first | rfl | decide +kernel)
theorem b_in_yX7_drop : Cond.instanceMethod yX7_drop ∈ BW := bw_at 827 (by decide +kernel) (by first | rfl | decide +kernel)
theorem b_se_yX7_drop : Cond.selects RX7 yX7_drop yX7_drop ∈ BW := bw_at 828 (by decide +kernel) (by first | rfl | decide +kernel)
theorem b_co_yX7_drop : Cond.code yX7_drop cX7_drop 4 (some .int) ∈ BW := bw_at 829 (by decide +kernel) (by first | rfl | decide +kernel)
theorem b_ml_X7_63 : Cond.methodLink RX7 63 yX7_homes ∈ BW := bw_at 830 (by decide +kernel) (by first | rfl | decide +kernel)
theorem b_in_yX7_homes : Cond.instanceMethod yX7_homes ∈ BW := bw_at 832 (by decide +kernel) (by first | rfl | decide +kernel)
theorem b_co_yX7_homes : Cond.code yX7_homes cX7_homes 4 (some .int) ∈ BW := bw_at 833 (by decide +kernel) (by first | rfl | decide +kernel)
theorem b_ml_X7_38 : Cond.methodLink RX7 38 yX7_ofSession ∈ BW := bw_at 834 (by decide +kernel) (by first | rfl | decide +kernel)
theorem b_in_yX7_ofSession : Cond.instanceMethod yX7_ofSession ∈ BW := bw_at 836 (by decide +kernel) (by first | rfl | decide +kernel)
theorem b_co_yX7_ofSession : Cond.code yX7_ofSession cX7_ofSession 3 (some .int) ∈ BW := bw_at 837 (by decide +kernel) (by first | rfl | decide +kernel)
theorem b_ml_X7_66 : Cond.methodLink RX7 66 yX7_laySession ∈ BW := bw_at 838 (by decide +kernel) (by first | rfl | decide +kernel)
theorem b_in_yX7_laySession : Cond.instanceMethod yX7_laySession ∈ BW := bw_at 840 (by decide +kernel) (by first | rfl | decide +kernel)
theorem b_co_yX7_laySession : Cond.code yX7_laySession cX7_laySession 4 none ∈ BW := bw_at 841 (by decide +kernel) (by first | rfl | decide +kernel)
theorem b_ml_L_26 : Cond.methodLink RL 26 yX7_setRate ∈ BW := bw_at 842 (by decide +kernel) (by first | rfl | decide +kernel)
theorem b_in_yX7_setRate : Cond.instanceMethod yX7_setRate ∈ BW := bw_at 843 (by decide +kernel) (by first | rfl | decide +kernel)
theorem b_se_yX7_setRate : Cond.selects RX7 yX7_setRate yX7_setRate ∈ BW := bw_at 844 (by decide +kernel) (by first | rfl | decide +kernel)
theorem b_co_yX7_setRate : Cond.code yX7_setRate cX7_setRate 4 (some .int) ∈ BW := bw_at 845 (by decide +kernel) (by first | rfl | decide +kernel)
theorem b_ml_L_31 : Cond.methodLink RL 31 yX7_stop ∈ BW := bw_at 846 (by decide +kernel) (by first | rfl | decide +kernel)
theorem b_in_yX7_stop : Cond.instanceMethod yX7_stop ∈ BW := bw_at 847 (by decide +kernel) (by first | rfl | decide +kernel)
theorem b_se_yX7_stop : Cond.selects RX7 yX7_stop yX7_stop ∈ BW := bw_at 848 (by decide +kernel) (by first | rfl | decide +kernel)
theorem b_co_yX7_stop : Cond.code yX7_stop cX7_stop 4 (some .int) ∈ BW := bw_at 849 (by decide +kernel) (by first | rfl | decide +kernel)
theorem b_ml_L_35 : Cond.methodLink RL 35 yX7_jumpBack ∈ BW := bw_at 850 (by decide +kernel) (by first | rfl | decide +kernel)
theorem b_in_yX7_jumpBack : Cond.instanceMethod yX7_jumpBack ∈ BW := bw_at 851 (by decide +kernel) (by first | rfl | decide +kernel)
theorem b_se_yX7_jumpBack : Cond.selects RX7 yX7_jumpBack yX7_jumpBack ∈ BW := bw_at 852 (by decide +kernel) (by first | rfl | decide +kernel)
theorem b_co_yX7_jumpBack : Cond.code yX7_jumpBack cX7_jumpBack 4 (some .int) ∈ BW := bw_at 853 (by decide +kernel) (by first | rfl | decide +kernel)
theorem b_ml_X7_69 : Cond.methodLink RX7 69 yX7_whyNotJump ∈ BW := bw_at 854 (by decide +kernel) (by first | rfl | decide +kernel)
theorem b_in_yX7_whyNotJump : Cond.instanceMethod yX7_whyNotJump ∈ BW := bw_at 856 (by decide +kernel) (by first | rfl | decide +kernel)
theorem b_co_yX7_whyNotJump : Cond.code yX7_whyNotJump cX7_whyNotJump 3 (some .int) ∈ BW := bw_at 857 (by decide +kernel) (by first | rfl | decide +kernel)
theorem b_ml_X7_72 : Cond.methodLink RX7 72 yX7_jumps ∈ BW := bw_at 858 (by decide +kernel) (by first | rfl | decide +kernel)
theorem b_in_yX7_jumps : Cond.instanceMethod yX7_jumps ∈ BW := bw_at 860 (by decide +kernel) (by first | rfl | decide +kernel)
theorem b_co_yX7_jumps : Cond.code yX7_jumps cX7_jumps 4 (some .int) ∈ BW := bw_at 861 (by decide +kernel) (by first | rfl | decide +kernel)
theorem b_ml_L_39 : Cond.methodLink RL 39 yX7_tick ∈ BW := bw_at 862 (by decide +kernel) (by first | rfl | decide +kernel)
theorem b_in_yX7_tick : Cond.instanceMethod yX7_tick ∈ BW := bw_at 863 (by decide +kernel) (by first | rfl | decide +kernel)
theorem b_se_yX7_tick : Cond.selects RX7 yX7_tick yX7_tick ∈ BW := bw_at 864 (by decide +kernel) (by first | rfl | decide +kernel)
theorem b_co_yX7_tick : Cond.code yX7_tick cX7_tick 4 (some .int) ∈ BW := bw_at 865 (by decide +kernel) (by first | rfl | decide +kernel)
theorem b_ml_X7_78 : Cond.methodLink RX7 78 yX7_ticks ∈ BW := bw_at 866 (by decide +kernel) (by first | rfl | decide +kernel)
theorem b_in_yX7_ticks : Cond.instanceMethod yX7_ticks ∈ BW := bw_at 868 (by decide +kernel) (by first | rfl | decide +kernel)
theorem b_co_yX7_ticks : Cond.code yX7_ticks cX7_ticks 3 none ∈ BW := bw_at 869 (by decide +kernel) (by first | rfl | decide +kernel)
theorem b_ml_X7_75 : Cond.methodLink RX7 75 yX7_atBehind ∈ BW := bw_at 870 (by decide +kernel) (by first | rfl | decide +kernel)
theorem b_in_yX7_atBehind : Cond.instanceMethod yX7_atBehind ∈ BW := bw_at 872 (by decide +kernel) (by first | rfl | decide +kernel)
theorem b_co_yX7_atBehind : Cond.code yX7_atBehind cX7_atBehind 4 (some .int) ∈ BW := bw_at 873 (by decide +kernel) (by first | rfl | decide +kernel)
theorem b_ml_L_44 : Cond.methodLink RL 44 yX7_replicas ∈ BW := bw_at 874 (by decide +kernel) (by first | rfl | decide +kernel)
theorem b_in_yX7_replicas : Cond.instanceMethod yX7_replicas ∈ BW := bw_at 875 (by decide +kernel) (by first | rfl | decide +kernel)
theorem b_se_yX7_replicas : Cond.selects RX7 yX7_replicas yX7_replicas ∈ BW := bw_at 876 (by decide +kernel) (by first | rfl | decide +kernel)
theorem b_co_yX7_replicas : Cond.code yX7_replicas cX7_replicas 3 (some .int) ∈ BW := bw_at 877 (by decide +kernel) (by first | rfl | decide +kernel)
theorem b_ml_L_48 : Cond.methodLink RL 48 yX7_replica ∈ BW := bw_at 878 (by decide +kernel) (by first | rfl | decide +kernel)
theorem b_in_yX7_replica : Cond.instanceMethod yX7_replica ∈ BW := bw_at 879 (by decide +kernel) (by first | rfl | decide +kernel)
theorem b_se_yX7_replica : Cond.selects RX7 yX7_replica yX7_replica ∈ BW := bw_at 880 (by decide +kernel) (by first | rfl | decide +kernel)
theorem b_co_yX7_replica : Cond.code yX7_replica cX7_replica 3 (some .int) ∈ BW := bw_at 881 (by decide +kernel) (by first | rfl | decide +kernel)
theorem b_ml_L_52 : Cond.methodLink RL 52 yX7_length ∈ BW := bw_at 882 (by decide +kernel) (by first | rfl | decide +kernel)
theorem b_in_yX7_length : Cond.instanceMethod yX7_length ∈ BW := bw_at 883 (by decide +kernel) (by first | rfl | decide +kernel)
theorem b_se_yX7_length : Cond.selects RX7 yX7_length yX7_length ∈ BW := bw_at 884 (by decide +kernel) (by first | rfl | decide +kernel)
theorem b_co_yX7_length : Cond.code yX7_length cX7_length 1 (some .int) ∈ BW := bw_at 885 (by decide +kernel) (by first | rfl | decide +kernel)
theorem b_ml_L_56 : Cond.methodLink RL 56 yX7_logged ∈ BW := bw_at 886 (by decide +kernel) (by first | rfl | decide +kernel)
theorem b_in_yX7_logged : Cond.instanceMethod yX7_logged ∈ BW := bw_at 887 (by decide +kernel) (by first | rfl | decide +kernel)
theorem b_se_yX7_logged : Cond.selects RX7 yX7_logged yX7_logged ∈ BW := bw_at 888 (by decide +kernel) (by first | rfl | decide +kernel)
theorem b_co_yX7_logged : Cond.code yX7_logged cX7_logged 3 (some .int) ∈ BW := bw_at 889 (by decide +kernel) (by first | rfl | decide +kernel)
theorem b_ml_X7_82 : Cond.methodLink RX7 82 yX7_ofWrite ∈ BW := bw_at 890 (by decide +kernel) (by first | rfl | decide +kernel)
theorem b_in_yX7_ofWrite : Cond.instanceMethod yX7_ofWrite ∈ BW := bw_at 892 (by decide +kernel) (by first | rfl | decide +kernel)
theorem b_co_yX7_ofWrite : Cond.code yX7_ofWrite cX7_ofWrite 3 (some .int) ∈ BW := bw_at 893 (by decide +kernel) (by first | rfl | decide +kernel)
theorem b_ml_L_60 : Cond.methodLink RL 60 yX7_position ∈ BW := bw_at 894 (by decide +kernel) (by first | rfl | decide +kernel)
theorem b_in_yX7_position : Cond.instanceMethod yX7_position ∈ BW := bw_at 895 (by decide +kernel) (by first | rfl | decide +kernel)
theorem b_se_yX7_position : Cond.selects RX7 yX7_position yX7_position ∈ BW := bw_at 896 (by decide +kernel) (by first | rfl | decide +kernel)
theorem b_co_yX7_position : Cond.code yX7_position cX7_position 2 (some .int) ∈ BW := bw_at 897 (by decide +kernel) (by first | rfl | decide +kernel)
theorem b_ml_L_64 : Cond.methodLink RL 64 yX7_version ∈ BW := bw_at 898 (by decide +kernel) (by first | rfl | decide +kernel)
theorem b_in_yX7_version : Cond.instanceMethod yX7_version ∈ BW := bw_at 899 (by decide +kernel) (by first | rfl | decide +kernel)
theorem b_se_yX7_version : Cond.selects RX7 yX7_version yX7_version ∈ BW := bw_at 900 (by decide +kernel) (by first | rfl | decide +kernel)
theorem b_co_yX7_version : Cond.code yX7_version cX7_version 3 (some .int) ∈ BW := bw_at 901 (by decide +kernel) (by first | rfl | decide +kernel)
theorem b_ml_X7_85 : Cond.methodLink RX7 85 yX7_isKey ∈ BW := bw_at 902 (by decide +kernel) (by first | rfl | decide +kernel)
theorem b_st_yX7_isKey : Cond.static yX7_isKey ∈ BW := bw_at 903 (by decide +kernel) (by first | rfl | decide +kernel)
theorem b_co_yX7_isKey : Cond.code yX7_isKey cX7_isKey 1 (some .boolean) ∈ BW := bw_at 904 (by decide +kernel) (by first | rfl | decide +kernel)
theorem b_ml_X7_88 : Cond.methodLink RX7 88 yX7_versionAt ∈ BW := bw_at 905 (by decide +kernel) (by first | rfl | decide +kernel)
theorem b_in_yX7_versionAt : Cond.instanceMethod yX7_versionAt ∈ BW := bw_at 907 (by decide +kernel) (by first | rfl | decide +kernel)
theorem b_co_yX7_versionAt : Cond.code yX7_versionAt cX7_versionAt 4 (some .int) ∈ BW := bw_at 908 (by decide +kernel) (by first | rfl | decide +kernel)
theorem b_ml_L_68 : Cond.methodLink RL 68 yX7_value ∈ BW := bw_at 909 (by decide +kernel) (by first | rfl | decide +kernel)
theorem b_in_yX7_value : Cond.instanceMethod yX7_value ∈ BW := bw_at 910 (by decide +kernel) (by first | rfl | decide +kernel)
theorem b_se_yX7_value : Cond.selects RX7 yX7_value yX7_value ∈ BW := bw_at 911 (by decide +kernel) (by first | rfl | decide +kernel)
theorem b_co_yX7_value : Cond.code yX7_value cX7_value 3 (some .int) ∈ BW := bw_at 912 (by decide +kernel) (by first | rfl | decide +kernel)
theorem b_ml_X7_91 : Cond.methodLink RX7 91 yX7_valueOf ∈ BW := bw_at 913 (by decide +kernel) (by first | rfl | decide +kernel)
theorem b_in_yX7_valueOf : Cond.instanceMethod yX7_valueOf ∈ BW := bw_at 915 (by decide +kernel) (by first | rfl | decide +kernel)
theorem b_co_yX7_valueOf : Cond.code yX7_valueOf cX7_valueOf 2 (some .int) ∈ BW := bw_at 916 (by decide +kernel) (by first | rfl | decide +kernel)
theorem b_ml_L_72 : Cond.methodLink RL 72 yX7_missing ∈ BW := bw_at 917 (by decide +kernel) (by first | rfl | decide +kernel)
theorem b_in_yX7_missing : Cond.instanceMethod yX7_missing ∈ BW := bw_at 918 (by decide +kernel) (by first | rfl | decide +kernel)
theorem b_se_yX7_missing : Cond.selects RX7 yX7_missing yX7_missing ∈ BW := bw_at 919 (by decide +kernel) (by first | rfl | decide +kernel)
theorem b_co_yX7_missing : Cond.code yX7_missing cX7_missing 5 (some .int) ∈ BW := bw_at 920 (by decide +kernel) (by first | rfl | decide +kernel)
theorem b_ml_L_76 : Cond.methodLink RL 76 yX7_answers ∈ BW := bw_at 921 (by decide +kernel) (by first | rfl | decide +kernel)
theorem b_in_yX7_answers : Cond.instanceMethod yX7_answers ∈ BW := bw_at 922 (by decide +kernel) (by first | rfl | decide +kernel)
theorem b_se_yX7_answers : Cond.selects RX7 yX7_answers yX7_answers ∈ BW := bw_at 923 (by decide +kernel) (by first | rfl | decide +kernel)
theorem b_co_yX7_answers : Cond.code yX7_answers cX7_answers 2 (some .int) ∈ BW := bw_at 924 (by decide +kernel) (by first | rfl | decide +kernel)
theorem b_ml_L_81 : Cond.methodLink RL 81 yX7_open ∈ BW := bw_at 925 (by decide +kernel) (by first | rfl | decide +kernel)
theorem b_in_yX7_open : Cond.instanceMethod yX7_open ∈ BW := bw_at 926 (by decide +kernel) (by first | rfl | decide +kernel)
theorem b_se_yX7_open : Cond.selects RX7 yX7_open yX7_open ∈ BW := bw_at 927 (by decide +kernel) (by first | rfl | decide +kernel)
theorem b_co_yX7_open : Cond.code yX7_open cX7_open 6 (some .int) ∈ BW := bw_at 928 (by decide +kernel) (by first | rfl | decide +kernel)
theorem b_ml_L_85 : Cond.methodLink RL 85 yX7_close ∈ BW := bw_at 929 (by decide +kernel) (by first | rfl | decide +kernel)
theorem b_in_yX7_close : Cond.instanceMethod yX7_close ∈ BW := bw_at 930 (by decide +kernel) (by first | rfl | decide +kernel)
theorem b_se_yX7_close : Cond.selects RX7 yX7_close yX7_close ∈ BW := bw_at 931 (by decide +kernel) (by first | rfl | decide +kernel)
theorem b_co_yX7_close : Cond.code yX7_close cX7_close 2 (some .int) ∈ BW := bw_at 932 (by decide +kernel) (by first | rfl | decide +kernel)
theorem b_ml_X7_94 : Cond.methodLink RX7 94 yX7_isSession ∈ BW := bw_at 933 (by decide +kernel) (by first | rfl | decide +kernel)
theorem b_in_yX7_isSession : Cond.instanceMethod yX7_isSession ∈ BW := bw_at 935 (by decide +kernel) (by first | rfl | decide +kernel)
theorem b_co_yX7_isSession : Cond.code yX7_isSession cX7_isSession 2 (some .boolean) ∈ BW := bw_at 936 (by decide +kernel) (by first | rfl | decide +kernel)
theorem b_ml_L_89 : Cond.methodLink RL 89 yX7_move ∈ BW := bw_at 937 (by decide +kernel) (by first | rfl | decide +kernel)
theorem b_in_yX7_move : Cond.instanceMethod yX7_move ∈ BW := bw_at 938 (by decide +kernel) (by first | rfl | decide +kernel)
theorem b_se_yX7_move : Cond.selects RX7 yX7_move yX7_move ∈ BW := bw_at 939 (by decide +kernel) (by first | rfl | decide +kernel)
theorem b_co_yX7_move : Cond.code yX7_move cX7_move 3 (some .int) ∈ BW := bw_at 940 (by decide +kernel) (by first | rfl | decide +kernel)
theorem b_ml_X7_97 : Cond.methodLink RX7 97 yX7_moves ∈ BW := bw_at 941 (by decide +kernel) (by first | rfl | decide +kernel)
theorem b_in_yX7_moves : Cond.instanceMethod yX7_moves ∈ BW := bw_at 943 (by decide +kernel) (by first | rfl | decide +kernel)
theorem b_co_yX7_moves : Cond.code yX7_moves cX7_moves 4 (some .int) ∈ BW := bw_at 944 (by decide +kernel) (by first | rfl | decide +kernel)
theorem b_ml_L_93 : Cond.methodLink RL 93 yX7_change ∈ BW := bw_at 945 (by decide +kernel) (by first | rfl | decide +kernel)
theorem b_in_yX7_change : Cond.instanceMethod yX7_change ∈ BW := bw_at 946 (by decide +kernel) (by first | rfl | decide +kernel)
theorem b_se_yX7_change : Cond.selects RX7 yX7_change yX7_change ∈ BW := bw_at 947 (by decide +kernel) (by first | rfl | decide +kernel)
theorem b_co_yX7_change : Cond.code yX7_change cX7_change 5 (some .int) ∈ BW := bw_at 948 (by decide +kernel) (by first | rfl | decide +kernel)
theorem b_ml_L_97 : Cond.methodLink RL 97 yX7_hand ∈ BW := bw_at 949 (by decide +kernel) (by first | rfl | decide +kernel)
theorem b_in_yX7_hand : Cond.instanceMethod yX7_hand ∈ BW := bw_at 950 (by decide +kernel) (by first | rfl | decide +kernel)
theorem b_se_yX7_hand : Cond.selects RX7 yX7_hand yX7_hand ∈ BW := bw_at 951 (by decide +kernel) (by first | rfl | decide +kernel)
theorem b_co_yX7_hand : Cond.code yX7_hand cX7_hand 4 (some .int) ∈ BW := bw_at 952 (by decide +kernel) (by first | rfl | decide +kernel)
theorem b_ml_X7_103 : Cond.methodLink RX7 103 yX7_whyNotHand ∈ BW := bw_at 953 (by decide +kernel) (by first | rfl | decide +kernel)
theorem b_in_yX7_whyNotHand : Cond.instanceMethod yX7_whyNotHand ∈ BW := bw_at 955 (by decide +kernel) (by first | rfl | decide +kernel)
theorem b_co_yX7_whyNotHand : Cond.code yX7_whyNotHand cX7_whyNotHand 3 (some .int) ∈ BW := bw_at 956 (by decide +kernel) (by first | rfl | decide +kernel)
theorem b_ml_X7_106 : Cond.methodLink RX7 106 yX7_hands ∈ BW := bw_at 957 (by decide +kernel) (by first | rfl | decide +kernel)
theorem b_in_yX7_hands : Cond.instanceMethod yX7_hands ∈ BW := bw_at 959 (by decide +kernel) (by first | rfl | decide +kernel)
theorem b_co_yX7_hands : Cond.code yX7_hands cX7_hands 3 (some .int) ∈ BW := bw_at 960 (by decide +kernel) (by first | rfl | decide +kernel)
theorem b_ml_X7_100 : Cond.methodLink RX7 100 yX7_more ∈ BW := bw_at 961 (by decide +kernel) (by first | rfl | decide +kernel)
theorem b_st_yX7_more : Cond.static yX7_more ∈ BW := bw_at 962 (by decide +kernel) (by first | rfl | decide +kernel)
theorem b_co_yX7_more : Cond.code yX7_more cX7_more 2 (some .int) ∈ BW := bw_at 963 (by decide +kernel) (by first | rfl | decide +kernel)
theorem b_ml_L_101 : Cond.methodLink RL 101 yX7_sessions ∈ BW := bw_at 964 (by decide +kernel) (by first | rfl | decide +kernel)
theorem b_in_yX7_sessions : Cond.instanceMethod yX7_sessions ∈ BW := bw_at 965 (by decide +kernel) (by first | rfl | decide +kernel)
theorem b_se_yX7_sessions : Cond.selects RX7 yX7_sessions yX7_sessions ∈ BW := bw_at 966 (by decide +kernel) (by first | rfl | decide +kernel)
theorem b_co_yX7_sessions : Cond.code yX7_sessions cX7_sessions 3 (some .int) ∈ BW := bw_at 967 (by decide +kernel) (by first | rfl | decide +kernel)
theorem b_ml_L_105 : Cond.methodLink RL 105 yX7_session ∈ BW := bw_at 968 (by decide +kernel) (by first | rfl | decide +kernel)
theorem b_in_yX7_session : Cond.instanceMethod yX7_session ∈ BW := bw_at 969 (by decide +kernel) (by first | rfl | decide +kernel)
theorem b_se_yX7_session : Cond.selects RX7 yX7_session yX7_session ∈ BW := bw_at 970 (by decide +kernel) (by first | rfl | decide +kernel)
theorem b_co_yX7_session : Cond.code yX7_session cX7_session 3 (some .int) ∈ BW := bw_at 971 (by decide +kernel) (by first | rfl | decide +kernel)
theorem b_ml_X7_113 : Cond.methodLink RX7 113 yX7_need ∈ BW := bw_at 972 (by decide +kernel) (by first | rfl | decide +kernel)
theorem b_in_yX7_need : Cond.instanceMethod yX7_need ∈ BW := bw_at 974 (by decide +kernel) (by first | rfl | decide +kernel)
theorem b_co_yX7_need : Cond.code yX7_need cX7_need 2 (some .int) ∈ BW := bw_at 975 (by decide +kernel) (by first | rfl | decide +kernel)
theorem b_ml_X7_109 : Cond.methodLink RX7 109 yX7_has ∈ BW := bw_at 976 (by decide +kernel) (by first | rfl | decide +kernel)
theorem b_in_yX7_has : Cond.instanceMethod yX7_has ∈ BW := bw_at 978 (by decide +kernel) (by first | rfl | decide +kernel)
theorem b_co_yX7_has : Cond.code yX7_has cX7_has 3 (some .boolean) ∈ BW := bw_at 979 (by decide +kernel) (by first | rfl | decide +kernel)
theorem b_ml_L_109 : Cond.methodLink RL 109 yX7_write ∈ BW := bw_at 980 (by decide +kernel) (by first | rfl | decide +kernel)
theorem b_in_yX7_write : Cond.instanceMethod yX7_write ∈ BW := bw_at 981 (by decide +kernel) (by first | rfl | decide +kernel)
theorem b_se_yX7_write : Cond.selects RX7 yX7_write yX7_write ∈ BW := bw_at 982 (by decide +kernel) (by first | rfl | decide +kernel)
theorem b_co_yX7_write : Cond.code yX7_write cX7_write 5 (some .int) ∈ BW := bw_at 983 (by decide +kernel) (by first | rfl | decide +kernel)
theorem b_ml_X7_116 : Cond.methodLink RX7 116 yX7_whyNotWrite ∈ BW := bw_at 984 (by decide +kernel) (by first | rfl | decide +kernel)
theorem b_in_yX7_whyNotWrite : Cond.instanceMethod yX7_whyNotWrite ∈ BW := bw_at 986 (by decide +kernel) (by first | rfl | decide +kernel)
theorem b_co_yX7_whyNotWrite : Cond.code yX7_whyNotWrite cX7_whyNotWrite 4 (some .int) ∈ BW := bw_at 987 (by decide +kernel) (by first | rfl | decide +kernel)
theorem b_ml_X7_120 : Cond.methodLink RX7 120 yX7_writes ∈ BW := bw_at 988 (by decide +kernel) (by first | rfl | decide +kernel)
theorem b_in_yX7_writes : Cond.instanceMethod yX7_writes ∈ BW := bw_at 990 (by decide +kernel) (by first | rfl | decide +kernel)
theorem b_co_yX7_writes : Cond.code yX7_writes cX7_writes 5 (some .int) ∈ BW := bw_at 991 (by decide +kernel) (by first | rfl | decide +kernel)
theorem b_ml_L_113 : Cond.methodLink RL 113 yX7_read ∈ BW := bw_at 992 (by decide +kernel) (by first | rfl | decide +kernel)
theorem b_in_yX7_read : Cond.instanceMethod yX7_read ∈ BW := bw_at 993 (by decide +kernel) (by first | rfl | decide +kernel)
theorem b_se_yX7_read : Cond.selects RX7 yX7_read yX7_read ∈ BW := bw_at 994 (by decide +kernel) (by first | rfl | decide +kernel)
theorem b_co_yX7_read : Cond.code yX7_read cX7_read 4 (some .int) ∈ BW := bw_at 995 (by decide +kernel) (by first | rfl | decide +kernel)
theorem b_ml_X7_136 : Cond.methodLink RX7 136 yX7_whyNotRead ∈ BW := bw_at 996 (by decide +kernel) (by first | rfl | decide +kernel)
theorem b_in_yX7_whyNotRead : Cond.instanceMethod yX7_whyNotRead ∈ BW := bw_at 998 (by decide +kernel) (by first | rfl | decide +kernel)
theorem b_co_yX7_whyNotRead : Cond.code yX7_whyNotRead cX7_whyNotRead 3 (some .int) ∈ BW := bw_at 999 (by decide +kernel) (by first | rfl | decide +kernel)
theorem b_ml_X7_129 : Cond.methodLink RX7 129 yX7_waitsAtHome ∈ BW := bw_at 1000 (by decide +kernel) (by first | rfl | decide +kernel)
theorem b_in_yX7_waitsAtHome : Cond.instanceMethod yX7_waitsAtHome ∈ BW := bw_at 1002 (by decide +kernel) (by first | rfl | decide +kernel)
theorem b_co_yX7_waitsAtHome : Cond.code yX7_waitsAtHome cX7_waitsAtHome 4 (some .int) ∈ BW := bw_at 1003 (by decide +kernel) (by first | rfl | decide +kernel)
theorem b_ml_X7_126 : Cond.methodLink RX7 126 yX7_waitOf ∈ BW := bw_at 1004 (by decide +kernel) (by first | rfl | decide +kernel)
theorem b_in_yX7_waitOf : Cond.instanceMethod yX7_waitOf ∈ BW := bw_at 1006 (by decide +kernel) (by first | rfl | decide +kernel)
theorem b_co_yX7_waitOf : Cond.code yX7_waitOf cX7_waitOf 6 (some .int) ∈ BW := bw_at 1007 (by decide +kernel) (by first | rfl | decide +kernel)
theorem b_ml_X7_123 : Cond.methodLink RX7 123 yX7_needed ∈ BW := bw_at 1008 (by decide +kernel) (by first | rfl | decide +kernel)
theorem b_in_yX7_needed : Cond.instanceMethod yX7_needed ∈ BW := bw_at 1010 (by decide +kernel) (by first | rfl | decide +kernel)
theorem b_co_yX7_needed : Cond.code yX7_needed cX7_needed 4 (some .int) ∈ BW := bw_at 1011 (by decide +kernel) (by first | rfl | decide +kernel)
theorem b_ml_X7_139 : Cond.methodLink RX7 139 yX7_reads ∈ BW := bw_at 1012 (by decide +kernel) (by first | rfl | decide +kernel)
theorem b_in_yX7_reads : Cond.instanceMethod yX7_reads ∈ BW := bw_at 1014 (by decide +kernel) (by first | rfl | decide +kernel)
theorem b_co_yX7_reads : Cond.code yX7_reads cX7_reads 4 (some .int) ∈ BW := bw_at 1015 (by decide +kernel) (by first | rfl | decide +kernel)
theorem b_ml_X7_132 : Cond.methodLink RX7 132 yX7_answer ∈ BW := bw_at 1016 (by decide +kernel) (by first | rfl | decide +kernel)
theorem b_in_yX7_answer : Cond.instanceMethod yX7_answer ∈ BW := bw_at 1018 (by decide +kernel) (by first | rfl | decide +kernel)
theorem b_co_yX7_answer : Cond.code yX7_answer cX7_answer 6 (some .int) ∈ BW := bw_at 1019 (by decide +kernel) (by first | rfl | decide +kernel)
theorem b_ml_L_117 : Cond.methodLink RL 117 yX7_readAt ∈ BW := bw_at 1020 (by decide +kernel) (by first | rfl | decide +kernel)
theorem b_in_yX7_readAt : Cond.instanceMethod yX7_readAt ∈ BW := bw_at 1021 (by decide +kernel) (by first | rfl | decide +kernel)
theorem b_se_yX7_readAt : Cond.selects RX7 yX7_readAt yX7_readAt ∈ BW := bw_at 1022 (by decide +kernel) (by first | rfl | decide +kernel)
theorem b_co_yX7_readAt : Cond.code yX7_readAt cX7_readAt 4 (some .int) ∈ BW := bw_at 1023 (by decide +kernel) (by first | rfl | decide +kernel)
theorem b_ml_L_121 : Cond.methodLink RL 121 yX7_latest ∈ BW := bw_at 1024 (by decide +kernel) (by first | rfl | decide +kernel)
theorem b_in_yX7_latest : Cond.instanceMethod yX7_latest ∈ BW := bw_at 1025 (by decide +kernel) (by first | rfl | decide +kernel)
theorem b_se_yX7_latest : Cond.selects RX7 yX7_latest yX7_latest ∈ BW := bw_at 1026 (by decide +kernel) (by first | rfl | decide +kernel)
theorem b_co_yX7_latest : Cond.code yX7_latest cX7_latest 2 (some .int) ∈ BW := bw_at 1027 (by decide +kernel) (by first | rfl | decide +kernel)
theorem b_ml_L_125 : Cond.methodLink RL 125 yX7_waitFor ∈ BW := bw_at 1028 (by decide +kernel) (by first | rfl | decide +kernel)
theorem b_in_yX7_waitFor : Cond.instanceMethod yX7_waitFor ∈ BW := bw_at 1029 (by decide +kernel) (by first | rfl | decide +kernel)
theorem b_se_yX7_waitFor : Cond.selects RX7 yX7_waitFor yX7_waitFor ∈ BW := bw_at 1030 (by decide +kernel) (by first | rfl | decide +kernel)
theorem b_co_yX7_waitFor : Cond.code yX7_waitFor cX7_waitFor 4 (some .int) ∈ BW := bw_at 1031 (by decide +kernel) (by first | rfl | decide +kernel)
theorem b_ml_L_129 : Cond.methodLink RL 129 yX7_bestReplica ∈ BW := bw_at 1032 (by decide +kernel) (by first | rfl | decide +kernel)
theorem b_in_yX7_bestReplica : Cond.instanceMethod yX7_bestReplica ∈ BW := bw_at 1033 (by decide +kernel) (by first | rfl | decide +kernel)
theorem b_se_yX7_bestReplica : Cond.selects RX7 yX7_bestReplica yX7_bestReplica ∈ BW := bw_at 1034 (by decide +kernel) (by first | rfl | decide +kernel)
theorem b_co_yX7_bestReplica : Cond.code yX7_bestReplica cX7_bestReplica 8 (some .int) ∈ BW := bw_at 1035 (by decide +kernel) (by first | rfl | decide +kernel)
theorem b_ml_L_133 : Cond.methodLink RL 133 yX7_keysAfter ∈ BW := bw_at 1036 (by decide +kernel) (by first | rfl | decide +kernel)
theorem b_in_yX7_keysAfter : Cond.instanceMethod yX7_keysAfter ∈ BW := bw_at 1037 (by decide +kernel) (by first | rfl | decide +kernel)
theorem b_se_yX7_keysAfter : Cond.selects RX7 yX7_keysAfter yX7_keysAfter ∈ BW := bw_at 1038 (by decide +kernel) (by first | rfl | decide +kernel)
theorem b_co_yX7_keysAfter : Cond.code yX7_keysAfter cX7_keysAfter 6 (some .int) ∈ BW := bw_at 1039 (by decide +kernel) (by first | rfl | decide +kernel)
theorem b_ml_L_137 : Cond.methodLink RL 137 yX7_catchUp ∈ BW := bw_at 1040 (by decide +kernel) (by first | rfl | decide +kernel)
theorem b_in_yX7_catchUp : Cond.instanceMethod yX7_catchUp ∈ BW := bw_at 1041 (by decide +kernel) (by first | rfl | decide +kernel)
theorem b_se_yX7_catchUp : Cond.selects RX7 yX7_catchUp yX7_catchUp ∈ BW := bw_at 1042 (by decide +kernel) (by first | rfl | decide +kernel)
theorem b_co_yX7_catchUp : Cond.code yX7_catchUp cX7_catchUp 5 (some .int) ∈ BW := bw_at 1043 (by decide +kernel) (by first | rfl | decide +kernel)
theorem b_ml_L_141 : Cond.methodLink RL 141 yX7_append ∈ BW := bw_at 1044 (by decide +kernel) (by first | rfl | decide +kernel)
theorem b_in_yX7_append : Cond.instanceMethod yX7_append ∈ BW := bw_at 1045 (by decide +kernel) (by first | rfl | decide +kernel)
theorem b_se_yX7_append : Cond.selects RX7 yX7_append yX7_append ∈ BW := bw_at 1046 (by decide +kernel) (by first | rfl | decide +kernel)
theorem b_co_yX7_append : Cond.code yX7_append cX7_append 2 (some .int) ∈ BW := bw_at 1047 (by decide +kernel) (by first | rfl | decide +kernel)
theorem b_ml_L_145 : Cond.methodLink RL 145 yX7_clearText ∈ BW := bw_at 1048 (by decide +kernel) (by first | rfl | decide +kernel)
theorem b_in_yX7_clearText : Cond.instanceMethod yX7_clearText ∈ BW := bw_at 1049 (by decide +kernel) (by first | rfl | decide +kernel)
theorem b_se_yX7_clearText : Cond.selects RX7 yX7_clearText yX7_clearText ∈ BW := bw_at 1050 (by decide +kernel) (by first | rfl | decide +kernel)
theorem b_co_yX7_clearText : Cond.code yX7_clearText cX7_clearText 2 (some .int) ∈ BW := bw_at 1051 (by decide +kernel) (by first | rfl | decide +kernel)
theorem b_ml_L_149 : Cond.methodLink RL 149 yX7_errorPosition ∈ BW := bw_at 1052 (by decide +kernel) (by first | rfl | decide +kernel)
theorem b_in_yX7_errorPosition : Cond.instanceMethod yX7_errorPosition ∈ BW := bw_at 1053 (by decide +kernel) (by first | rfl | decide +kernel)
theorem b_se_yX7_errorPosition : Cond.selects RX7 yX7_errorPosition yX7_errorPosition ∈ BW := bw_at 1054 (by decide +kernel) (by first | rfl | decide +kernel)
theorem b_co_yX7_errorPosition : Cond.code yX7_errorPosition cX7_errorPosition 2 (some .int) ∈ BW := bw_at 1055 (by decide +kernel) (by first | rfl | decide +kernel)
theorem b_ml_X7_171 : Cond.methodLink RX7 171 yX7_readCommand ∈ BW := bw_at 1056 (by decide +kernel) (by first | rfl | decide +kernel)
theorem b_in_yX7_readCommand : Cond.instanceMethod yX7_readCommand ∈ BW := bw_at 1058 (by decide +kernel) (by first | rfl | decide +kernel)
theorem b_co_yX7_readCommand : Cond.code yX7_readCommand cX7_readCommand 3 none ∈ BW := bw_at 1059 (by decide +kernel) (by first | rfl | decide +kernel)
theorem b_ml_X7_151 : Cond.methodLink RX7 151 yX7_letter ∈ BW := bw_at 1060 (by decide +kernel) (by first | rfl | decide +kernel)
theorem b_in_yX7_letter : Cond.instanceMethod yX7_letter ∈ BW := bw_at 1062 (by decide +kernel) (by first | rfl | decide +kernel)
theorem b_co_yX7_letter : Cond.code yX7_letter cX7_letter 1 (some .int) ∈ BW := bw_at 1063 (by decide +kernel) (by first | rfl | decide +kernel)
theorem b_ml_X7_155 : Cond.methodLink RX7 155 yX7_wants ∈ BW := bw_at 1064 (by decide +kernel) (by first | rfl | decide +kernel)
theorem b_in_yX7_wants : Cond.instanceMethod yX7_wants ∈ BW := bw_at 1066 (by decide +kernel) (by first | rfl | decide +kernel)
theorem b_co_yX7_wants : Cond.code yX7_wants cX7_wants 2 none ∈ BW := bw_at 1067 (by decide +kernel) (by first | rfl | decide +kernel)
theorem b_ml_X7_165 : Cond.methodLink RX7 165 yX7_number ∈ BW := bw_at 1068 (by decide +kernel) (by first | rfl | decide +kernel)
theorem b_in_yX7_number : Cond.instanceMethod yX7_number ∈ BW := bw_at 1070 (by decide +kernel) (by first | rfl | decide +kernel)
theorem b_co_yX7_number : Cond.code yX7_number cX7_number 3 (some .int) ∈ BW := bw_at 1071 (by decide +kernel) (by first | rfl | decide +kernel)
theorem b_ml_X7_159 : Cond.methodLink RX7 159 yX7_digit ∈ BW := bw_at 1072 (by decide +kernel) (by first | rfl | decide +kernel)
theorem b_in_yX7_digit : Cond.instanceMethod yX7_digit ∈ BW := bw_at 1074 (by decide +kernel) (by first | rfl | decide +kernel)
theorem b_co_yX7_digit : Cond.code yX7_digit cX7_digit 2 (some .int) ∈ BW := bw_at 1075 (by decide +kernel) (by first | rfl | decide +kernel)
theorem b_ml_X7_168 : Cond.methodLink RX7 168 yX7_place ∈ BW := bw_at 1076 (by decide +kernel) (by first | rfl | decide +kernel)
theorem b_in_yX7_place : Cond.instanceMethod yX7_place ∈ BW := bw_at 1078 (by decide +kernel) (by first | rfl | decide +kernel)
theorem b_co_yX7_place : Cond.code yX7_place cX7_place 2 (some .int) ∈ BW := bw_at 1079 (by decide +kernel) (by first | rfl | decide +kernel)
theorem b_ml_L_153 : Cond.methodLink RL 153 yX7_execute ∈ BW := bw_at 1080 (by decide +kernel) (by first | rfl | decide +kernel)
theorem b_in_yX7_execute : Cond.instanceMethod yX7_execute ∈ BW := bw_at 1081 (by decide +kernel) (by first | rfl | decide +kernel)
theorem b_se_yX7_execute : Cond.selects RX7 yX7_execute yX7_execute ∈ BW := bw_at 1082 (by decide +kernel) (by first | rfl | decide +kernel)
theorem b_co_yX7_execute : Cond.code yX7_execute cX7_execute 2 (some .int) ∈ BW := bw_at 1083 (by decide +kernel) (by first | rfl | decide +kernel)
theorem b_ml_X7_174 : Cond.methodLink RX7 174 yX7_errorPosition ∈ BW := bw_at 1084 (by decide +kernel) (by first | rfl | decide +kernel)
theorem b_ml_X7_177 : Cond.methodLink RX7 177 yX7_executeOne ∈ BW := bw_at 1085 (by decide +kernel) (by first | rfl | decide +kernel)
theorem b_in_yX7_executeOne : Cond.instanceMethod yX7_executeOne ∈ BW := bw_at 1087 (by decide +kernel) (by first | rfl | decide +kernel)
theorem b_co_yX7_executeOne : Cond.code yX7_executeOne cX7_executeOne 6 (some .int) ∈ BW := bw_at 1088 (by decide +kernel) (by first | rfl | decide +kernel)
theorem b_X0 : ∀ w ∈ wsX00, w ∈ BW := bw_sub _ [231, 233, 235] (by decide +kernel) (by decide +kernel)
theorem b_X1 : ∀ w ∈ wsX10, w ∈ BW := bw_sub _ [99, 101, 103, 105] (by decide +kernel) (by decide +kernel)
theorem b_X2 : ∀ w ∈ wsX20, w ∈ BW := bw_sub _ [131, 133, 135, 137, 139] (by decide +kernel) (by decide +kernel)
theorem b_X3 : ∀ w ∈ wsX30, w ∈ BW := bw_sub _ [169, 171, 173, 175, 177, 179, 181, 183, 185, 187, 189] (by decide +kernel) (by decide +kernel)
theorem b_X4 : ∀ w ∈ wsX40, w ∈ BW := bw_sub _ [204, 206, 208, 210, 212, 214, 216] (by decide +kernel) (by decide +kernel)
theorem b_X5 : ∀ w ∈ wsX50, w ∈ BW := bw_sub _ [251, 253, 255, 257, 259, 261] (by decide +kernel) (by decide +kernel)
theorem b_X6 : ∀ w ∈ wsX60, w ∈ BW := bw_sub _ [269, 271, 273, 275, 277] (by decide +kernel) (by decide +kernel)
theorem b_X7 : ∀ w ∈ wsX70, w ∈ BW := bw_sub _ [759, 761, 763, 765, 767, 769, 771, 773, 775, 777, 779] (by decide +kernel) (by decide +kernel)
def nestWs : List Cond := [Cond.methodLinkNest RX4 11 yX1_init RX6, Cond.methodLinkNest RX4 43 yX2_init RX6, Cond.methodLinkNest RX4 44 yX3_init RX6, Cond.methodLinkNest RX6 32 yX5_init RX6, Cond.methodLinkNest RX4 45 yX6_isWithin RX6, Cond.methodLinkNest RX0 33 yX6_isError RX6, Cond.methodLinkNest RX3 63 yX6_isKey RX6, Cond.methodLinkNest RX5 55 yX6_isWithin RX6]
end
section
/-! ===== the engine: a world whose shape stays, as a table of ints (my own rows, over the kit's) ===== -/
abbrev ID : Type := Nat × Nat × Nat
abbrev VV : Type := Option (Int32 ⊕ Option ID)
abbrev iv (x : Int32) : VV := some (.inl x)
abbrev rv (i : ID) : VV := some (.inr (some i))
abbrev nv : VV := some (.inr none)
abbrev uv : VV := none
abbrev MEM : Type := ID → Nat → Int32
abbrev EV : Type := va_G × (ID → Nat) × (Nat → ClassId)
/-- a cell's kind by its tag: an object of class ci, or an array: its type's number, its length -/
def me_kd (t : Nat) : Nat ⊕ (Nat × Nat) := match t with
  | 0 => .inl 6
  | 1 => .inl 4
  | 2 => .inl 1
  | 3 => .inr (0, 200)
  | 4 => .inr (0, 200)
  | 5 => .inr (0, 200)
  | 6 => .inr (2, 5)
  | 7 => .inr (3, 8)
  | 8 => .inl 2
  | 9 => .inl 3
  | 10 => .inr (0, 12)
  | 11 => .inr (0, 12)
  | 12 => .inl 0
  | 13 => .inr (4, 6)
  | 14 => .inl 5
  | 15 => .inr (0, 80)
  | 16 => .inr (0, 3)
  | 17 => .inl 7
  | 18 => .inr (0, 894)
  | 19 => .inr (0, 4470)
  | 20 => .inr (0, 894)
  | 21 => .inr (1, 80)
  | _ => .inr (0, 168)
def me_kmax (t : Nat) : Nat := match t with
  | 0 => 1
  | 1 => 8
  | 2 => 8
  | 3 => 8
  | 4 => 8
  | 5 => 8
  | 6 => 8
  | 7 => 8
  | 8 => 8
  | 9 => 8
  | 10 => 8
  | 11 => 8
  | 12 => 1
  | 13 => 1
  | 14 => 1
  | 15 => 1
  | 16 => 1
  | 17 => 1
  | 18 => 1
  | 19 => 1
  | 20 => 1
  | 21 => 1
  | 22 => 1
  | _ => 0
def me_imax (t : Nat) : Nat := match t with
  | 8 => 5
  | 9 => 8
  | 10 => 8
  | 11 => 8
  | _ => 1
def vd (id : ID) : Prop := id.2.1 < me_kmax id.1 ∧ id.2.2 < me_imax id.1
/-- the slots that hold a cell, which stays -/
def me_sl (id : ID) (j : Nat) : Option ID := match id with
  | (t, k, i) => match t with
    | 0 => (match j with | 0 => some (1, 0, 0) | 1 => some (1, 1, 0) | 3 => some (12, 0, 0) | 4 => some (14, 0, 0) | _ => none)
    | 1 => (match j with | 0 => some (2, k, 0) | 1 => some (6, k, 0) | 2 => some (7, k, 0) | _ => none)
    | 2 => (match j with | 1 => some (3, k, 0) | 2 => some (4, k, 0) | 3 => some (5, k, 0) | _ => none)
    | 6 => some (8, k, j)
    | 7 => some (9, k, j)
    | 9 => (match j with | 9 => some (10, k, i) | 10 => some (11, k, i) | _ => none)
    | 12 => (match j with | 0 => some (13, 0, 0) | _ => none)
    | 13 => some (1, j + 2, 0)
    | 14 => (match j with | 0 => some (15, 0, 0) | 4 => some (16, 0, 0) | _ => none)
    | 17 => (match j with | 0 => some (18, 0, 0) | 1 => some (19, 0, 0) | 3 => some (20, 0, 0) | 5 => some (21, 0, 0) | 7 => some (22, 0, 0) | _ => none)
    | _ => none
/-- the slots of type boolean -/
def me_bo (t j : Nat) : Bool := match t with
  | 0 => j == 2
  | 8 => j == 0 || j == 3
  | 9 => j == 0
  | 17 => j == 4
  | _ => false
def me_nf (ci : Nat) : Nat := match ci with
  | 0 => 3
  | 1 => 4
  | 2 => 5
  | 3 => 11
  | 4 => 7
  | 5 => 6
  | 6 => 5
  | _ => 11
/-- how many slots a cell has -/
def me_wd (t : Nat) : Nat := match me_kd t with
  | .inl ci => me_nf ci
  | .inr q => q.2
def me_sv (E : EV) (mem : MEM) (id : ID) (j : Nat) : Value := match me_sl id j with
  | some r => .ref (E.2.1 r)
  | none => .int (mem id j)
def WR1 (E : EV) (mem : MEM) (id : ID) (H : Heap) : Prop := match me_kd id.1 with
  | .inl ci => t_OB (E.2.1 id) (E.1.1 ci) (me_nf ci) (E.1.2 ci) H (me_sv E mem id)
  | .inr q => if q.1 < 2 then H[E.2.1 id]? = some (vp_cell (E.2.2 q.1) (q.2, .inl (mem id))) else H[E.2.1 id]? = some (vp_cell (E.2.2 q.1) (q.2, .inr (.inr (.inr (.inr fun j => (me_sl id j).map E.2.1)))))
def WR (E : EV) (mem : MEM) (H : Heap) : Prop := (∀ id, vd id → WR1 E mem id H) ∧ ∀ id j, vd id → me_bo id.1 j = true → mem id j = 0 ∨ mem id j = 1
/-- the same on all that is there -/
def EqV (m m' : MEM) : Prop := ∀ id, vd id → ∀ j, j < me_wd id.1 → m id j = m' id j
theorem EqV.rfl' {m : MEM} : EqV m m := fun _ _ _ _ => rfl
theorem me_vp_congr {cA : ClassId} {n : Nat} {f g : Nat → Int32} (h : ∀ j, j < n → f j = g j) : vp_cell cA (n, .inl f) = vp_cell cA (n, .inl g) := by
  rw [vp_cell_i, vp_cell_i]
  unfold arrV
  congr 1
  apply congrArg
  funext j
  exact congrArg Value.int (h j.val j.isLt)
theorem WR1.congr {E : EV} {m m' : MEM} {id : ID} {H H' : Heap} (h : WR1 E m id H) (hm : ∀ j, j < me_wd id.1 → m id j = m' id j) (hH : H'[E.2.1 id]? = H[E.2.1 id]?) : WR1 E m' id H' := by
  unfold me_wd at hm
  unfold WR1 at h ⊢
  cases hk : me_kd id.1 with
  | inl ci =>
    rw [hk] at h hm
    obtain ⟨cell, q, r1, r2, r3⟩ := h
    refine ⟨cell, hH.trans q, r1, r2, fun k hk => ?_⟩
    rw [r3 k hk]
    unfold me_sv
    cases me_sl id k with
    | some r => rfl
    | none => exact congrArg (fun z => some (Value.int z)) (hm k hk)
  | inr q =>
    rw [hk] at h hm
    by_cases hq : q.1 < 2
    · simp only [if_pos hq] at h ⊢
      rw [hH, h, me_vp_congr hm]
    · simp only [if_neg hq] at h ⊢
      rw [hH, h]
theorem WR.eqv {E : EV} {m m' : MEM} {H : Heap} (h : WR E m H) (hm : EqV m m') (hb : ∀ id j, vd id → me_bo id.1 j = true → j < me_wd id.1) : WR E m' H :=
  ⟨fun id hv => (h.1 id hv).congr (hm id hv) rfl, fun id j hv hj => by rw [← hm id hv j (hb id j hv hj)]; exact h.2 id j hv hj⟩
theorem me_bo_wd (t j : Nat) (h : me_bo t j = true) : j < me_wd t := by
  unfold me_bo at h
  split at h <;> simp at h
  · subst h; decide
  · rcases h with rfl | rfl <;> decide
  · subst h; decide
  · subst h; decide
/-- one cell moved -/
theorem WR.put {E : EV} {m m' : MEM} {H H' : Heap} {i0 : ID} (hE : ∀ a b, vd a → vd b → E.2.1 a = E.2.1 b → a = b) (h : WR E m H) (hv : vd i0) (h1 : WR1 E m' i0 H') (hm : ∀ id, id ≠ i0 → m' id = m id) (ho : ∀ q, q ≠ E.2.1 i0 → H'[q]? = H[q]?) (hb : ∀ j, me_bo i0.1 j = true → m' i0 j = 0 ∨ m' i0 j = 1) : WR E m' H' := by
  refine ⟨fun id hid => ?_, fun id j hid hj => ?_⟩
  · by_cases e : id = i0
    · subst e; exact h1
    · exact (h.1 id hid).congr (fun j _ => by rw [hm id e]) (ho _ (fun z => e (hE _ _ hid hv z)))
  · by_cases e : id = i0
    · subst e; exact hb j hj
    · rw [hm id e]; exact h.2 id j hid hj
def vvv (E : EV) (x : Int32 ⊕ Option ID) : Value := match x with
  | .inl x => .int x
  | .inr none => .null
  | .inr (some i) => .ref (E.2.1 i)
def vv (E : EV) (x : VV) : Value := match x with
  | some y => vvv E y
  | none => .null
theorem vvv_cat (E : EV) (x : Int32 ⊕ Option ID) : (vvv E x).category = 1 := by
  rcases x with x | _ | x <;> rfl
theorem vv_cat (E : EV) (x : VV) : (vv E x).category = 1 := by
  rcases x with _ | x
  · rfl
  · exact vvv_cat E x
theorem vv_cats (E : EV) (l : List VV) : ((l.map (vv E)).map fun v => v.category).sum = l.length := by
  induction l with
  | nil => rfl
  | cons a l ih => simp only [List.map_cons, List.sum_cons, List.length_cons, vv_cat, ih]; omega
def LR (E : EV) (lsA : Array Slot) (nL : Nat) (ls : List VV) : Prop := lsA.size = nL ∧ lv_wf lsA ∧ ∀ (i : Nat) (x : Int32 ⊕ Option ID), ls[i]? = some (some x) → lsA[i]? = some (.val (vvv E x))
def me_enc (E : EV) (ls : List VV) : List (Nat × Value) := (List.range ls.length).filterMap fun j => match ls[j]? with
  | some (some y) => some (j, vvv E y)
  | _ => none
theorem me_enc_in {E : EV} {ls : List VV} {j : Nat} {y : Int32 ⊕ Option ID} (h : ls[j]? = some (some y)) : (j, vvv E y) ∈ me_enc E ls :=
  List.mem_filterMap.mpr ⟨j, List.mem_range.mpr (List.getElem?_eq_some_iff.mp h).1, by rw [h]⟩
theorem LR.toHas {E : EV} {lsA : Array Slot} {nL : Nat} {ls : List VV} (h : LR E lsA nL ls) : lv_has lsA nL (me_enc E ls) := by
  refine ⟨h.1, h.2.1, fun q hq => ?_⟩
  obtain ⟨j, -, hj⟩ := List.mem_filterMap.mp hq
  cases e : ls[j]? with
  | none => rw [e] at hj; cases hj
  | some z =>
    cases z with
    | none => rw [e] at hj; cases hj
    | some y =>
      rw [e] at hj
      cases hj
      exact h.2.2 j y e
theorem LR.ofStore {E : EV} {lsA : Array Slot} {nL i : Nat} {ls : List VV} {x : Int32 ⊕ Option ID} (hh : lv_has lsA nL ((i, vvv E x) :: (me_enc E ls).filter (fun q => !(q.1 == i) && !(q.1 + 1 == i && q.2.category == 2)))) : LR E lsA nL (ls.set i (some x)) := by
  refine ⟨hh.1, hh.2.1, fun j y hj => ?_⟩
  by_cases e : i = j
  · subst e
    have hlt : i < ls.length := by
      have := (List.getElem?_eq_some_iff.mp hj).1
      simpa using this
    rw [List.getElem?_set_self hlt] at hj
    cases hj
    exact hh.2.2 (i, vvv E x) List.mem_cons_self
  · rw [List.getElem?_set_ne e] at hj
    refine hh.2.2 (j, vvv E y) (List.mem_cons_of_mem _ (List.mem_filter.mpr ⟨me_enc_in hj, ?_⟩))
    simp [vvv_cat, Ne.symm e]
abbrev CX : Type := Program × Launch × Env × Room × State × MethodId × Array Value × List Frame × Method × Code × Nat × Nat × (State → Prop) × (Nat → Prop) × Heap
def tyE (E : EV) : List (ClassId × FieldType) := [(E.2.2 0, .int), (E.2.2 1, .char), (E.2.2 2, .object "ReplicaSessions$Replica"), (E.2.2 3, .object "ReplicaSessions$Session"), (E.2.2 4, .object "ReplicaSessions$State")]
def G (E : EV) (X : CX) (nL pc : Nat) (ls st : List VV) (mem : MEM) : Prop := match X with
  | (p, l, e, R, s, m, args, below, meth, c, cells, slots, QF, A, H0) => ∀ (lsA : Array Slot) (H : Heap) (locs : List Loc), LR E lsA nL ls → WR E mem H → va_S A H0 H locs → W p l e R s m args below meth c H locs cells slots QF (F0 m pc lsA (st.map (vv E)))
def EOK (E : EV) : Prop := ∀ a b, vd a → vd b → E.2.1 a = E.2.1 b → a = b
def NW (U : State) : Prop := ∀ w ∈ nestWs, va_Nw w U
def CK (E : EV) (X : CX) (own : String) (cc : ByteArray) (nL : Nat) (ret : Option FieldType) (dep : Nat) : Prop := match X with
  | (p, l, e, R, s, m, args, below, meth, c, cells, slots, QF, A, H0) => p.tables.exec = Jvm.exec ∧ c.code = cc ∧ c.maxLocals = nL ∧ s.vm.findClass own = some m.cls ∧ (∀ w ∈ BW, w.before args s = true) ∧ meth.sig.returnType = ret ∧ meth.locks = false ∧ va_K E.1 vwCl (tyE E) s ∧ (∀ id, vd id → A (E.2.1 id)) ∧ EOK E ∧ dep ≤ R.frames ∧ 36 * dep ≤ R.locals ∧ cells ≤ R.cells ∧ slots ≤ R.slots ∧ NW s
def AW (E : EV) : Nat → Prop := fun q => ∃ id, vd id ∧ q = E.2.1 id
def rvo (E : EV) (r : VV) : Option Value := match r with
  | none => none
  | some x => some (vvv E x)
def rvl (r : VV) : List VV := match r with
  | none => []
  | some x => [some x]
def QcW (E : EV) (Q : VV → MEM → Prop) : Array Value → State → Outcome → State → Prop := fun _ st oc t => (∃ (r : VV) (m' : MEM), Q r m' ∧ oc = .returned (rvo E r) ∧ WR E m' t.heap) ∧ va_F (AW E) st t
def me_rm (dep : Nat) : Room := { frames := dep, cells := 0, slots := 0, locals := 36 * dep }
def Ct (E : EV) (l : Launch) (y : MethodName) (ws : List Cond) (dep : Nat) (args : List VV) (mem : MEM) (Q : VV → MEM → Prop) : Prop := EOK E → Met l y ws (me_rm dep) (va_Pc (args.map (vv E)) (fun U => WR E mem U.heap ∧ va_K E.1 vwCl (tyE E) U ∧ NW U)) (QcW E Q) 0 0 (AW E)
def EX (E : EV) (X : CX) (l : Launch) (Q : VV → MEM → Prop) : Prop := match X with
  | (p, l', e, R, s, m, args, below, meth, c, cells, slots, QF, A, H0) => l' = l ∧ QF = MQ below (QcW E Q) args s cells slots (AW E) ∧ A = AW E ∧ H0 = s.heap
def up (m : MEM) (id : ID) (j : Nat) (v : Int32) : MEM := fun a b => if a = id ∧ b = j then v else m a b
/-- a whole cell as another -/
def cpc (m : MEM) (id src : ID) : MEM := fun a => if a = id then m src else m a
/-- an answer, and the world behind it -/
def Ret (v : VV) (m : MEM) : VV → MEM → Prop := fun r m' => r = v ∧ m' = m
theorem nest_warm {s U : State} (hW : s.WarmedH U.vm) (h : NW s) : NW U := by
  intro w hw
  have h0 := h w hw
  simp only [nestWs, List.mem_cons, List.not_mem_nil, or_false] at hw
  rcases hw with rfl | rfl | rfl | rfl | rfl | rfl | rfl | rfl <;> exact va_Nw.warmM hW h0
theorem nest_same {u U : State} (h : u.vm = U.vm) (hN : NW u) : NW U := by
  intro w hw
  have h0 := hN w hw
  simp only [nestWs, List.mem_cons, List.not_mem_nil, or_false] at hw
  rcases hw with rfl | rfl | rfl | rfl | rfl | rfl | rfl | rfl <;> exact va_Nw.same rfl h h0
def me_ws (y : MethodName) (cc : ByteArray) (nL : Nat) (ret : Option FieldType) : List Cond := Cond.code y cc nL ret :: BW
/-- what a program knows of a method: its code's word, its class, its arguments' number -/
def MI (y : MethodName) (cc : ByteArray) (nL : Nat) (ret : Option FieldType) (RC : String) (n : Nat) : Prop :=
  Cond.code y cc nL ret ∈ BW ∧ Cond.initialized RC ∈ BW ∧ y.cls = RC ∧ (y.cls ≠ "java/lang/invoke/MethodHandle" ∧ y.cls ≠ "java/lang/invoke/VarHandle" ∧ (parseMethodDescriptor y.desc).map (fun d => d.parameters.length) = some n) ∧ nL ≤ 17 ∧ plainName y.cls = true
def MV (y : MethodName) (RC : String) : Prop := Cond.instanceMethod y ∈ BW ∧ Cond.selects RC y y ∈ BW
theorem me_good {y : MethodName} {cc : ByteArray} {nL n : Nat} {ret : Option FieldType} {RC : String} (mi : MI y cc nL ret RC n) : GoodIn BW (me_ws y cc nL ret) := by
  intro w hw
  have h : w ∈ BW := by
    rcases List.mem_cons.mp hw with rfl | h
    · exact mi.1
    · exact h
  exact ⟨h, good_of_word (bw_good w h)⟩
theorem me_P1 {D : va_G} {cl : List vw_C} {H : Heap} {q : Nat × va_E} (h : va_at D cl q H) : va_P D cl [q] H := fun k q' hq => by
  cases k with
  | zero => cases hq; exact h
  | succ k => simp at hq
section MEA
variable {p : Program} {l : Launch} {e : Env} {R : Room} {s : State} {m : MethodId} {args : Array Value} {below : List Frame} {meth : Method} {c : Code} {H : Heap} {locs : List Loc} {cells slots : Nat} {QF : State → Prop}
variable {pc : Nat} {lsA : Array Slot} {st0 : List Value} {a : Array Value} {A : Nat → Prop} {H0 : Heap}
theorem me_after {E : EV} {rest : List VV} {Q1 : VV → MEM → Prop} (hr : va_Run p l e R s m args below meth c H locs cells slots 0 0 (F0 m pc lsA st0) (rest.map (vv E)) (QcW E Q1 a) (AW E)) (hS : va_S A H0 H locs) (hA : ∀ id, vd id → A (E.2.1 id))
    (kk : ∀ (r : VV) (m' : MEM), Q1 r m' → ∀ (H1 : Heap) (locs1 : List Loc), WR E m' H1 → va_S A H0 H1 locs1 → W p l e R s m args below meth c H1 locs1 cells slots QF (F0 m (pc + 3) lsA ((rvl r ++ rest).map (vv E)))) : W p l e R s m args below meth c H locs cells slots QF (F0 m pc lsA st0) := by
  intro T hT X
  obtain ⟨v, st₀, t, T', L, h0, X', hL, e1, e2, ⟨⟨r, m', hq, hv, hw⟩, hz, hk⟩, st⟩ := hr T hT X
  have hAW : ∀ q, AW E q → A q := fun q ⟨id, h1, h2⟩ => h2 ▸ hA id h1
  have hv' : v = rvo E r := Outcome.returned.inj hv
  subst hv'
  rw [h0] at hz hk
  obtain ⟨t2, a1, b1⟩ := kk r m' hq T'.heap (locs ++ L) (by rw [e1]; exact hw)
    ⟨Nat.le_trans hS.1 (by rw [e1]; exact hz), fun q h1 h2 => by rw [e1, hk q (Nat.lt_of_lt_of_le h1 hS.1) (fun z => h2 (hAW q z))]; exact hS.2.1 q h1 h2, fun q hq => by
      rcases List.mem_append.mp hq with h | h
      · exact hS.2.2 q h
      · exact hAW _ (hL q h)⟩ T' rfl X'
  refine ⟨t2, st t2 ?_, b1⟩
  have e3 : (rvo E r).toList ++ rest.map (vv E) = (rvl r ++ rest).map (vv E) := by cases r <;> rfl
  rw [e3]
  exact a1
end MEA
section ME
variable {E : EV} {X : CX} {own : String} {cc : ByteArray} {nL : Nat} {ret : Option FieldType} {dep pc : Nat} {ls st : List VV} {mem : MEM}
theorem e_iconst (C : CK E X own cc nL ret dep) {n : Int} {v : Int32} (hdg : decode cc pc = .ok (.iconst n, 1)) (hv : Int32.ofInt n = v) (h : G E X nL (pc + 1) ls (iv v :: st) mem) : G E X nL pc ls (st) mem := by
  obtain ⟨p, l, e, R, s, m, args, below, meth, c, cells, slots, QF, A, H0⟩ := X
  obtain ⟨hx, hb, -⟩ := C
  exact fun lsA H locs hL hW hS => lv_iconst hx hb hdg hv (h lsA H locs hL hW hS)
theorem e_bipush (C : CK E X own cc nL ret dep) {n : Int} {v : Int32} (hdg : decode cc pc = .ok (.bipush n, 2)) (hv : (Int8.ofInt n).toInt32 = v) (h : G E X nL (pc + 2) ls (iv v :: st) mem) : G E X nL pc ls (st) mem := by
  obtain ⟨p, l, e, R, s, m, args, below, meth, c, cells, slots, QF, A, H0⟩ := X
  obtain ⟨hx, hb, -⟩ := C
  exact fun lsA H locs hL hW hS => lv_bipush hx hb hdg hv (h lsA H locs hL hW hS)
theorem e_sipush (C : CK E X own cc nL ret dep) {n : Int} {v : Int32} (hdg : decode cc pc = .ok (.sipush n, 3)) (hv : (Int16.ofInt n).toInt32 = v) (h : G E X nL (pc + 3) ls (iv v :: st) mem) : G E X nL pc ls (st) mem := by
  obtain ⟨p, l, e, R, s, m, args, below, meth, c, cells, slots, QF, A, H0⟩ := X
  obtain ⟨hx, hb, -⟩ := C
  exact fun lsA H locs hL hW hS => lv_sipush hx hb hdg hv (h lsA H locs hL hW hS)
theorem e_null (C : CK E X own cc nL ret dep) (hdg : decode cc pc = .ok (.aconst_null, 1)) (h : G E X nL (pc + 1) ls (nv :: st) mem) : G E X nL pc ls (st) mem := by
  obtain ⟨p, l, e, R, s, m, args, below, meth, c, cells, slots, QF, A, H0⟩ := X
  obtain ⟨hx, hb, -⟩ := C
  exact fun lsA H locs hL hW hS => lv_null hx hb hdg (h lsA H locs hL hW hS)
theorem e_iload_n (C : CK E X own cc nL ret dep) {k : Fin 4} {x : Int32} (hdg : decode cc pc = .ok (.iload_n k, 1)) (hl : ls[(k : Nat)]? = some (iv x)) (h : G E X nL (pc + 1) ls (iv x :: st) mem) : G E X nL pc ls (st) mem := by
  obtain ⟨p, l, e, R, s, m, args, below, meth, c, cells, slots, QF, A, H0⟩ := X
  obtain ⟨hx, hb, -⟩ := C
  exact fun lsA H locs hL hW hS => lv_iload_n hx hb hdg rfl (hL.2.2 _ _ hl) (h lsA H locs hL hW hS)
theorem e_iload (C : CK E X own cc nL ret dep) {k : Nat} {x : Int32} (hdg : decode cc pc = .ok (.iload k, 2)) (hl : ls[k]? = some (iv x)) (h : G E X nL (pc + 2) ls (iv x :: st) mem) : G E X nL pc ls (st) mem := by
  obtain ⟨p, l, e, R, s, m, args, below, meth, c, cells, slots, QF, A, H0⟩ := X
  obtain ⟨hx, hb, -⟩ := C
  exact fun lsA H locs hL hW hS => lv_iload hx hb hdg (hL.2.2 _ _ hl) (h lsA H locs hL hW hS)
theorem e_aload_n (C : CK E X own cc nL ret dep) {k : Fin 4} {x : ID} (hdg : decode cc pc = .ok (.aload_n k, 1)) (hl : ls[(k : Nat)]? = some (rv x)) (h : G E X nL (pc + 1) ls (rv x :: st) mem) : G E X nL pc ls (st) mem := by
  obtain ⟨p, l, e, R, s, m, args, below, meth, c, cells, slots, QF, A, H0⟩ := X
  obtain ⟨hx, hb, -⟩ := C
  exact fun lsA H locs hL hW hS => lv_aload_n hx hb hdg rfl (hL.2.2 _ _ hl) (h lsA H locs hL hW hS)
theorem e_aload (C : CK E X own cc nL ret dep) {k : Nat} {x : ID} (hdg : decode cc pc = .ok (.aload k, 2)) (hl : ls[k]? = some (rv x)) (h : G E X nL (pc + 2) ls (rv x :: st) mem) : G E X nL pc ls (st) mem := by
  obtain ⟨p, l, e, R, s, m, args, below, meth, c, cells, slots, QF, A, H0⟩ := X
  obtain ⟨hx, hb, -⟩ := C
  exact fun lsA H locs hL hW hS => lv_aload hx hb hdg (hL.2.2 _ _ hl) (h lsA H locs hL hW hS)
theorem e_aload_nN (C : CK E X own cc nL ret dep) {k : Fin 4} (hdg : decode cc pc = .ok (.aload_n k, 1)) (hl : ls[(k : Nat)]? = some nv) (h : G E X nL (pc + 1) ls (nv :: st) mem) : G E X nL pc ls (st) mem := by
  obtain ⟨p, l, e, R, s, m, args, below, meth, c, cells, slots, QF, A, H0⟩ := X
  obtain ⟨hx, hb, -⟩ := C
  exact fun lsA H locs hL hW hS => lv_aload_nN hx hb hdg rfl (hL.2.2 _ _ hl) (h lsA H locs hL hW hS)
theorem e_aloadN (C : CK E X own cc nL ret dep) {k : Nat} (hdg : decode cc pc = .ok (.aload k, 2)) (hl : ls[k]? = some nv) (h : G E X nL (pc + 2) ls (nv :: st) mem) : G E X nL pc ls (st) mem := by
  obtain ⟨p, l, e, R, s, m, args, below, meth, c, cells, slots, QF, A, H0⟩ := X
  obtain ⟨hx, hb, -⟩ := C
  exact fun lsA H locs hL hW hS => lv_aloadN hx hb hdg (hL.2.2 _ _ hl) (h lsA H locs hL hW hS)
theorem e_istore_n (C : CK E X own cc nL ret dep) {k : Fin 4} {x : Int32} (hdg : decode cc pc = .ok (.istore_n k, 1)) (hn : (k : Nat) < nL) (h : G E X nL (pc + 1) (ls.set (k : Nat) (iv x)) st mem) : G E X nL pc ls (iv x :: st) mem := by
  obtain ⟨p, l, e, R, s, m, args, below, meth, c, cells, slots, QF, A, H0⟩ := X
  obtain ⟨hx, hb, -⟩ := C
  exact fun lsA H locs hL hW hS => lv_istore_n hx hb hdg rfl hL.toHas hn rfl (fun ls1 h1 => h ls1 H locs (LR.ofStore (x := .inl x) h1) hW hS)
theorem e_istore (C : CK E X own cc nL ret dep) {k : Nat} {x : Int32} (hdg : decode cc pc = .ok (.istore k, 2)) (hn : k < nL) (h : G E X nL (pc + 2) (ls.set k (iv x)) st mem) : G E X nL pc ls (iv x :: st) mem := by
  obtain ⟨p, l, e, R, s, m, args, below, meth, c, cells, slots, QF, A, H0⟩ := X
  obtain ⟨hx, hb, -⟩ := C
  exact fun lsA H locs hL hW hS => lv_istore hx hb hdg hL.toHas hn rfl (fun ls1 h1 => h ls1 H locs (LR.ofStore (x := .inl x) h1) hW hS)
theorem e_astore_n (C : CK E X own cc nL ret dep) {k : Fin 4} {x : ID} (hdg : decode cc pc = .ok (.astore_n k, 1)) (hn : (k : Nat) < nL) (h : G E X nL (pc + 1) (ls.set (k : Nat) (rv x)) st mem) : G E X nL pc ls (rv x :: st) mem := by
  obtain ⟨p, l, e, R, s, m, args, below, meth, c, cells, slots, QF, A, H0⟩ := X
  obtain ⟨hx, hb, -⟩ := C
  exact fun lsA H locs hL hW hS => lv_astore_n hx hb hdg rfl hL.toHas hn rfl (fun ls1 h1 => h ls1 H locs (LR.ofStore (x := .inr (some x)) h1) hW hS)
theorem e_astore (C : CK E X own cc nL ret dep) {k : Nat} {x : ID} (hdg : decode cc pc = .ok (.astore k, 2)) (hn : k < nL) (h : G E X nL (pc + 2) (ls.set k (rv x)) st mem) : G E X nL pc ls (rv x :: st) mem := by
  obtain ⟨p, l, e, R, s, m, args, below, meth, c, cells, slots, QF, A, H0⟩ := X
  obtain ⟨hx, hb, -⟩ := C
  exact fun lsA H locs hL hW hS => lv_astore hx hb hdg hL.toHas hn rfl (fun ls1 h1 => h ls1 H locs (LR.ofStore (x := .inr (some x)) h1) hW hS)
theorem e_astore_nN (C : CK E X own cc nL ret dep) {k : Fin 4} (hdg : decode cc pc = .ok (.astore_n k, 1)) (hn : (k : Nat) < nL) (h : G E X nL (pc + 1) (ls.set (k : Nat) (nv)) st mem) : G E X nL pc ls (nv :: st) mem := by
  obtain ⟨p, l, e, R, s, m, args, below, meth, c, cells, slots, QF, A, H0⟩ := X
  obtain ⟨hx, hb, -⟩ := C
  exact fun lsA H locs hL hW hS => lv_astore_nN hx hb hdg rfl hL.toHas hn rfl (fun ls1 h1 => h ls1 H locs (LR.ofStore (x := .inr none) h1) hW hS)
theorem e_astoreN (C : CK E X own cc nL ret dep) {k : Nat} (hdg : decode cc pc = .ok (.astore k, 2)) (hn : k < nL) (h : G E X nL (pc + 2) (ls.set k (nv)) st mem) : G E X nL pc ls (nv :: st) mem := by
  obtain ⟨p, l, e, R, s, m, args, below, meth, c, cells, slots, QF, A, H0⟩ := X
  obtain ⟨hx, hb, -⟩ := C
  exact fun lsA H locs hL hW hS => lv_astoreN hx hb hdg hL.toHas hn rfl (fun ls1 h1 => h ls1 H locs (LR.ofStore (x := .inr none) h1) hW hS)
theorem e_iinc (C : CK E X own cc nL ret dep) {k : Nat} {n : Int} {x v : Int32} (hdg : decode cc pc = .ok (.iinc k n, 3)) (hl : ls[k]? = some (iv x)) (hv : x + Int32.ofInt n = v) (hn : k < nL) (h : G E X nL (pc + 3) (ls.set k (iv v)) st mem) : G E X nL pc ls st mem := by
  obtain ⟨p, l, e, R, s, m, args, below, meth, c, cells, slots, QF, A, H0⟩ := X
  obtain ⟨hx, hb, -⟩ := C
  intro lsA H locs hL hW hS
  obtain ⟨j, hj⟩ := List.getElem?_of_mem (me_enc_in (E := E) hl)
  exact lv_iinc hx hb hdg hL.toHas (k := j) hj hv hn rfl (fun ls1 h1 => h ls1 H locs (LR.ofStore (x := .inl v) h1) hW hS)
theorem e_iadd (C : CK E X own cc nL ret dep) {x y : Int32} (hdg : decode cc pc = .ok (.iadd, 1)) (h : G E X nL (pc + 1) ls (iv (x + y) :: st) mem) : G E X nL pc ls (iv y :: iv x :: st) mem := by
  obtain ⟨p, l, e, R, s, m, args, below, meth, c, cells, slots, QF, A, H0⟩ := X
  obtain ⟨hx, hb, -⟩ := C
  exact fun lsA H locs hL hW hS => lv_iadd hx hb hdg (h lsA H locs hL hW hS)
theorem e_isub (C : CK E X own cc nL ret dep) {x y : Int32} (hdg : decode cc pc = .ok (.isub, 1)) (h : G E X nL (pc + 1) ls (iv (x - y) :: st) mem) : G E X nL pc ls (iv y :: iv x :: st) mem := by
  obtain ⟨p, l, e, R, s, m, args, below, meth, c, cells, slots, QF, A, H0⟩ := X
  obtain ⟨hx, hb, -⟩ := C
  exact fun lsA H locs hL hW hS => lv_isub hx hb hdg (h lsA H locs hL hW hS)
theorem e_imul (C : CK E X own cc nL ret dep) {x y : Int32} (hdg : decode cc pc = .ok (.imul, 1)) (h : G E X nL (pc + 1) ls (iv (x * y) :: st) mem) : G E X nL pc ls (iv y :: iv x :: st) mem := by
  obtain ⟨p, l, e, R, s, m, args, below, meth, c, cells, slots, QF, A, H0⟩ := X
  obtain ⟨hx, hb, -⟩ := C
  exact fun lsA H locs hL hW hS => lv_imul hx hb hdg (h lsA H locs hL hW hS)
theorem e_iand (C : CK E X own cc nL ret dep) {x y : Int32} (hdg : decode cc pc = .ok (.iand, 1)) (h : G E X nL (pc + 1) ls (iv (x &&& y) :: st) mem) : G E X nL pc ls (iv y :: iv x :: st) mem := by
  obtain ⟨p, l, e, R, s, m, args, below, meth, c, cells, slots, QF, A, H0⟩ := X
  obtain ⟨hx, hb, -⟩ := C
  exact fun lsA H locs hL hW hS => lv_iand hx hb hdg (h lsA H locs hL hW hS)
theorem e_ior (C : CK E X own cc nL ret dep) {x y : Int32} (hdg : decode cc pc = .ok (.ior, 1)) (h : G E X nL (pc + 1) ls (iv (x ||| y) :: st) mem) : G E X nL pc ls (iv y :: iv x :: st) mem := by
  obtain ⟨p, l, e, R, s, m, args, below, meth, c, cells, slots, QF, A, H0⟩ := X
  obtain ⟨hx, hb, -⟩ := C
  exact fun lsA H locs hL hW hS => lv_ior hx hb hdg (h lsA H locs hL hW hS)
theorem e_ixor (C : CK E X own cc nL ret dep) {x y : Int32} (hdg : decode cc pc = .ok (.ixor, 1)) (h : G E X nL (pc + 1) ls (iv (x ^^^ y) :: st) mem) : G E X nL pc ls (iv y :: iv x :: st) mem := by
  obtain ⟨p, l, e, R, s, m, args, below, meth, c, cells, slots, QF, A, H0⟩ := X
  obtain ⟨hx, hb, -⟩ := C
  exact fun lsA H locs hL hW hS => lv_ixor hx hb hdg (h lsA H locs hL hW hS)
theorem e_ishl (C : CK E X own cc nL ret dep) {x y : Int32} (hdg : decode cc pc = .ok (.ishl, 1)) (h : G E X nL (pc + 1) ls (iv (x <<< (y &&& 31)) :: st) mem) : G E X nL pc ls (iv y :: iv x :: st) mem := by
  obtain ⟨p, l, e, R, s, m, args, below, meth, c, cells, slots, QF, A, H0⟩ := X
  obtain ⟨hx, hb, -⟩ := C
  exact fun lsA H locs hL hW hS => lv_ishl hx hb hdg (h lsA H locs hL hW hS)
theorem e_idiv (C : CK E X own cc nL ret dep) {x y : Int32} (hdg : decode cc pc = .ok (.idiv, 1)) (hne : ¬ y = 0) (h : G E X nL (pc + 1) ls (iv (x / y) :: st) mem) : G E X nL pc ls (iv y :: iv x :: st) mem := by
  obtain ⟨p, l, e, R, s, m, args, below, meth, c, cells, slots, QF, A, H0⟩ := X
  obtain ⟨hx, hb, -⟩ := C
  exact fun lsA H locs hL hW hS => lv_idiv hx hb hdg hne (h lsA H locs hL hW hS)
theorem e_irem (C : CK E X own cc nL ret dep) {x y : Int32} (hdg : decode cc pc = .ok (.irem, 1)) (hne : ¬ y = 0) (h : G E X nL (pc + 1) ls (iv (x - x / y * y) :: st) mem) : G E X nL pc ls (iv y :: iv x :: st) mem := by
  obtain ⟨p, l, e, R, s, m, args, below, meth, c, cells, slots, QF, A, H0⟩ := X
  obtain ⟨hx, hb, -⟩ := C
  exact fun lsA H locs hL hW hS => lv_irem hx hb hdg hne (h lsA H locs hL hW hS)
theorem e_i2c (C : CK E X own cc nL ret dep) {x : Int32} (hdg : decode cc pc = .ok (.i2c, 1)) (h : G E X nL (pc + 1) ls (iv ((x.toUInt32 % 65536).toInt32) :: st) mem) : G E X nL pc ls (iv x :: st) mem := by
  obtain ⟨p, l, e, R, s, m, args, below, meth, c, cells, slots, QF, A, H0⟩ := X
  obtain ⟨hx, hb, -⟩ := C
  exact fun lsA H locs hL hW hS => lv_i2c hx hb hdg rfl (h lsA H locs hL hW hS)
theorem e_dup (C : CK E X own cc nL ret dep) {x : VV} (hdg : decode cc pc = .ok (.dup, 1)) (h : G E X nL (pc + 1) ls (x :: x :: st) mem) : G E X nL pc ls (x :: st) mem := by
  obtain ⟨p, l, e, R, s, m, args, below, meth, c, cells, slots, QF, A, H0⟩ := X
  obtain ⟨hx, hb, -⟩ := C
  exact fun lsA H locs hL hW hS => lv_dup hx hb hdg (vv_cat E x) (h lsA H locs hL hW hS)
theorem e_pop (C : CK E X own cc nL ret dep) {x : VV} (hdg : decode cc pc = .ok (.pop, 1)) (h : G E X nL (pc + 1) ls (st) mem) : G E X nL pc ls (x :: st) mem := by
  obtain ⟨p, l, e, R, s, m, args, below, meth, c, cells, slots, QF, A, H0⟩ := X
  obtain ⟨hx, hb, -⟩ := C
  exact fun lsA H locs hL hW hS => lv_pop hx hb hdg (vv_cat E x) (h lsA H locs hL hW hS)
theorem e_dup2 (C : CK E X own cc nL ret dep) {x y : VV} (hdg : decode cc pc = .ok (.dup2, 1)) (h : G E X nL (pc + 1) ls (x :: y :: x :: y :: st) mem) : G E X nL pc ls (x :: y :: st) mem := by
  obtain ⟨p, l, e, R, s, m, args, below, meth, c, cells, slots, QF, A, H0⟩ := X
  obtain ⟨hx, hb, -⟩ := C
  exact fun lsA H locs hL hW hS => lv_dup2_11 hx hb hdg (vv_cat E x) (vv_cat E y) (h lsA H locs hL hW hS)
theorem e_goto (C : CK E X own cc nL ret dep) {off : Int} {tgt : Nat} (hdg : decode cc pc = .ok (.goto off, 3)) (ht : (pc : Int) + off = (tgt : Int)) (h : G E X nL tgt ls (st) mem) : G E X nL pc ls (st) mem := by
  obtain ⟨p, l, e, R, s, m, args, below, meth, c, cells, slots, QF, A, H0⟩ := X
  obtain ⟨hx, hb, -⟩ := C
  exact fun lsA H locs hL hW hS => lv_goto hx hb hdg ht (h lsA H locs hL hW hS)
theorem e_ifnonnull (C : CK E X own cc nL ret dep) {x : ID} {off : Int} {tgt : Nat} (hdg : decode cc pc = .ok (.ifnonnull off, 3)) (ht : (pc : Int) + off = (tgt : Int)) (h : G E X nL tgt ls (st) mem) : G E X nL pc ls (rv x :: st) mem := by
  obtain ⟨p, l, e, R, s, m, args, below, meth, c, cells, slots, QF, A, H0⟩ := X
  obtain ⟨hx, hb, -⟩ := C
  exact fun lsA H locs hL hW hS => lv_ifnonnull hx hb hdg ht (h lsA H locs hL hW hS)
theorem e_ifnull (C : CK E X own cc nL ret dep) {x : ID} {off : Int} (hdg : decode cc pc = .ok (.ifnull off, 3)) (h : G E X nL (pc + 3) ls (st) mem) : G E X nL pc ls (rv x :: st) mem := by
  obtain ⟨p, l, e, R, s, m, args, below, meth, c, cells, slots, QF, A, H0⟩ := X
  obtain ⟨hx, hb, -⟩ := C
  exact fun lsA H locs hL hW hS => lv_ifnull hx hb hdg (h lsA H locs hL hW hS)
theorem e_ifnullN (C : CK E X own cc nL ret dep) {off : Int} {tgt : Nat} (hdg : decode cc pc = .ok (.ifnull off, 3)) (ht : (pc : Int) + off = (tgt : Int)) (h : G E X nL tgt ls (st) mem) : G E X nL pc ls (nv :: st) mem := by
  obtain ⟨p, l, e, R, s, m, args, below, meth, c, cells, slots, QF, A, H0⟩ := X
  obtain ⟨hx, hb, -⟩ := C
  exact fun lsA H locs hL hW hS => lv_ifnullN hx hb hdg ht (h lsA H locs hL hW hS)
theorem e_ifnonnullN (C : CK E X own cc nL ret dep) {off : Int} (hdg : decode cc pc = .ok (.ifnonnull off, 3)) (h : G E X nL (pc + 3) ls (st) mem) : G E X nL pc ls (nv :: st) mem := by
  obtain ⟨p, l, e, R, s, m, args, below, meth, c, cells, slots, QF, A, H0⟩ := X
  obtain ⟨hx, hb, -⟩ := C
  exact fun lsA H locs hL hW hS => lv_ifnonnullN hx hb hdg (h lsA H locs hL hW hS)
theorem e_icmp_eq (C : CK E X own cc nL ret dep) {x y : Int32} {off : Int} {tgt : Nat} (hdg : decode cc pc = .ok (.if_icmp .eq off, 3)) (ht : (pc : Int) + off = (tgt : Int)) (kt : x = y → G E X nL tgt ls st mem) (kf : ¬ x = y → G E X nL (pc + 3) ls st mem) : G E X nL pc ls (iv y :: iv x :: st) mem := by
  obtain ⟨p, l, e, R, s, m, args, below, meth, c, cells, slots, QF, A, H0⟩ := X
  obtain ⟨hx, hb, -⟩ := C
  exact fun lsA H locs hL hW hS => lv_icmp_eq hx hb hdg ht (fun q => kt q lsA H locs hL hW hS) (fun q => kf q lsA H locs hL hW hS)
theorem e_icmp_ne (C : CK E X own cc nL ret dep) {x y : Int32} {off : Int} {tgt : Nat} (hdg : decode cc pc = .ok (.if_icmp .ne off, 3)) (ht : (pc : Int) + off = (tgt : Int)) (kt : ¬ x = y → G E X nL tgt ls st mem) (kf : x = y → G E X nL (pc + 3) ls st mem) : G E X nL pc ls (iv y :: iv x :: st) mem := by
  obtain ⟨p, l, e, R, s, m, args, below, meth, c, cells, slots, QF, A, H0⟩ := X
  obtain ⟨hx, hb, -⟩ := C
  exact fun lsA H locs hL hW hS => lv_icmp_ne hx hb hdg ht (fun q => kt q lsA H locs hL hW hS) (fun q => kf q lsA H locs hL hW hS)
theorem e_icmp_lt (C : CK E X own cc nL ret dep) {x y : Int32} {off : Int} {tgt : Nat} (hdg : decode cc pc = .ok (.if_icmp .lt off, 3)) (ht : (pc : Int) + off = (tgt : Int)) (kt : x < y → G E X nL tgt ls st mem) (kf : ¬ x < y → G E X nL (pc + 3) ls st mem) : G E X nL pc ls (iv y :: iv x :: st) mem := by
  obtain ⟨p, l, e, R, s, m, args, below, meth, c, cells, slots, QF, A, H0⟩ := X
  obtain ⟨hx, hb, -⟩ := C
  exact fun lsA H locs hL hW hS => lv_icmp_lt hx hb hdg ht (fun q => kt q lsA H locs hL hW hS) (fun q => kf q lsA H locs hL hW hS)
theorem e_icmp_ge (C : CK E X own cc nL ret dep) {x y : Int32} {off : Int} {tgt : Nat} (hdg : decode cc pc = .ok (.if_icmp .ge off, 3)) (ht : (pc : Int) + off = (tgt : Int)) (kt : y ≤ x → G E X nL tgt ls st mem) (kf : ¬ y ≤ x → G E X nL (pc + 3) ls st mem) : G E X nL pc ls (iv y :: iv x :: st) mem := by
  obtain ⟨p, l, e, R, s, m, args, below, meth, c, cells, slots, QF, A, H0⟩ := X
  obtain ⟨hx, hb, -⟩ := C
  exact fun lsA H locs hL hW hS => lv_icmp_ge hx hb hdg ht (fun q => kt q lsA H locs hL hW hS) (fun q => kf q lsA H locs hL hW hS)
theorem e_icmp_gt (C : CK E X own cc nL ret dep) {x y : Int32} {off : Int} {tgt : Nat} (hdg : decode cc pc = .ok (.if_icmp .gt off, 3)) (ht : (pc : Int) + off = (tgt : Int)) (kt : y < x → G E X nL tgt ls st mem) (kf : ¬ y < x → G E X nL (pc + 3) ls st mem) : G E X nL pc ls (iv y :: iv x :: st) mem := by
  obtain ⟨p, l, e, R, s, m, args, below, meth, c, cells, slots, QF, A, H0⟩ := X
  obtain ⟨hx, hb, -⟩ := C
  exact fun lsA H locs hL hW hS => lv_icmp_gt hx hb hdg ht (fun q => kt q lsA H locs hL hW hS) (fun q => kf q lsA H locs hL hW hS)
theorem e_icmp_le (C : CK E X own cc nL ret dep) {x y : Int32} {off : Int} {tgt : Nat} (hdg : decode cc pc = .ok (.if_icmp .le off, 3)) (ht : (pc : Int) + off = (tgt : Int)) (kt : x ≤ y → G E X nL tgt ls st mem) (kf : ¬ x ≤ y → G E X nL (pc + 3) ls st mem) : G E X nL pc ls (iv y :: iv x :: st) mem := by
  obtain ⟨p, l, e, R, s, m, args, below, meth, c, cells, slots, QF, A, H0⟩ := X
  obtain ⟨hx, hb, -⟩ := C
  exact fun lsA H locs hL hW hS => lv_icmp_le hx hb hdg ht (fun q => kt q lsA H locs hL hW hS) (fun q => kf q lsA H locs hL hW hS)
theorem e_if_eq (C : CK E X own cc nL ret dep) {x : Int32} {off : Int} {tgt : Nat} (hdg : decode cc pc = .ok (.ifCond .eq off, 3)) (ht : (pc : Int) + off = (tgt : Int)) (kt : x = 0 → G E X nL tgt ls st mem) (kf : ¬ x = 0 → G E X nL (pc + 3) ls st mem) : G E X nL pc ls (iv x :: st) mem := by
  obtain ⟨p, l, e, R, s, m, args, below, meth, c, cells, slots, QF, A, H0⟩ := X
  obtain ⟨hx, hb, -⟩ := C
  exact fun lsA H locs hL hW hS => lv_if_eq hx hb hdg ht (fun q => kt q lsA H locs hL hW hS) (fun q => kf q lsA H locs hL hW hS)
theorem e_if_ne (C : CK E X own cc nL ret dep) {x : Int32} {off : Int} {tgt : Nat} (hdg : decode cc pc = .ok (.ifCond .ne off, 3)) (ht : (pc : Int) + off = (tgt : Int)) (kt : ¬ x = 0 → G E X nL tgt ls st mem) (kf : x = 0 → G E X nL (pc + 3) ls st mem) : G E X nL pc ls (iv x :: st) mem := by
  obtain ⟨p, l, e, R, s, m, args, below, meth, c, cells, slots, QF, A, H0⟩ := X
  obtain ⟨hx, hb, -⟩ := C
  exact fun lsA H locs hL hW hS => lv_if_ne hx hb hdg ht (fun q => kt q lsA H locs hL hW hS) (fun q => kf q lsA H locs hL hW hS)
theorem e_if_lt (C : CK E X own cc nL ret dep) {x : Int32} {off : Int} {tgt : Nat} (hdg : decode cc pc = .ok (.ifCond .lt off, 3)) (ht : (pc : Int) + off = (tgt : Int)) (kt : x < 0 → G E X nL tgt ls st mem) (kf : ¬ x < 0 → G E X nL (pc + 3) ls st mem) : G E X nL pc ls (iv x :: st) mem := by
  obtain ⟨p, l, e, R, s, m, args, below, meth, c, cells, slots, QF, A, H0⟩ := X
  obtain ⟨hx, hb, -⟩ := C
  exact fun lsA H locs hL hW hS => lv_if_lt hx hb hdg ht (fun q => kt q lsA H locs hL hW hS) (fun q => kf q lsA H locs hL hW hS)
theorem e_if_ge (C : CK E X own cc nL ret dep) {x : Int32} {off : Int} {tgt : Nat} (hdg : decode cc pc = .ok (.ifCond .ge off, 3)) (ht : (pc : Int) + off = (tgt : Int)) (kt : 0 ≤ x → G E X nL tgt ls st mem) (kf : ¬ 0 ≤ x → G E X nL (pc + 3) ls st mem) : G E X nL pc ls (iv x :: st) mem := by
  obtain ⟨p, l, e, R, s, m, args, below, meth, c, cells, slots, QF, A, H0⟩ := X
  obtain ⟨hx, hb, -⟩ := C
  exact fun lsA H locs hL hW hS => lv_if_ge hx hb hdg ht (fun q => kt q lsA H locs hL hW hS) (fun q => kf q lsA H locs hL hW hS)
theorem e_if_gt (C : CK E X own cc nL ret dep) {x : Int32} {off : Int} {tgt : Nat} (hdg : decode cc pc = .ok (.ifCond .gt off, 3)) (ht : (pc : Int) + off = (tgt : Int)) (kt : 0 < x → G E X nL tgt ls st mem) (kf : ¬ 0 < x → G E X nL (pc + 3) ls st mem) : G E X nL pc ls (iv x :: st) mem := by
  obtain ⟨p, l, e, R, s, m, args, below, meth, c, cells, slots, QF, A, H0⟩ := X
  obtain ⟨hx, hb, -⟩ := C
  exact fun lsA H locs hL hW hS => lv_if_gt hx hb hdg ht (fun q => kt q lsA H locs hL hW hS) (fun q => kf q lsA H locs hL hW hS)
theorem e_if_le (C : CK E X own cc nL ret dep) {x : Int32} {off : Int} {tgt : Nat} (hdg : decode cc pc = .ok (.ifCond .le off, 3)) (ht : (pc : Int) + off = (tgt : Int)) (kt : x ≤ 0 → G E X nL tgt ls st mem) (kf : ¬ x ≤ 0 → G E X nL (pc + 3) ls st mem) : G E X nL pc ls (iv x :: st) mem := by
  obtain ⟨p, l, e, R, s, m, args, below, meth, c, cells, slots, QF, A, H0⟩ := X
  obtain ⟨hx, hb, -⟩ := C
  exact fun lsA H locs hL hW hS => lv_if_le hx hb hdg ht (fun q => kt q lsA H locs hL hW hS) (fun q => kf q lsA H locs hL hW hS)
theorem e_lookup (C : CK E X own cc nL ret dep) {dflt : Int} {ps : Array (Int × Int)} {len : Nat} {x : Int32} {off : Int} {tgt : Nat} (hdg : decode cc pc = .ok (.lookupswitch dflt ps, len)) (hp : (ps.toList.zip (ps.toList.drop 1)).all (fun (a, next) => a.1 < next.1) = true) (ho : Op.lookupswitch.offset ps.toList dflt x.toInt = off) (ht : (pc : Int) + off = (tgt : Int)) (h : G E X nL tgt ls st mem) : G E X nL pc ls (iv x :: st) mem := by
  obtain ⟨p, l, e, R, s, m, args, below, meth, c, cells, slots, QF, A, H0⟩ := X
  obtain ⟨hx, hb, -⟩ := C
  exact fun lsA H locs hL hW hS => lv_lookup hx hb hdg hp ho ht (h lsA H locs hL hW hS)
theorem e_tableOut (C : CK E X own cc nL ret dep) {dflt lo hi : Int} {offs : Array Int} {len : Nat} {x : Int32} {tgt : Nat} (hdg : decode cc pc = .ok (.tableswitch dflt lo hi offs, len)) (hq : x.toInt < lo ∨ hi < x.toInt) (ht : (pc : Int) + dflt = (tgt : Int)) (h : G E X nL tgt ls st mem) : G E X nL pc ls (iv x :: st) mem := by
  obtain ⟨p, l, e, R, s, m, args, below, meth, c, cells, slots, QF, A, H0⟩ := X
  obtain ⟨hx, hb, -⟩ := C
  exact fun lsA H locs hL hW hS => lv_tableOut hx hb hdg hq ht (h lsA H locs hL hW hS)
theorem e_tableIn (C : CK E X own cc nL ret dep) {dflt lo hi : Int} {offs : Array Int} {len : Nat} {x : Int32} {off : Int} {tgt : Nat} (hdg : decode cc pc = .ok (.tableswitch dflt lo hi offs, len)) (h1 : ¬ x.toInt < lo) (h2 : ¬ hi < x.toInt) (ho : offs[(x.toInt - lo).toNat]? = some off) (ht : (pc : Int) + off = (tgt : Int)) (h : G E X nL tgt ls st mem) : G E X nL pc ls (iv x :: st) mem := by
  obtain ⟨p, l, e, R, s, m, args, below, meth, c, cells, slots, QF, A, H0⟩ := X
  obtain ⟨hx, hb, -⟩ := C
  exact fun lsA H locs hL hW hS => lv_tableIn hx hb hdg h1 h2 ho ht (h lsA H locs hL hW hS)
/-- a field is read -/
theorem e_getx (C : CK E X own cc nL ret dep) {id : ID} {ci N index : Nat} {RC : String} {T : u_T} (j : Nat) (hk : me_kd id.1 = .inl ci) (hc : vwCl[ci]? = some (RC, T, N)) (hNf : me_nf ci = N) (hj : j < N) (hin : ∀ w ∈ u_ws RC T N, w ∈ BW) (ho : (T j).1 = RC) (hl : Cond.fieldLink own index RC (T j).2.1 (T j).2.2.1 ∈ BW) (hv : vd id) (hdg : decode cc pc = .ok (.getfield index, 3)) {x : VV} (hx0 : vv E x = me_sv E mem id j) (h : G E X nL (pc + 3) ls (x :: st) mem) : G E X nL pc ls (rv id :: st) mem := by
  obtain ⟨p, l, e, R, s, m, args, below, meth, c, cells, slots, QF, A, H0⟩ := X
  obtain ⟨hx, hb, hml, hfo, hts, hrt, hlk, hK, hA, hE, hfr, hlo, hce, hsl, hN⟩ := C
  intro lsA H locs hL hW hS
  have h1 := hW.1 id hv
  unfold WR1 at h1
  rw [hk] at h1
  obtain ⟨cell, q1, q2, q3, q4⟩ := h1
  obtain ⟨hS', hfc, kC, hkC, hkind⟩ := hK.1 ci _ hc
  obtain ⟨cf, kf, fi, f, hi, hsl'⟩ := hS' j hj
  refine W.getf hx hb hfo (hts _ hl) (by rw [ho] at hi; exact hi) (u_facts hfc hkC (u_lays hts hin hj) hi).1 q1 (by rw [q3]; exact fun h => by cases h) (v := me_sv E mem id j) ?_ rfl rfl hdg ?_
  · rw [hsl', q4 j (by rw [hNf]; exact hj)]
  · have h2 := h lsA H locs hL hW hS
    rw [List.map_cons, hx0] at h2
    exact h2
theorem e_geti (C : CK E X own cc nL ret dep) {id : ID} {ci N index : Nat} {RC : String} {T : u_T} (j : Nat) (hk : me_kd id.1 = .inl ci) (hc : vwCl[ci]? = some (RC, T, N)) (hNf : me_nf ci = N) (hj : j < N) (hin : ∀ w ∈ u_ws RC T N, w ∈ BW) (ho : (T j).1 = RC) (hl : Cond.fieldLink own index RC (T j).2.1 (T j).2.2.1 ∈ BW) (hv : vd id) (hs : me_sl id j = none) (hdg : decode cc pc = .ok (.getfield index, 3)) (h : G E X nL (pc + 3) ls (iv (mem id j) :: st) mem) : G E X nL pc ls (rv id :: st) mem :=
  e_getx C j hk hc hNf hj hin ho hl hv hdg (x := iv (mem id j)) (by unfold me_sv; rw [hs]; rfl) h
theorem e_getr (C : CK E X own cc nL ret dep) {id : ID} {ci N index : Nat} {RC : String} {T : u_T} (j : Nat) (hk : me_kd id.1 = .inl ci) (hc : vwCl[ci]? = some (RC, T, N)) (hNf : me_nf ci = N) (hj : j < N) (hin : ∀ w ∈ u_ws RC T N, w ∈ BW) (ho : (T j).1 = RC) (hl : Cond.fieldLink own index RC (T j).2.1 (T j).2.2.1 ∈ BW) (hv : vd id) {r : ID} (hs : me_sl id j = some r) (hdg : decode cc pc = .ok (.getfield index, 3)) (h : G E X nL (pc + 3) ls (rv r :: st) mem) : G E X nL pc ls (rv id :: st) mem :=
  e_getx C j hk hc hNf hj hin ho hl hv hdg (x := rv r) (by unfold me_sv; rw [hs]; rfl) h
theorem e_bool {id : ID} (j : Nat) (hv : vd id) (hb : me_bo id.1 j = true) (h : (mem id j = 0 ∨ mem id j = 1) → G E X nL pc ls st mem) : G E X nL pc ls st mem := by
  obtain ⟨p, l, e, R, s, m, args, below, meth, c, cells, slots, QF, A, H0⟩ := X
  exact fun lsA H locs hL hW hS => h (hW.2 id j hv hb) lsA H locs hL hW hS
theorem me_apart {s : State} {args : Array Value} {C : String} {T : u_T} {N : Nat} {cC : ClassId} {iS : Nat → Nat} (hts : ∀ w ∈ BW, w.before args s = true) (hin : ∀ w ∈ u_ws C T N, w ∈ BW) (ty : Nat → FieldType) (hty : ∀ k, k < N → parseFieldDescriptor (T k).2.2.1 = some (ty k)) (hnm : ∀ a, a < N → ∀ b, b < N → a ≠ b → (T a).2.1 ≠ (T b).2.1) (hK : u_Kn s C T N cC iS) : ∀ x y, x < N → y < N → x ≠ y → iS x ≠ iS y := by
  intro x y hx hy hne
  obtain ⟨hS, -⟩ := hK
  obtain ⟨_, _, _, fa, hia, ea⟩ := hS x hx
  obtain ⟨_, _, _, fb, hib, eb⟩ := hS y hy
  rw [← ea, ← eb]
  refine u_apart (u_lays hts hin hx) (u_lays hts hin hy) hia hib ?_
  rw [(State.fieldFound?_type hia (hty x hx)).1, (State.fieldFound?_type hib (hty y hy)).1]
  exact hnm x hx y hy hne
/-- an int or a boolean is written -/
theorem e_puti (C : CK E X own cc nL ret dep) {id : ID} {ci N index : Nat} {RC : String} {T : u_T} (j : Nat) (hk : me_kd id.1 = .inl ci) (hc : vwCl[ci]? = some (RC, T, N)) (hNf : me_nf ci = N) (hj : j < N) (hin : ∀ w ∈ u_ws RC T N, w ∈ BW) (ho : (T j).1 = RC) (hl : Cond.fieldLink own index RC (T j).2.1 (T j).2.2.1 ∈ BW) (hv : vd id) (ty0 : Nat → FieldType) (hty : ∀ k, k < N → parseFieldDescriptor (T k).2.2.1 = some (ty0 k)) (hnm : ∀ a, a < N → ∀ b, b < N → a ≠ b → (T a).2.1 ≠ (T b).2.1) (hfin : (T j).2.2.2 = false) {v : Int32} (hty2 : (ty0 j = .int ∧ me_bo id.1 j = false) ∨ (ty0 j = .boolean ∧ (v = 0 ∨ v = 1))) (hs : me_sl id j = none) (hdg : decode cc pc = .ok (.putfield index, 3)) (h : G E X nL (pc + 3) ls st (up mem id j v)) : G E X nL pc ls (iv v :: rv id :: st) mem := by
  obtain ⟨p, l, e, R, s, m, args, below, meth, c, cells, slots, QF, A, H0⟩ := X
  obtain ⟨hx, hb, hml, hfo, hts, hrt, hlk, hK, hA, hE, hfr, hlo, hce, hsl, hN⟩ := C
  intro lsA H locs hL hW hS
  have h1 := hW.1 id hv
  unfold WR1 at h1
  rw [hk] at h1
  obtain ⟨cell, q1, q2, q3, q4⟩ := h1
  have hKc := hK.1 ci _ hc
  have hap := me_apart hts hin ty0 hty hnm hKc
  obtain ⟨hS', hfc, kC, hkC, hkind⟩ := hKc
  obtain ⟨cf, kf, fi, f, hi, hsl'⟩ := hS' j hj
  have hlay := hts _ (hin _ (u_in_lay hj))
  unfold u_lay at hlay
  rw [if_neg (by rw [hfin]; decide)] at hlay
  have hst := (u_facts hfc hkC (u_lays hts hin hj) hi).1
  have hnar : narrow (ty0 j) (.int v) = .int v := by
    rcases hty2 with ⟨e, -⟩ | ⟨e, rfl | rfl⟩ <;> rw [e] <;> rfl
  have hfit : fits (ty0 j) (.int v) = true := by
    rcases hty2 with ⟨e, -⟩ | ⟨e, rfl | rfl⟩ <;> rw [e] <;> rfl
  have h6 := u_store hfc hkC hkind hlay hi (hty j hj) hnar hfit
  refine W.putK hx hb (f := f) ⟨hfo, hts _ hl, ⟨_, _, _, (by rw [ho] at hi; exact hi)⟩, hst⟩ (by rw [q2]; exact h6) q1 q3 (by rw [hsl']; exact k2_hasslot (q4 j (by rw [hNf]; exact hj))) rfl rfl hdg fun H' e1 e2 e3 => ?_
  rw [hsl'] at e1 ⊢
  have hup : ∀ id', id' ≠ id → up mem id j v id' = mem id' := fun id' hne => by funext b; simp [up, hne]
  refine h lsA H' _ hL (hW.put hE hv ?_ hup e3 ?_) (hS.put e2 e3 (hA id hv))
  · unfold WR1
    rw [hk]
    refine t_OB.to (V := updV (me_sv E mem id) j (.int v)) ⟨_, e1, q2, q3, t_set (by rw [hNf] at q4 ⊢; exact q4) (by rw [hNf]; exact hap) (by rw [hNf]; exact hj) _⟩ (fun b _ => ?_)
    unfold updV me_sv
    by_cases hb' : b = j
    · subst hb'
      simp [hs, up]
    · simp [hb', up]
  · intro b hbo
    by_cases hb' : b = j
    · subst hb'
      rcases hty2 with ⟨-, e⟩ | ⟨-, e⟩
      · rw [hbo] at e; cases e
      · simpa [up] using e
    · have := hW.2 id b hv hbo
      simpa [up, hb'] using this
theorem e_iald (C : CK E X own cc nL ret dep) {id : ID} {n : Nat} (hk : me_kd id.1 = .inr (0, n)) (hv : vd id) {i : Int32} (hin : vp_in i n) (hdg : decode cc pc = .ok (.iaload, 1)) (h : G E X nL (pc + 1) ls (iv (mem id i.toNatClampNeg) :: st) mem) : G E X nL pc ls (iv i :: rv id :: st) mem := by
  obtain ⟨p, l, e, R, s, m, args, below, meth, c, cells, slots, QF, A, H0⟩ := X
  obtain ⟨hx, hb, hml, hfo, hts, hrt, hlk, hK, hA, hE, hfr, hlo, hce, hsl, hN⟩ := C
  intro lsA H locs hL hW hS
  have h1 := hW.1 id hv
  unfold WR1 at h1
  rw [hk] at h1
  exact va_iald (D := E.1) (cl := vwCl) (ws := [(E.2.1 id, .inl (E.2.2 0, n, .inl (mem id)))]) hx hb hK (me_P1 h1) 0 0 rfl rfl hin hdg (h lsA H locs hL hW hS)
theorem e_cald (C : CK E X own cc nL ret dep) {id : ID} {n : Nat} (hk : me_kd id.1 = .inr (1, n)) (hv : vd id) {i : Int32} (hin : vp_in i n) (hdg : decode cc pc = .ok (.caload, 1)) (h : G E X nL (pc + 1) ls (iv (mem id i.toNatClampNeg) :: st) mem) : G E X nL pc ls (iv i :: rv id :: st) mem := by
  obtain ⟨p, l, e, R, s, m, args, below, meth, c, cells, slots, QF, A, H0⟩ := X
  obtain ⟨hx, hb, hml, hfo, hts, hrt, hlk, hK, hA, hE, hfr, hlo, hce, hsl, hN⟩ := C
  intro lsA H locs hL hW hS
  have h1 := hW.1 id hv
  unfold WR1 at h1
  rw [hk] at h1
  exact va_cald (D := E.1) (cl := vwCl) (ws := [(E.2.1 id, .inl (E.2.2 1, n, .inl (mem id)))]) hx hb hK (me_P1 h1) 0 1 rfl rfl hin hdg (h lsA H locs hL hW hS)
theorem e_aald (C : CK E X own cc nL ret dep) {id r : ID} {n ty : Nat} {RC : String} (hk : me_kd id.1 = .inr (ty, n)) (hty : 2 ≤ ty) (ht : (tyE E)[ty]? = some (E.2.2 ty, .object RC)) (hv : vd id) {i : Int32} (hin : vp_in i n) (hr : me_sl id i.toNatClampNeg = some r) (hdg : decode cc pc = .ok (.aaload, 1)) (h : G E X nL (pc + 1) ls (rv r :: st) mem) : G E X nL pc ls (iv i :: rv id :: st) mem := by
  obtain ⟨p, l, e, R, s, m, args, below, meth, c, cells, slots, QF, A, H0⟩ := X
  obtain ⟨hx, hb, hml, hfo, hts, hrt, hlk, hK, hA, hE, hfr, hlo, hce, hsl, hN⟩ := C
  intro lsA H locs hL hW hS
  have h1 := hW.1 id hv
  unfold WR1 at h1
  rw [hk] at h1
  simp only [if_neg (Nat.not_lt.mpr hty)] at h1
  refine va_aldq (D := E.1) (cl := vwCl) (ws := [(E.2.1 id, .inl (E.2.2 ty, n, .inr (.inr (.inr (.inr fun j => (me_sl id j).map E.2.1)))))]) (C := RC) hx hb hK (me_P1 h1) 0 ty rfl ht hin hdg ?_
  have h2 := h lsA H locs hL hW hS
  rw [hr]
  exact h2
theorem e_alen (C : CK E X own cc nL ret dep) {id : ID} {n ty : Nat} {v : Int32} (hk : me_kd id.1 = .inr (ty, n)) (hty : ty < 5) (hv : vd id) (hn : Int32.ofNat n = v) (hdg : decode cc pc = .ok (.arraylength, 1)) (h : G E X nL (pc + 1) ls (iv v :: st) mem) : G E X nL pc ls (rv id :: st) mem := by
  obtain ⟨p, l, e, R, s, m, args, below, meth, c, cells, slots, QF, A, H0⟩ := X
  obtain ⟨hx, hb, hml, hfo, hts, hrt, hlk, hK, hA, hE, hfr, hlo, hce, hsl, hN⟩ := C
  intro lsA H locs hL hW hS
  have h1 := hW.1 id hv
  unfold WR1 at h1
  rw [hk] at h1
  have hq : ∃ z : FieldType, (tyE E)[ty]? = some (E.2.2 ty, z) := by
    have : ty = 0 ∨ ty = 1 ∨ ty = 2 ∨ ty = 3 ∨ ty = 4 := by omega
    rcases this with rfl | rfl | rfl | rfl | rfl <;> exact ⟨_, rfl⟩
  obtain ⟨z, hz⟩ := hq
  by_cases h2 : ty < 2
  · simp only [if_pos h2] at h1
    exact va_alen (D := E.1) (cl := vwCl) (ws := [(E.2.1 id, .inl (E.2.2 ty, n, .inl (mem id)))]) hx hb hK (me_P1 h1) 0 ty rfl hz hn hdg (h lsA H locs hL hW hS)
  · simp only [if_neg h2] at h1
    exact va_alen (D := E.1) (cl := vwCl) (ws := [(E.2.1 id, .inl (E.2.2 ty, n, .inr (.inr (.inr (.inr fun j => (me_sl id j).map E.2.1)))))]) hx hb hK (me_P1 h1) 0 ty rfl hz hn hdg (h lsA H locs hL hW hS)
theorem me_upd {id : ID} {j : Nat} {v : Int32} : up mem id j v id = upd (mem id) j v := by
  funext b
  simp [up, upd]
theorem e_iast (C : CK E X own cc nL ret dep) {id : ID} {n : Nat} (hk : me_kd id.1 = .inr (0, n)) (hv : vd id) {i x : Int32} (hin : vp_in i n) (hdg : decode cc pc = .ok (.iastore, 1)) (h : G E X nL (pc + 1) ls st (up mem id i.toNatClampNeg x)) : G E X nL pc ls (iv x :: iv i :: rv id :: st) mem := by
  obtain ⟨p, l, e, R, s, m, args, below, meth, c, cells, slots, QF, A, H0⟩ := X
  obtain ⟨hx, hb, hml, hfo, hts, hrt, hlk, hK, hA, hE, hfr, hlo, hce, hsl, hN⟩ := C
  intro lsA H locs hL hW hS
  have h1 := hW.1 id hv
  unfold WR1 at h1
  rw [hk] at h1
  have h1 : H[E.2.1 id]? = some (vp_cell (E.2.2 0) (n, .inl (mem id))) := h1
  refine W.iast hx hb h1 ((hK.2 0 _ rfl).1 n (fun j => .int (mem id j))) (fun q => by cases q) (by show ¬ (i < 0 ∨ (arrV _ _ _).slots.size ≤ _); rw [arrV_size]; exact hin) rfl rfl hdg fun H1 e z oq => ?_
  have hup : ∀ id', id' ≠ id → up mem id i.toNatClampNeg x id' = mem id' := fun id' hne => by funext b; simp [up, hne]
  refine h lsA H1 _ hL (hW.put hE hv ?_ hup oq ?_) (hS.put z oq (hA id hv))
  · unfold WR1
    rw [hk]
    show H1[_]? = some (vp_cell _ _)
    rw [e, vp_cell_i, vp_cell_i, arrV_store, me_upd]
    congr 2
    funext q
    by_cases hq : q = i.toNatClampNeg
    · subst hq
      simp [updV, upd]
    · simp [updV, upd, hq]
  · intro b hbo
    have h3 := me_bo_wd _ _ hbo
    have h4 : ∀ t b, me_bo t b = true → ∀ q, me_kd t ≠ .inr q := by
      intro t b hb' q
      unfold me_bo at hb'
      split at hb' <;> simp at hb' <;> simp [me_kd]
    exact absurd hk (h4 _ _ hbo _)
theorem e_cast (C : CK E X own cc nL ret dep) {id : ID} {n : Nat} (hk : me_kd id.1 = .inr (1, n)) (hv : vd id) {i x : Int32} (hin : vp_in i n) (hx0 : vp_nar .char x = x) (hdg : decode cc pc = .ok (.castore, 1)) (h : G E X nL (pc + 1) ls st (up mem id i.toNatClampNeg x)) : G E X nL pc ls (iv x :: iv i :: rv id :: st) mem := by
  obtain ⟨p, l, e, R, s, m, args, below, meth, c, cells, slots, QF, A, H0⟩ := X
  obtain ⟨hx, hb, hml, hfo, hts, hrt, hlk, hK, hA, hE, hfr, hlo, hce, hsl, hN⟩ := C
  intro lsA H locs hL hW hS
  have h1 := hW.1 id hv
  unfold WR1 at h1
  rw [hk] at h1
  have h1 : H[E.2.1 id]? = some (vp_cell (E.2.2 1) (n, .inl (mem id))) := h1
  refine W.cast hx hb h1 ((hK.2 1 _ rfl).1 n (fun j => .int (mem id j))) (fun q => by cases q) (by show ¬ (i < 0 ∨ (arrV _ _ _).slots.size ≤ _); rw [arrV_size]; exact hin) rfl rfl hdg fun H1 e z oq => ?_
  have hup : ∀ id', id' ≠ id → up mem id i.toNatClampNeg x id' = mem id' := fun id' hne => by funext b; simp [up, hne]
  refine h lsA H1 _ hL (hW.put hE hv ?_ hup oq ?_) (hS.put z oq (hA id hv))
  · unfold WR1
    rw [hk]
    show H1[_]? = some (vp_cell _ _)
    have e5 : narrow .char (.int x) = .int x := by
      have : narrow .char (.int x) = .int (vp_nar .char x) := rfl
      rw [this, hx0]
    rw [e, e5, vp_cell_i, vp_cell_i, arrV_store, me_upd]
    congr 2
    funext q
    by_cases hq : q = i.toNatClampNeg
    · subst hq
      simp [updV, upd]
    · simp [updV, upd, hq]
  · intro b hbo
    have h4 : ∀ t b, me_bo t b = true → ∀ q, me_kd t ≠ .inr q := by
      intro t b hb' q
      unfold me_bo at hb'
      split at hb' <;> simp at hb' <;> simp [me_kd]
    exact absurd hk (h4 _ _ hbo _)
theorem e_mem {m' : MEM} (hm : EqV mem m') (h : G E X nL pc ls st m') : G E X nL pc ls st mem := by
  obtain ⟨p, l, e, R, s, m, args, below, meth, c, cells, slots, QF, A, H0⟩ := X
  exact fun lsA H locs hL hW hS => h lsA H locs hL (hW.eqv hm (fun id j _ hb => me_bo_wd _ _ hb)) hS
theorem e_callV (C : CK E X own cc nL ret dep) {y2 : MethodName} {cc2 : ByteArray} {nL2 index ci N dep2 : Nat} {ret2 : Option FieldType} {RC : String} {T : u_T} {id : ID} {As rest : List VV} {Q1 : VV → MEM → Prop} (mi : MI y2 cc2 nL2 ret2 RC As.length) (mv : MV y2 RC) (ml : Cond.methodLink own index y2 ∈ BW) (hdg : decode cc pc = .ok (.invokevirtual index, 3)) (hst : st = As.reverse ++ rv id :: rest) (hM : Ct E X.2.1 y2 (me_ws y2 cc2 nL2 ret2) dep2 (rv id :: As) mem Q1) (hdep : dep2 + 1 ≤ dep) (hv : vd id) (hk : me_kd id.1 = .inl ci) (hc : vwCl[ci]? = some (RC, T, N)) (hrest : rest.length ≤ 8) (kk : ∀ r m', Q1 r m' → G E X nL (pc + 3) ls (rvl r ++ rest) m') : G E X nL pc ls st mem := by
  obtain ⟨p, l, e, R, s, m, args, below, meth, c, cells, slots, QF, A, H0⟩ := X
  obtain ⟨hx, hb, hml, hfo, hts, hrt, hlk, hK, hA, hE, hfr, hlo, hce, hsl, hN⟩ := C
  intro lsA H locs hL hW hS
  subst hst
  obtain ⟨mi1, mi2, mi3, mi4, mi5, mi6⟩ := mi
  have cb : CallB R s args own index y2 cc2 nL2 ret2 (me_ws y2 cc2 nL2 ret2) (me_rm dep2) 0 0 As.length := callB_of As.length hts (me_good ⟨mi1, mi2, mi3, mi4, mi5, mi6⟩) rfl rfl rfl (by rw [mi3]; exact hts _ mi2) (hts _ ml) mi4 ⟨by show dep2 + 1 ≤ _; omega, by show 8 + (nL2 + 11) + 36 * dep2 ≤ _; omega⟩
  have cw : CallW R s args own RC index y2 cc2 nL2 ret2 (me_ws y2 cc2 nL2 ret2) (me_rm dep2) 0 0 As.length := ⟨cb, hts _ mv.1, hts _ mv.2⟩
  have h1 := hW.1 id hv
  unfold WR1 at h1
  rw [hk] at h1
  obtain ⟨cell, q1, q2, q3, q4⟩ := h1
  have hr := va_runV (p := p) (l := l) (e := e) (below := below) (meth := meth) (cells := cells) (slots := slots) (locs := locs) (H := H) (g := F0 m pc lsA ((As.reverse ++ rv id :: rest).map (vv E))) (As := As.map (vv E)) (rest := rest.map (vv E)) (b := E.2.1 id) (Qc := QcW E Q1) ⟨hx, hb, hml, hfo, hts⟩ (hM hE) cw ⟨fun a U g mk q => ⟨q.1, q.2.1, va_K.moved (u := U) (U := U.calling g mk a) (Vm.Alike.refl U.vm) q.2.2.1, nest_same (u := U) rfl q.2.2.2⟩, ⟨cell, q1, by rw [q3]; rfl, by rw [q2]; exact (hK.1 ci _ hc).2.1⟩, fun U hU hWm => ⟨rfl, by rw [hU]; exact hW, va_K.moved hWm.alike hK, nest_warm hWm hN⟩⟩ rfl (by simp) hL.1 (by simp [vv, vvv]) (lv_room (by rw [vv_cats]; exact hrest)) hdg ⟨hce, hsl⟩
  exact me_after hr hS hA fun r m' hq H1 locs1 hW1 hS1 => kk r m' hq lsA H1 locs1 hL hW1 hS1
theorem e_callS (C : CK E X own cc nL ret dep) {y2 : MethodName} {cc2 : ByteArray} {nL2 index dep2 : Nat} {ret2 : Option FieldType} {RC : String} {As rest : List VV} {Q1 : VV → MEM → Prop} (mi : MI y2 cc2 nL2 ret2 RC As.length) (ms : Cond.static y2 ∈ BW) (ml : Cond.methodLink own index y2 ∈ BW) (hdg : decode cc pc = .ok (.invokestatic index, 3)) (hst : st = As.reverse ++ rest) (hM : Ct E X.2.1 y2 (me_ws y2 cc2 nL2 ret2) dep2 As mem Q1) (hdep : dep2 + 1 ≤ dep) (hrest : rest.length ≤ 8) (kk : ∀ r m', Q1 r m' → G E X nL (pc + 3) ls (rvl r ++ rest) m') : G E X nL pc ls st mem := by
  obtain ⟨p, l, e, R, s, m, args, below, meth, c, cells, slots, QF, A, H0⟩ := X
  obtain ⟨hx, hb, hml, hfo, hts, hrt, hlk, hK, hA, hE, hfr, hlo, hce, hsl, hN⟩ := C
  intro lsA H locs hL hW hS
  subst hst
  obtain ⟨mi1, mi2, mi3, mi4, mi5, mi6⟩ := mi
  have cb : CallB R s args own index y2 cc2 nL2 ret2 (me_ws y2 cc2 nL2 ret2) (me_rm dep2) 0 0 As.length := callB_of As.length hts (me_good ⟨mi1, mi2, mi3, mi4, mi5, mi6⟩) rfl rfl rfl (by rw [mi3]; exact hts _ mi2) (hts _ ml) mi4 ⟨by show dep2 + 1 ≤ _; omega, by show 8 + (nL2 + 11) + 36 * dep2 ≤ _; omega⟩
  have hr := va_runS (p := p) (l := l) (e := e) (below := below) (meth := meth) (cells := cells) (slots := slots) (locs := locs) (H := H) (g := F0 m pc lsA ((As.reverse ++ rest).map (vv E))) (As := As.map (vv E)) (rest := rest.map (vv E)) (Qc := QcW E Q1) ⟨hx, hb, hml, hfo, hts⟩ (hM hE) ⟨cb, hts _ ms⟩ ⟨fun a U g mk q => ⟨q.1, q.2.1, va_K.moved (u := U) (U := U.calling g mk a) (Vm.Alike.refl U.vm) q.2.2.1, nest_same (u := U) rfl q.2.2.2⟩, fun U hU hWm => ⟨rfl, by rw [hU]; exact hW, va_K.moved hWm.alike hK, nest_warm hWm hN⟩⟩ rfl (by simp) hL.1 (by simp) (lv_room (by rw [vv_cats]; exact hrest)) hdg ⟨hce, hsl⟩
  exact me_after hr hS hA fun r m' hq H1 locs1 hW1 hS1 => kk r m' hq lsA H1 locs1 hL hW1 hS1
theorem e_callN (C : CK E X own cc nL ret dep) {y2 : MethodName} {cc2 : ByteArray} {nL2 index dep2 : Nat} {ret2 : Option FieldType} {RC host : String} {As rest : List VV} {Q1 : VV → MEM → Prop} (mi : MI y2 cc2 nL2 ret2 RC As.length) (ms : Cond.static y2 ∈ BW) (ml : Cond.methodLinkNest own index y2 host ∈ nestWs) (hdg : decode cc pc = .ok (.invokestatic index, 3)) (hst : st = As.reverse ++ rest) (hM : Ct E X.2.1 y2 (me_ws y2 cc2 nL2 ret2) dep2 As mem Q1) (hdep : dep2 + 1 ≤ dep) (hrest : rest.length ≤ 8) (kk : ∀ r m', Q1 r m' → G E X nL (pc + 3) ls (rvl r ++ rest) m') : G E X nL pc ls st mem := by
  obtain ⟨p, l, e, R, s, m, args, below, meth, c, cells, slots, QF, A, H0⟩ := X
  obtain ⟨hx, hb, hml, hfo, hts, hrt, hlk, hK, hA, hE, hfr, hlo, hce, hsl, hN⟩ := C
  intro lsA H locs hL hW hS
  subst hst
  obtain ⟨mi1, mi2, mi3, mi4, mi5, mi6⟩ := mi
  have cb := va_cnB (R := R) (rm := me_rm dep2) (mc := 0) (ms := 0) As.length hts (me_good ⟨mi1, mi2, mi3, mi4, mi5, mi6⟩) rfl rfl rfl (hN _ ml) (by rw [mi3]; exact hts _ mi2) mi4 ⟨by show dep2 + 1 ≤ _; omega, by show 8 + (nL2 + 11) + 36 * dep2 ≤ _; omega⟩
  have hr := va_runSN (p := p) (l := l) (e := e) (below := below) (meth := meth) (cells := cells) (slots := slots) (locs := locs) (H := H) (g := F0 m pc lsA ((As.reverse ++ rest).map (vv E))) (As := As.map (vv E)) (rest := rest.map (vv E)) (Qc := QcW E Q1) ⟨hx, hb, hml, hfo, hts⟩ (hM hE) ⟨cb, hts _ ms, trivial⟩ ⟨fun a U g mk q => ⟨q.1, q.2.1, va_K.moved (u := U) (U := U.calling g mk a) (Vm.Alike.refl U.vm) q.2.2.1, nest_same (u := U) rfl q.2.2.2⟩, fun U hU hWm => ⟨rfl, by rw [hU]; exact hW, va_K.moved hWm.alike hK, nest_warm hWm hN⟩⟩ rfl (by simp) hL.1 (by simp) (lv_room (by rw [vv_cats]; exact hrest)) hdg ⟨hce, hsl⟩
  exact me_after hr hS hA fun r m' hq H1 locs1 hW1 hS1 => kk r m' hq lsA H1 locs1 hL hW1 hS1
theorem e_mmax (C : CK E X own cc nL ret dep) {index : Nat} {x y : Int32} (ml : Cond.methodLink own index Lib.Math.max.name ∈ BW) (hdg : decode cc pc = .ok (.invokestatic index, 3)) (hrest : st.length ≤ 8) (hdep : 1 ≤ dep) (h : G E X nL (pc + 3) ls (iv (if x < y then y else x) :: st) mem) : G E X nL pc ls (iv y :: iv x :: st) mem := by
  obtain ⟨p, l, e, R, s, m, args, below, meth, c, cells, slots, QF, A, H0⟩ := X
  obtain ⟨hx, hb, hml, hfo, hts, hrt, hlk, hK, hA, hE, hfr, hlo, hce, hsl, hN⟩ := C
  intro lsA H locs hL hW hS
  exact va_mmax hx hb (hml.trans hL.1.symm) hfo (hts _ ml) (hts _ b_st_Jmax) (hts _ b_in_J9) (hts _ b_co_Jmax) (by omega) (by rw [vv_cats]; omega) hce hsl hdg (h lsA H locs hL hW hS)
theorem e_mmin (C : CK E X own cc nL ret dep) {index : Nat} {x y : Int32} (ml : Cond.methodLink own index Lib.Math.min.name ∈ BW) (hdg : decode cc pc = .ok (.invokestatic index, 3)) (hrest : st.length ≤ 8) (hdep : 1 ≤ dep) (h : G E X nL (pc + 3) ls (iv (if y < x then y else x) :: st) mem) : G E X nL pc ls (iv y :: iv x :: st) mem := by
  obtain ⟨p, l, e, R, s, m, args, below, meth, c, cells, slots, QF, A, H0⟩ := X
  obtain ⟨hx, hb, hml, hfo, hts, hrt, hlk, hK, hA, hE, hfr, hlo, hce, hsl, hN⟩ := C
  intro lsA H locs hL hW hS
  exact va_mmin hx hb (hml.trans hL.1.symm) hfo (hts _ ml) (hts _ b_st_Jmin) (hts _ b_in_J9) (hts _ b_co_Jmin) (by omega) (by rw [vv_cats]; omega) hce hsl hdg (h lsA H locs hL hW hS)
theorem e_copy (C : CK E X own cc nL ret dep) {index n : Nat} {src dst : ID} {k : Int32} (hk0 : me_kd src.1 = .inr (0, n)) (hk1 : me_kd dst.1 = .inr (0, n)) (hv0 : vd src) (hv1 : vd dst) (hkn : k.toNatClampNeg = n) (hk2 : ¬ k < 0) (ml : Cond.methodLink own index arraycopyName ∈ BW) (hdg : decode cc pc = .ok (.invokestatic index, 3)) (hrest : st.length ≤ 8) (hdep : 1 ≤ dep) (h : G E X nL (pc + 3) ls st (cpc mem dst src)) : G E X nL pc ls (iv k :: iv 0 :: rv dst :: iv 0 :: rv src :: st) mem := by
  obtain ⟨p, l, e, R, s, m, args, below, meth, c, cells, slots, QF, A, H0⟩ := X
  obtain ⟨hx, hb, hml, hfo, hts, hrt, hlk, hK, hA, hE, hfr, hlo, hce, hsl, hN⟩ := C
  intro lsA H locs hL hW hS
  have h0 := hW.1 src hv0
  have h1 := hW.1 dst hv1
  unfold WR1 at h0 h1
  rw [hk0] at h0
  rw [hk1] at h1
  have h0 : H[E.2.1 src]? = some (vp_cell (E.2.2 0) (n, .inl (mem src))) := h0
  have h1 : H[E.2.1 dst]? = some (vp_cell (E.2.2 0) (n, .inl (mem dst))) := h1
  have nn : k.toInt = (k.toNatClampNeg : Int) := by
    have hz0 : (0 : Int) ≤ k.toInt := by
      have := Int32.not_lt.mp hk2
      simpa using Int32.le_iff_toInt_le.mp this
    show k.toInt = ((k.toInt.toNat : Nat) : Int)
    omega
  have z0 : (0 : Int32).toNatClampNeg = 0 := by decide
  have z17 : nativeFrameWords "java/lang/System" "arraycopy" 5 ≤ 17 := by decide +kernel
  intro T hT X
  obtain ⟨-, k0, hkk0, cm0, hkkk0⟩ := (hK.2 0 _ rfl).1 n (fun j => .int (mem src j))
  obtain ⟨-, k1, hkk1, cm1, hkkk1⟩ := (hK.2 0 _ rfl).1 n (fun j => .int (mem dst j))
  obtain ⟨vm', X', step⟩ := X.arraycopy hx hfo (hts _ ml) (hts _ b_na_arraycopyName) (hts _ b_st_arraycopyName) (hts _ b_in_J10) (src := E.2.1 src) (dst := E.2.1 dst) (cs := vp_cell (E.2.2 0) (n, .inl (mem src))) (cd := vp_cell (E.2.2 0) (n, .inl (mem dst))) (srcPos := 0) (destPos := 0) (n := k) (by rw [hT]; exact h0) (by rw [hT]; exact h1)
    (fun _ h => by cases h) (fun _ h => by cases h) (fun h => by cases h) (fun h => by cases h) hkk0 hkk1 hkkk0 hkkk1 (by simp [refKind]) (by decide) (by decide) hk2
    (by rw [nn]; show ¬ _ > ((arrV (E.2.2 0) n (fun j => .int (mem src j))).slots.size : Int); rw [arrV_size]; have : (0 : Int32).toInt = 0 := rfl; omega)
    (by rw [nn]; show ¬ _ > ((arrV (E.2.2 0) n (fun j => .int (mem dst j))).slots.size : Int); rw [arrV_size]; have : (0 : Int32).toInt = 0 := rfl; omega)
    (fun vm₁ _ i hi => by
      have e : (vp_cell (E.2.2 0) (n, .inl (mem src))).slots.getD ((0 : Int32).toNatClampNeg + i) .null = .int (mem src ((0 : Int32).toNatClampNeg + i)) := by
        show (arrV (E.2.2 0) n (fun j => .int (mem src j))).slots.getD _ _ = _
        rw [Array.getD_eq_getD_getElem?, arrV_read _ _ (by rw [z0]; omega)]
        rfl
      refine ⟨?_, ?_⟩
      · rw [e]
        rfl
      · rw [e]
        exact trivial)
    (g := F0 m pc lsA ((iv k :: iv 0 :: rv dst :: iv 0 :: rv src :: st).map (vv E))) rfl (by show lsA.size = _; rw [hml]; exact hL.1) (rest := st.map (vv E)) rfl (by rw [hb]; exact hdg) (by omega) (by show 2 * 0 + ((st.map (vv E)).map fun v => v.category).sum + _ ≤ _; rw [vv_cats]; omega)
  have e1 : copied (vp_cell (E.2.2 0) (n, .inl (mem src))) (vp_cell (E.2.2 0) (n, .inl (mem dst))) 0 0 k = vp_cell (E.2.2 0) (n, .inl (va_cpy (mem src) (mem dst) (0 : Int32).toNatClampNeg (0 : Int32).toNatClampNeg k.toNatClampNeg)) := va_copied (fun z => .int z) (E.2.2 0) (E.2.2 0) (mem src) (mem dst) (by rw [z0]; omega)
  have e2 : vp_cell (E.2.2 0) (n, .inl (va_cpy (mem src) (mem dst) (0 : Int32).toNatClampNeg (0 : Int32).toNatClampNeg k.toNatClampNeg)) = vp_cell (E.2.2 0) (n, .inl (mem src)) := me_vp_congr fun j hj => by
    rw [z0, hkn]
    simp [va_cpy, hj]
  rw [e1, e2] at X' step
  have hl : E.2.1 dst < H.size := (Array.getElem?_eq_some_iff.mp h1).1
  have hheap : ((T.setVm vm').setCell (E.2.1 dst) (vp_cell (E.2.2 0) (n, .inl (mem src)))).heap = H.setIfInBounds (E.2.1 dst) (vp_cell (E.2.2 0) (n, .inl (mem src))) := by rw [← hT]; rfl
  have oq : ∀ q : Nat, q ≠ E.2.1 dst → (H.setIfInBounds (E.2.1 dst) (vp_cell (E.2.2 0) (n, .inl (mem src))))[q]? = H[q]? := fun q hq => by simp [Array.getElem?_setIfInBounds, Ne.symm hq]
  have hup : ∀ id', id' ≠ dst → cpc mem dst src id' = mem id' := fun id' hne => by simp [cpc, hne]
  have hW' : WR E (cpc mem dst src) (H.setIfInBounds (E.2.1 dst) (vp_cell (E.2.2 0) (n, .inl (mem src)))) := by
    refine hW.put hE hv1 ?_ hup oq ?_
    · unfold WR1
      rw [hk1]
      show (H.setIfInBounds _ _)[_]? = some (vp_cell _ _)
      simp [Array.getElem?_setIfInBounds, hl, cpc]
    · intro b hbo
      have h4 : ∀ t b, me_bo t b = true → ∀ q, me_kd t ≠ .inr q := by
        intro t b hb' q
        unfold me_bo at hb'
        split at hb' <;> simp at hb' <;> simp [me_kd]
      exact absurd hk1 (h4 _ _ hbo _)
  obtain ⟨t, a1, b1⟩ := h lsA _ _ hL hW' ⟨by simp; exact hS.1, fun q g1 g2 => by
      rw [oq q (fun e => g2 (by rw [e]; exact hA dst hv1))]
      exact hS.2.1 q g1 g2, fun q hq => by
      rcases List.mem_append.mp hq with h | h
      · exact hS.2.2 q h
      · obtain ⟨z, -, hz⟩ := List.mem_map.mp h
        rw [← hz]
        exact hA dst hv1⟩ _ hheap X'
  exact ⟨t, step t a1, b1⟩
end ME
section MER
variable {E : EV} {X : CX} {own : String} {cc : ByteArray} {nL : Nat} {dep pc : Nat} {ls : List VV} {mem : MEM} {l : Launch} {Q : VV → MEM → Prop}
theorem e_iret (C : CK E X own cc nL (some .int) dep) (h : EX E X l Q) {v : Int32} (hdg : decode cc pc = .ok (.ireturn, 1)) (hq : Q (iv v) mem) : G E X nL pc ls [iv v] mem := by
  obtain ⟨p, l, e, R, s, m, args, below, meth, c, cells, slots, QF, A, H0⟩ := X
  obtain ⟨hx, hb, hml, hfo, hts, hrt, hlk, -⟩ := C
  obtain ⟨rfl, rfl, rfl, rfl⟩ := h
  intro lsA H locs hL hW hS
  exact W.iret hx hb hrt (fun t ht hWm => ⟨⟨iv v, mem, hq, rfl, by rw [ht]; exact hW⟩, hS.F ht⟩) hS.2.2 hdg hlk
theorem e_zret (C : CK E X own cc nL (some .boolean) dep) (h : EX E X l Q) {v : Int32} (hdg : decode cc pc = .ok (.ireturn, 1)) (hz : v = 0 ∨ v = 1) (hq : Q (iv v) mem) : G E X nL pc ls [iv v] mem := by
  obtain ⟨p, l, e, R, s, m, args, below, meth, c, cells, slots, QF, A, H0⟩ := X
  obtain ⟨hx, hb, hml, hfo, hts, hrt, hlk, -⟩ := C
  obtain ⟨rfl, rfl, rfl, rfl⟩ := h
  intro lsA H locs hL hW hS
  exact W.zret hx hb hrt (by rcases hz with rfl | rfl <;> rfl) (fun t ht hWm => ⟨⟨iv v, mem, hq, rfl, by rw [ht]; exact hW⟩, hS.F ht⟩) hS.2.2 hdg hlk
theorem e_aret {RC : String} (C : CK E X own cc nL (some (.object RC)) dep) (h : EX E X l Q) {o : Option ID} (hdg : decode cc pc = .ok (.areturn, 1)) (hq : Q (some (.inr o)) mem) : G E X nL pc ls [some (.inr o)] mem := by
  obtain ⟨p, l, e, R, s, m, args, below, meth, c, cells, slots, QF, A, H0⟩ := X
  obtain ⟨hx, hb, hml, hfo, hts, hrt, hlk, -⟩ := C
  obtain ⟨rfl, rfl, rfl, rfl⟩ := h
  intro lsA H locs hL hW hS
  exact W.aret hx hb hrt (Or.inl ⟨_, rfl⟩) (by rcases o with _ | i; exact Or.inl rfl; exact Or.inr ⟨_, rfl⟩) (fun t ht hWm => ⟨⟨some (.inr o), mem, hq, rfl, by rw [ht]; exact hW⟩, hS.F ht⟩) hS.2.2 hdg hlk
theorem e_vret (C : CK E X own cc nL none dep) (h : EX E X l Q) (hdg : decode cc pc = .ok (.return_, 1)) (hq : Q uv mem) : G E X nL pc ls [] mem := by
  obtain ⟨p, l, e, R, s, m, args, below, meth, c, cells, slots, QF, A, H0⟩ := X
  obtain ⟨hx, hb, hml, hfo, hts, hrt, hlk, -⟩ := C
  obtain ⟨rfl, rfl, rfl, rfl⟩ := h
  intro lsA H locs hL hW hS
  exact W.vret hx hb hrt (fun t ht hWm => ⟨⟨uv, mem, hq, rfl, by rw [ht]; exact hW⟩, hS.F ht⟩) hS.2.2 hdg hlk
end MER
theorem me_entry (E : EV) (args : List VV) (nL : Nat) (h : args.length ≤ nL) : LR E (((args.map (vv E)).map Slot.val ++ List.replicate (nL - (args.map (vv E)).length) Slot.unset).toArray) nL (args ++ List.replicate (nL - args.length) uv) := by
  have key : ∀ (i : Nat) (z : Slot), (((args.map (vv E)).map Slot.val ++ List.replicate (nL - (args.map (vv E)).length) Slot.unset).toArray)[i]? = some z → z = .unset ∨ ∃ x : VV, args[i]? = some x ∧ z = .val (vv E x) := by
    intro i z hz
    rw [List.getElem?_toArray] at hz
    by_cases hi : i < args.length
    · rw [List.getElem?_append_left (by simpa using hi)] at hz
      simp only [List.getElem?_map] at hz
      rw [List.getElem?_eq_getElem hi] at hz ⊢
      cases hz
      exact Or.inr ⟨_, rfl, rfl⟩
    · rw [List.getElem?_append_right (by simpa using hi)] at hz
      exact Or.inl (List.eq_of_mem_replicate (List.mem_of_getElem? hz))
  refine ⟨by simp; omega, ⟨fun i v hv hc => ?_, fun i hi => ?_⟩, fun i x hx => ?_⟩
  · rcases key i _ hv with h | ⟨x, -, h⟩
    · cases h
    · cases h
      rw [vv_cat] at hc
      cases hc
  · rcases key i _ hi with h | ⟨x, -, h⟩ <;> cases h
  · by_cases hi : i < args.length
    · rw [List.getElem?_append_left hi] at hx
      rw [List.getElem?_toArray, List.getElem?_append_left (by simpa using hi)]
      simp only [List.getElem?_map, hx]
      rfl
    · rw [List.getElem?_append_right (by omega)] at hx
      have := List.eq_of_mem_replicate (List.mem_of_getElem? hx)
      cases this
theorem Ct.of {E : EV} {l : Launch} {y : MethodName} {cc : ByteArray} {nL n dep : Nat} {ret : Option FieldType} {RC : String} {args ls0 : List VV} {mem : MEM} {Q : VV → MEM → Prop} (mi : MI y cc nL ret RC n) (hlen : args.length ≤ nL) (hls : args ++ List.replicate (nL - args.length) uv = ls0) (h : ∀ X, CK E X RC cc nL ret dep → EX E X l Q → G E X nL 0 ls0 [] mem) : Ct E l y (me_ws y cc nL ret) dep args mem Q := by
  intro hE
  subst hls
  obtain ⟨mi1, mi2, mi3, mi4, mi5, mi6⟩ := mi
  refine Met.ofW (cc := cc) (maxL := nL) (ret := ret) mi6 rfl ?_
  intro p e s m args' below meth c s₁ B hml hv
  obtain ⟨rfl, hW, hK, hN⟩ := hv
  have hts := atoms_spec (ws := me_ws y cc nL ret) B.pre
  have hown := findClass_of_methodNamed B.named
  rw [mi3] at hown
  rw [entry_eq m (args.map (vv E)) (fun v hv => by obtain ⟨x, -, rfl⟩ := List.mem_map.mp hv; exact vv_cat E x) nL]
  exact h (p, l, e, (headSpec (me_ws y cc nL ret) (me_rm dep)).room, s, m, (args.map (vv E)).toArray, below, meth, c, 0, 0, MQ below (QcW E Q) (args.map (vv E)).toArray s 0 0 (AW E), AW E, s.heap)
    ⟨B.exec, B.bytes, hml, hown, fun w hw => hts w (List.mem_cons_of_mem _ hw), B.returns, B.notSynchronized, hK, fun id hid => ⟨id, hid, rfl⟩, hE, Nat.le_refl dep, Nat.le_refl (36 * dep), Nat.zero_le _, Nat.zero_le _, hN⟩ ⟨rfl, rfl, rfl, rfl⟩ _ s.heap [] (me_entry E args nL hlen) hW va_S.rf
end
