theorem dX7_init_0 : decode cX7_init 0 = .ok (.aload_n 0, 1) := by decide +kernel
theorem dX7_init_1 : decode cX7_init 1 = .ok (.invokespecial 1, 3) := by decide +kernel
theorem dX7_init_4 : decode cX7_init 4 = .ok (.aload_n 0, 1) := by decide +kernel
theorem dX7_init_5 : decode cX7_init 5 = .ok (.sipush 894, 3) := by decide +kernel
theorem dX7_init_8 : decode cX7_init 8 = .ok (.newarray .int, 2) := by decide +kernel
theorem dX7_init_10 : decode cX7_init 10 = .ok (.putfield 7, 3) := by decide +kernel
theorem dX7_init_13 : decode cX7_init 13 = .ok (.aload_n 0, 1) := by decide +kernel
theorem dX7_init_14 : decode cX7_init 14 = .ok (.sipush 4470, 3) := by decide +kernel
theorem dX7_init_17 : decode cX7_init 17 = .ok (.newarray .int, 2) := by decide +kernel
theorem dX7_init_19 : decode cX7_init 19 = .ok (.putfield 13, 3) := by decide +kernel
theorem dX7_init_22 : decode cX7_init 22 = .ok (.aload_n 0, 1) := by decide +kernel
theorem dX7_init_23 : decode cX7_init 23 = .ok (.sipush 894, 3) := by decide +kernel
theorem dX7_init_26 : decode cX7_init 26 = .ok (.newarray .int, 2) := by decide +kernel
theorem dX7_init_28 : decode cX7_init 28 = .ok (.putfield 16, 3) := by decide +kernel
theorem dX7_init_31 : decode cX7_init 31 = .ok (.aload_n 0, 1) := by decide +kernel
theorem dX7_init_32 : decode cX7_init 32 = .ok (.bipush 80, 2) := by decide +kernel
theorem dX7_init_34 : decode cX7_init 34 = .ok (.newarray .char, 2) := by decide +kernel
theorem dX7_init_36 : decode cX7_init 36 = .ok (.putfield 19, 3) := by decide +kernel
theorem dX7_init_39 : decode cX7_init 39 = .ok (.aload_n 0, 1) := by decide +kernel
theorem dX7_init_40 : decode cX7_init 40 = .ok (.sipush 168, 3) := by decide +kernel
theorem dX7_init_43 : decode cX7_init 43 = .ok (.newarray .int, 2) := by decide +kernel
theorem dX7_init_45 : decode cX7_init 45 = .ok (.putfield 23, 3) := by decide +kernel
theorem dX7_init_48 : decode cX7_init 48 = .ok (.iconst 0, 1) := by decide +kernel
theorem dX7_init_49 : decode cX7_init 49 = .ok (.istore_n 1, 1) := by decide +kernel
theorem dX7_init_50 : decode cX7_init 50 = .ok (.iload_n 1, 1) := by decide +kernel
theorem dX7_init_51 : decode cX7_init 51 = .ok (.iconst 3, 1) := by decide +kernel
theorem dX7_init_52 : decode cX7_init 52 = .ok (.if_icmp .ge 19, 3) := by decide +kernel
theorem dX7_init_55 : decode cX7_init 55 = .ok (.aload_n 0, 1) := by decide +kernel
theorem dX7_init_56 : decode cX7_init 56 = .ok (.getfield 7, 3) := by decide +kernel
theorem dX7_init_59 : decode cX7_init 59 = .ok (.iconst 1, 1) := by decide +kernel
theorem dX7_init_60 : decode cX7_init 60 = .ok (.iload_n 1, 1) := by decide +kernel
theorem dX7_init_61 : decode cX7_init 61 = .ok (.iadd, 1) := by decide +kernel
theorem dX7_init_62 : decode cX7_init 62 = .ok (.bipush (-6), 2) := by decide +kernel
theorem dX7_init_64 : decode cX7_init 64 = .ok (.iastore, 1) := by decide +kernel
theorem dX7_init_65 : decode cX7_init 65 = .ok (.iinc 1 1, 3) := by decide +kernel
theorem dX7_init_68 : decode cX7_init 68 = .ok (.goto (-18), 3) := by decide +kernel
theorem dX7_init_71 : decode cX7_init 71 = .ok (.return_, 1) := by decide +kernel
theorem dX7_in_0 : decode cX7_in 0 = .ok (.iload_n 0, 1) := by decide +kernel
theorem dX7_in_1 : decode cX7_in 1 = .ok (.iload_n 1, 1) := by decide +kernel
theorem dX7_in_2 : decode cX7_in 2 = .ok (.if_icmp .lt 12, 3) := by decide +kernel
theorem dX7_in_5 : decode cX7_in 5 = .ok (.iload_n 0, 1) := by decide +kernel
theorem dX7_in_6 : decode cX7_in 6 = .ok (.iload_n 2, 1) := by decide +kernel
theorem dX7_in_7 : decode cX7_in 7 = .ok (.if_icmp .gt 7, 3) := by decide +kernel
theorem dX7_in_10 : decode cX7_in 10 = .ok (.iconst 1, 1) := by decide +kernel
theorem dX7_in_11 : decode cX7_in 11 = .ok (.goto 4, 3) := by decide +kernel
theorem dX7_in_14 : decode cX7_in 14 = .ok (.iconst 0, 1) := by decide +kernel
theorem dX7_in_15 : decode cX7_in 15 = .ok (.ireturn, 1) := by decide +kernel
theorem dX7_ofReplica_0 : decode cX7_ofReplica 0 = .ok (.aload_n 0, 1) := by decide +kernel
theorem dX7_ofReplica_1 : decode cX7_ofReplica 1 = .ok (.getfield 7, 3) := by decide +kernel
theorem dX7_ofReplica_4 : decode cX7_ofReplica 4 = .ok (.iconst 5, 1) := by decide +kernel
theorem dX7_ofReplica_5 : decode cX7_ofReplica 5 = .ok (.iconst 5, 1) := by decide +kernel
theorem dX7_ofReplica_6 : decode cX7_ofReplica 6 = .ok (.iload_n 1, 1) := by decide +kernel
theorem dX7_ofReplica_7 : decode cX7_ofReplica 7 = .ok (.imul, 1) := by decide +kernel
theorem dX7_ofReplica_8 : decode cX7_ofReplica 8 = .ok (.iadd, 1) := by decide +kernel
theorem dX7_ofReplica_9 : decode cX7_ofReplica 9 = .ok (.iload_n 2, 1) := by decide +kernel
theorem dX7_ofReplica_10 : decode cX7_ofReplica 10 = .ok (.iadd, 1) := by decide +kernel
theorem dX7_ofReplica_11 : decode cX7_ofReplica 11 = .ok (.iaload, 1) := by decide +kernel
theorem dX7_ofReplica_12 : decode cX7_ofReplica 12 = .ok (.ireturn, 1) := by decide +kernel
theorem dX7_layReplica_0 : decode cX7_layReplica 0 = .ok (.aload_n 0, 1) := by decide +kernel
theorem dX7_layReplica_1 : decode cX7_layReplica 1 = .ok (.getfield 7, 3) := by decide +kernel
theorem dX7_layReplica_4 : decode cX7_layReplica 4 = .ok (.iconst 5, 1) := by decide +kernel
theorem dX7_layReplica_5 : decode cX7_layReplica 5 = .ok (.iconst 5, 1) := by decide +kernel
theorem dX7_layReplica_6 : decode cX7_layReplica 6 = .ok (.iload_n 1, 1) := by decide +kernel
theorem dX7_layReplica_7 : decode cX7_layReplica 7 = .ok (.imul, 1) := by decide +kernel
theorem dX7_layReplica_8 : decode cX7_layReplica 8 = .ok (.iadd, 1) := by decide +kernel
theorem dX7_layReplica_9 : decode cX7_layReplica 9 = .ok (.iload_n 2, 1) := by decide +kernel
theorem dX7_layReplica_10 : decode cX7_layReplica 10 = .ok (.iadd, 1) := by decide +kernel
theorem dX7_layReplica_11 : decode cX7_layReplica 11 = .ok (.iload_n 3, 1) := by decide +kernel
theorem dX7_layReplica_12 : decode cX7_layReplica 12 = .ok (.iastore, 1) := by decide +kernel
theorem dX7_layReplica_13 : decode cX7_layReplica 13 = .ok (.return_, 1) := by decide +kernel
theorem dX7_ofSession_0 : decode cX7_ofSession 0 = .ok (.aload_n 0, 1) := by decide +kernel
theorem dX7_ofSession_1 : decode cX7_ofSession 1 = .ok (.getfield 7, 3) := by decide +kernel
theorem dX7_ofSession_4 : decode cX7_ofSession 4 = .ok (.bipush 30, 2) := by decide +kernel
theorem dX7_ofSession_6 : decode cX7_ofSession 6 = .ok (.bipush 33, 2) := by decide +kernel
theorem dX7_ofSession_8 : decode cX7_ofSession 8 = .ok (.iload_n 1, 1) := by decide +kernel
theorem dX7_ofSession_9 : decode cX7_ofSession 9 = .ok (.imul, 1) := by decide +kernel
theorem dX7_ofSession_10 : decode cX7_ofSession 10 = .ok (.iadd, 1) := by decide +kernel
theorem dX7_ofSession_11 : decode cX7_ofSession 11 = .ok (.iload_n 2, 1) := by decide +kernel
theorem dX7_ofSession_12 : decode cX7_ofSession 12 = .ok (.iadd, 1) := by decide +kernel
theorem dX7_ofSession_13 : decode cX7_ofSession 13 = .ok (.iaload, 1) := by decide +kernel
theorem dX7_ofSession_14 : decode cX7_ofSession 14 = .ok (.ireturn, 1) := by decide +kernel
theorem dX7_laySession_0 : decode cX7_laySession 0 = .ok (.aload_n 0, 1) := by decide +kernel
theorem dX7_laySession_1 : decode cX7_laySession 1 = .ok (.getfield 7, 3) := by decide +kernel
theorem dX7_laySession_4 : decode cX7_laySession 4 = .ok (.bipush 30, 2) := by decide +kernel
theorem dX7_laySession_6 : decode cX7_laySession 6 = .ok (.bipush 33, 2) := by decide +kernel
theorem dX7_laySession_8 : decode cX7_laySession 8 = .ok (.iload_n 1, 1) := by decide +kernel
theorem dX7_laySession_9 : decode cX7_laySession 9 = .ok (.imul, 1) := by decide +kernel
theorem dX7_laySession_10 : decode cX7_laySession 10 = .ok (.iadd, 1) := by decide +kernel
theorem dX7_laySession_11 : decode cX7_laySession 11 = .ok (.iload_n 2, 1) := by decide +kernel
theorem dX7_laySession_12 : decode cX7_laySession 12 = .ok (.iadd, 1) := by decide +kernel
theorem dX7_laySession_13 : decode cX7_laySession 13 = .ok (.iload_n 3, 1) := by decide +kernel
theorem dX7_laySession_14 : decode cX7_laySession 14 = .ok (.iastore, 1) := by decide +kernel
theorem dX7_laySession_15 : decode cX7_laySession 15 = .ok (.return_, 1) := by decide +kernel
theorem dX7_isReplica_0 : decode cX7_isReplica 0 = .ok (.iload_n 1, 1) := by decide +kernel
theorem dX7_isReplica_1 : decode cX7_isReplica 1 = .ok (.iconst 0, 1) := by decide +kernel
theorem dX7_isReplica_2 : decode cX7_isReplica 2 = .ok (.iconst 4, 1) := by decide +kernel
theorem dX7_isReplica_3 : decode cX7_isReplica 3 = .ok (.invokestatic 26, 3) := by decide +kernel
theorem dX7_isReplica_6 : decode cX7_isReplica 6 = .ok (.ifCond .eq 17, 3) := by decide +kernel
theorem dX7_isReplica_9 : decode cX7_isReplica 9 = .ok (.aload_n 0, 1) := by decide +kernel
theorem dX7_isReplica_10 : decode cX7_isReplica 10 = .ok (.iload_n 1, 1) := by decide +kernel
theorem dX7_isReplica_11 : decode cX7_isReplica 11 = .ok (.iconst 0, 1) := by decide +kernel
theorem dX7_isReplica_12 : decode cX7_isReplica 12 = .ok (.invokevirtual 30, 3) := by decide +kernel
theorem dX7_isReplica_15 : decode cX7_isReplica 15 = .ok (.iconst 1, 1) := by decide +kernel
theorem dX7_isReplica_16 : decode cX7_isReplica 16 = .ok (.if_icmp .ne 7, 3) := by decide +kernel
theorem dX7_isReplica_19 : decode cX7_isReplica 19 = .ok (.iconst 1, 1) := by decide +kernel
theorem dX7_isReplica_20 : decode cX7_isReplica 20 = .ok (.goto 4, 3) := by decide +kernel
theorem dX7_isReplica_23 : decode cX7_isReplica 23 = .ok (.iconst 0, 1) := by decide +kernel
theorem dX7_isReplica_24 : decode cX7_isReplica 24 = .ok (.ireturn, 1) := by decide +kernel
theorem dX7_isPlace_0 : decode cX7_isPlace 0 = .ok (.iload_n 1, 1) := by decide +kernel
theorem dX7_isPlace_1 : decode cX7_isPlace 1 = .ok (.bipush 9, 2) := by decide +kernel
theorem dX7_isPlace_3 : decode cX7_isPlace 3 = .ok (.if_icmp .eq 11, 3) := by decide +kernel
theorem dX7_isPlace_6 : decode cX7_isPlace 6 = .ok (.aload_n 0, 1) := by decide +kernel
theorem dX7_isPlace_7 : decode cX7_isPlace 7 = .ok (.iload_n 1, 1) := by decide +kernel
theorem dX7_isPlace_8 : decode cX7_isPlace 8 = .ok (.invokevirtual 34, 3) := by decide +kernel
theorem dX7_isPlace_11 : decode cX7_isPlace 11 = .ok (.ifCond .eq 7, 3) := by decide +kernel
theorem dX7_isPlace_14 : decode cX7_isPlace 14 = .ok (.iconst 1, 1) := by decide +kernel
theorem dX7_isPlace_15 : decode cX7_isPlace 15 = .ok (.goto 4, 3) := by decide +kernel
theorem dX7_isPlace_18 : decode cX7_isPlace 18 = .ok (.iconst 0, 1) := by decide +kernel
theorem dX7_isPlace_19 : decode cX7_isPlace 19 = .ok (.ireturn, 1) := by decide +kernel
theorem dX7_isSession_0 : decode cX7_isSession 0 = .ok (.iload_n 1, 1) := by decide +kernel
theorem dX7_isSession_1 : decode cX7_isSession 1 = .ok (.iconst 0, 1) := by decide +kernel
theorem dX7_isSession_2 : decode cX7_isSession 2 = .ok (.bipush 7, 2) := by decide +kernel
theorem dX7_isSession_4 : decode cX7_isSession 4 = .ok (.invokestatic 26, 3) := by decide +kernel
theorem dX7_isSession_7 : decode cX7_isSession 7 = .ok (.ifCond .eq 17, 3) := by decide +kernel
theorem dX7_isSession_10 : decode cX7_isSession 10 = .ok (.aload_n 0, 1) := by decide +kernel
theorem dX7_isSession_11 : decode cX7_isSession 11 = .ok (.iload_n 1, 1) := by decide +kernel
theorem dX7_isSession_12 : decode cX7_isSession 12 = .ok (.iconst 0, 1) := by decide +kernel
theorem dX7_isSession_13 : decode cX7_isSession 13 = .ok (.invokevirtual 38, 3) := by decide +kernel
theorem dX7_isSession_16 : decode cX7_isSession 16 = .ok (.iconst 1, 1) := by decide +kernel
theorem dX7_isSession_17 : decode cX7_isSession 17 = .ok (.if_icmp .ne 7, 3) := by decide +kernel
theorem dX7_isSession_20 : decode cX7_isSession 20 = .ok (.iconst 1, 1) := by decide +kernel
theorem dX7_isSession_21 : decode cX7_isSession 21 = .ok (.goto 4, 3) := by decide +kernel
theorem dX7_isSession_24 : decode cX7_isSession 24 = .ok (.iconst 0, 1) := by decide +kernel
theorem dX7_isSession_25 : decode cX7_isSession 25 = .ok (.ireturn, 1) := by decide +kernel
theorem dX7_isKey_0 : decode cX7_isKey 0 = .ok (.iload_n 0, 1) := by decide +kernel
theorem dX7_isKey_1 : decode cX7_isKey 1 = .ok (.iconst 0, 1) := by decide +kernel
theorem dX7_isKey_2 : decode cX7_isKey 2 = .ok (.bipush 11, 2) := by decide +kernel
theorem dX7_isKey_4 : decode cX7_isKey 4 = .ok (.invokestatic 26, 3) := by decide +kernel
theorem dX7_isKey_7 : decode cX7_isKey 7 = .ok (.ireturn, 1) := by decide +kernel
theorem dX7_record_0 : decode cX7_record 0 = .ok (.aload_n 0, 1) := by decide +kernel
theorem dX7_record_1 : decode cX7_record 1 = .ok (.getfield 41, 3) := by decide +kernel
theorem dX7_record_4 : decode cX7_record 4 = .ok (.iconst 5, 1) := by decide +kernel
theorem dX7_record_5 : decode cX7_record 5 = .ok (.if_icmp .ne 44, 3) := by decide +kernel
theorem dX7_record_8 : decode cX7_record 8 = .ok (.iconst 0, 1) := by decide +kernel
theorem dX7_record_9 : decode cX7_record 9 = .ok (.istore_n 1, 1) := by decide +kernel
theorem dX7_record_10 : decode cX7_record 10 = .ok (.iload_n 1, 1) := by decide +kernel
theorem dX7_record_11 : decode cX7_record 11 = .ok (.sipush 3576, 3) := by decide +kernel
theorem dX7_record_14 : decode cX7_record 14 = .ok (.if_icmp .ge 25, 3) := by decide +kernel
theorem dX7_record_17 : decode cX7_record 17 = .ok (.aload_n 0, 1) := by decide +kernel
theorem dX7_record_18 : decode cX7_record 18 = .ok (.getfield 13, 3) := by decide +kernel
theorem dX7_record_21 : decode cX7_record 21 = .ok (.iload_n 1, 1) := by decide +kernel
theorem dX7_record_22 : decode cX7_record 22 = .ok (.aload_n 0, 1) := by decide +kernel
theorem dX7_record_23 : decode cX7_record 23 = .ok (.getfield 13, 3) := by decide +kernel
theorem dX7_record_26 : decode cX7_record 26 = .ok (.iload_n 1, 1) := by decide +kernel
theorem dX7_record_27 : decode cX7_record 27 = .ok (.sipush 894, 3) := by decide +kernel
theorem dX7_record_30 : decode cX7_record 30 = .ok (.iadd, 1) := by decide +kernel
theorem dX7_record_31 : decode cX7_record 31 = .ok (.iaload, 1) := by decide +kernel
theorem dX7_record_32 : decode cX7_record 32 = .ok (.iastore, 1) := by decide +kernel
theorem dX7_record_33 : decode cX7_record 33 = .ok (.iinc 1 1, 3) := by decide +kernel
theorem dX7_record_36 : decode cX7_record 36 = .ok (.goto (-26), 3) := by decide +kernel
theorem dX7_record_39 : decode cX7_record 39 = .ok (.aload_n 0, 1) := by decide +kernel
theorem dX7_record_40 : decode cX7_record 40 = .ok (.dup, 1) := by decide +kernel
theorem dX7_record_41 : decode cX7_record 41 = .ok (.getfield 41, 3) := by decide +kernel
theorem dX7_record_44 : decode cX7_record 44 = .ok (.iconst 1, 1) := by decide +kernel
theorem dX7_record_45 : decode cX7_record 45 = .ok (.isub, 1) := by decide +kernel
theorem dX7_record_46 : decode cX7_record 46 = .ok (.putfield 41, 3) := by decide +kernel
theorem dX7_record_49 : decode cX7_record 49 = .ok (.iconst 0, 1) := by decide +kernel
theorem dX7_record_50 : decode cX7_record 50 = .ok (.istore_n 1, 1) := by decide +kernel
theorem dX7_record_51 : decode cX7_record 51 = .ok (.iload_n 1, 1) := by decide +kernel
theorem dX7_record_52 : decode cX7_record 52 = .ok (.sipush 894, 3) := by decide +kernel
theorem dX7_record_55 : decode cX7_record 55 = .ok (.if_icmp .ge 30, 3) := by decide +kernel
theorem dX7_record_58 : decode cX7_record 58 = .ok (.aload_n 0, 1) := by decide +kernel
theorem dX7_record_59 : decode cX7_record 59 = .ok (.getfield 13, 3) := by decide +kernel
theorem dX7_record_62 : decode cX7_record 62 = .ok (.aload_n 0, 1) := by decide +kernel
theorem dX7_record_63 : decode cX7_record 63 = .ok (.getfield 41, 3) := by decide +kernel
theorem dX7_record_66 : decode cX7_record 66 = .ok (.sipush 894, 3) := by decide +kernel
theorem dX7_record_69 : decode cX7_record 69 = .ok (.imul, 1) := by decide +kernel
theorem dX7_record_70 : decode cX7_record 70 = .ok (.iload_n 1, 1) := by decide +kernel
theorem dX7_record_71 : decode cX7_record 71 = .ok (.iadd, 1) := by decide +kernel
theorem dX7_record_72 : decode cX7_record 72 = .ok (.aload_n 0, 1) := by decide +kernel
theorem dX7_record_73 : decode cX7_record 73 = .ok (.getfield 7, 3) := by decide +kernel
theorem dX7_record_76 : decode cX7_record 76 = .ok (.iload_n 1, 1) := by decide +kernel
theorem dX7_record_77 : decode cX7_record 77 = .ok (.iaload, 1) := by decide +kernel
theorem dX7_record_78 : decode cX7_record 78 = .ok (.iastore, 1) := by decide +kernel
theorem dX7_record_79 : decode cX7_record 79 = .ok (.iinc 1 1, 3) := by decide +kernel
theorem dX7_record_82 : decode cX7_record 82 = .ok (.goto (-31), 3) := by decide +kernel
theorem dX7_record_85 : decode cX7_record 85 = .ok (.aload_n 0, 1) := by decide +kernel
theorem dX7_record_86 : decode cX7_record 86 = .ok (.dup, 1) := by decide +kernel
theorem dX7_record_87 : decode cX7_record 87 = .ok (.getfield 41, 3) := by decide +kernel
theorem dX7_record_90 : decode cX7_record 90 = .ok (.iconst 1, 1) := by decide +kernel
theorem dX7_record_91 : decode cX7_record 91 = .ok (.iadd, 1) := by decide +kernel
theorem dX7_record_92 : decode cX7_record 92 = .ok (.putfield 41, 3) := by decide +kernel
theorem dX7_record_95 : decode cX7_record 95 = .ok (.return_, 1) := by decide +kernel
theorem dX7_undo_0 : decode cX7_undo 0 = .ok (.aload_n 0, 1) := by decide +kernel
theorem dX7_undo_1 : decode cX7_undo 1 = .ok (.getfield 41, 3) := by decide +kernel
theorem dX7_undo_4 : decode cX7_undo 4 = .ok (.ifCond .ne 6, 3) := by decide +kernel
theorem dX7_undo_7 : decode cX7_undo 7 = .ok (.bipush (-3), 2) := by decide +kernel
theorem dX7_undo_9 : decode cX7_undo 9 = .ok (.ireturn, 1) := by decide +kernel
theorem dX7_undo_10 : decode cX7_undo 10 = .ok (.aload_n 0, 1) := by decide +kernel
theorem dX7_undo_11 : decode cX7_undo 11 = .ok (.dup, 1) := by decide +kernel
theorem dX7_undo_12 : decode cX7_undo 12 = .ok (.getfield 41, 3) := by decide +kernel
theorem dX7_undo_15 : decode cX7_undo 15 = .ok (.iconst 1, 1) := by decide +kernel
theorem dX7_undo_16 : decode cX7_undo 16 = .ok (.isub, 1) := by decide +kernel
theorem dX7_undo_17 : decode cX7_undo 17 = .ok (.putfield 41, 3) := by decide +kernel
theorem dX7_undo_20 : decode cX7_undo 20 = .ok (.iconst 0, 1) := by decide +kernel
theorem dX7_undo_21 : decode cX7_undo 21 = .ok (.istore_n 1, 1) := by decide +kernel
theorem dX7_undo_22 : decode cX7_undo 22 = .ok (.iload_n 1, 1) := by decide +kernel
theorem dX7_undo_23 : decode cX7_undo 23 = .ok (.sipush 894, 3) := by decide +kernel
theorem dX7_undo_26 : decode cX7_undo 26 = .ok (.if_icmp .ge 30, 3) := by decide +kernel
theorem dX7_undo_29 : decode cX7_undo 29 = .ok (.aload_n 0, 1) := by decide +kernel
theorem dX7_undo_30 : decode cX7_undo 30 = .ok (.getfield 7, 3) := by decide +kernel
theorem dX7_undo_33 : decode cX7_undo 33 = .ok (.iload_n 1, 1) := by decide +kernel
theorem dX7_undo_34 : decode cX7_undo 34 = .ok (.aload_n 0, 1) := by decide +kernel
theorem dX7_undo_35 : decode cX7_undo 35 = .ok (.getfield 13, 3) := by decide +kernel
theorem dX7_undo_38 : decode cX7_undo 38 = .ok (.aload_n 0, 1) := by decide +kernel
theorem dX7_undo_39 : decode cX7_undo 39 = .ok (.getfield 41, 3) := by decide +kernel
theorem dX7_undo_42 : decode cX7_undo 42 = .ok (.sipush 894, 3) := by decide +kernel
theorem dX7_undo_45 : decode cX7_undo 45 = .ok (.imul, 1) := by decide +kernel
theorem dX7_undo_46 : decode cX7_undo 46 = .ok (.iload_n 1, 1) := by decide +kernel
theorem dX7_undo_47 : decode cX7_undo 47 = .ok (.iadd, 1) := by decide +kernel
theorem dX7_undo_48 : decode cX7_undo 48 = .ok (.iaload, 1) := by decide +kernel
theorem dX7_undo_49 : decode cX7_undo 49 = .ok (.iastore, 1) := by decide +kernel
theorem dX7_undo_50 : decode cX7_undo 50 = .ok (.iinc 1 1, 3) := by decide +kernel
theorem dX7_undo_53 : decode cX7_undo 53 = .ok (.goto (-31), 3) := by decide +kernel
theorem dX7_undo_56 : decode cX7_undo 56 = .ok (.aload_n 0, 1) := by decide +kernel
theorem dX7_undo_57 : decode cX7_undo 57 = .ok (.getfield 41, 3) := by decide +kernel
theorem dX7_undo_60 : decode cX7_undo 60 = .ok (.ireturn, 1) := by decide +kernel
theorem dX7_save_0 : decode cX7_save 0 = .ok (.aload_n 0, 1) := by decide +kernel
theorem dX7_save_1 : decode cX7_save 1 = .ok (.iconst 1, 1) := by decide +kernel
theorem dX7_save_2 : decode cX7_save 2 = .ok (.putfield 45, 3) := by decide +kernel
theorem dX7_save_5 : decode cX7_save 5 = .ok (.iconst 0, 1) := by decide +kernel
theorem dX7_save_6 : decode cX7_save 6 = .ok (.istore_n 1, 1) := by decide +kernel
theorem dX7_save_7 : decode cX7_save 7 = .ok (.iload_n 1, 1) := by decide +kernel
theorem dX7_save_8 : decode cX7_save 8 = .ok (.sipush 894, 3) := by decide +kernel
theorem dX7_save_11 : decode cX7_save 11 = .ok (.if_icmp .ge 21, 3) := by decide +kernel
theorem dX7_save_14 : decode cX7_save 14 = .ok (.aload_n 0, 1) := by decide +kernel
theorem dX7_save_15 : decode cX7_save 15 = .ok (.getfield 16, 3) := by decide +kernel
theorem dX7_save_18 : decode cX7_save 18 = .ok (.iload_n 1, 1) := by decide +kernel
theorem dX7_save_19 : decode cX7_save 19 = .ok (.aload_n 0, 1) := by decide +kernel
theorem dX7_save_20 : decode cX7_save 20 = .ok (.getfield 7, 3) := by decide +kernel
theorem dX7_save_23 : decode cX7_save 23 = .ok (.iload_n 1, 1) := by decide +kernel
theorem dX7_save_24 : decode cX7_save 24 = .ok (.iaload, 1) := by decide +kernel
theorem dX7_save_25 : decode cX7_save 25 = .ok (.iastore, 1) := by decide +kernel
theorem dX7_save_26 : decode cX7_save 26 = .ok (.iinc 1 1, 3) := by decide +kernel
theorem dX7_save_29 : decode cX7_save 29 = .ok (.goto (-22), 3) := by decide +kernel
theorem dX7_save_32 : decode cX7_save 32 = .ok (.aload_n 0, 1) := by decide +kernel
theorem dX7_save_33 : decode cX7_save 33 = .ok (.getfield 7, 3) := by decide +kernel
theorem dX7_save_36 : decode cX7_save 36 = .ok (.iconst 0, 1) := by decide +kernel
theorem dX7_save_37 : decode cX7_save 37 = .ok (.iaload, 1) := by decide +kernel
theorem dX7_save_38 : decode cX7_save 38 = .ok (.ireturn, 1) := by decide +kernel
theorem dX7_restore_0 : decode cX7_restore 0 = .ok (.aload_n 0, 1) := by decide +kernel
theorem dX7_restore_1 : decode cX7_restore 1 = .ok (.getfield 45, 3) := by decide +kernel
theorem dX7_restore_4 : decode cX7_restore 4 = .ok (.ifCond .ne 6, 3) := by decide +kernel
theorem dX7_restore_7 : decode cX7_restore 7 = .ok (.bipush (-3), 2) := by decide +kernel
theorem dX7_restore_9 : decode cX7_restore 9 = .ok (.ireturn, 1) := by decide +kernel
theorem dX7_restore_10 : decode cX7_restore 10 = .ok (.aload_n 0, 1) := by decide +kernel
theorem dX7_restore_11 : decode cX7_restore 11 = .ok (.invokevirtual 49, 3) := by decide +kernel
theorem dX7_restore_14 : decode cX7_restore 14 = .ok (.iconst 0, 1) := by decide +kernel
theorem dX7_restore_15 : decode cX7_restore 15 = .ok (.istore_n 1, 1) := by decide +kernel
theorem dX7_restore_16 : decode cX7_restore 16 = .ok (.iload_n 1, 1) := by decide +kernel
theorem dX7_restore_17 : decode cX7_restore 17 = .ok (.sipush 894, 3) := by decide +kernel
theorem dX7_restore_20 : decode cX7_restore 20 = .ok (.if_icmp .ge 21, 3) := by decide +kernel
theorem dX7_restore_23 : decode cX7_restore 23 = .ok (.aload_n 0, 1) := by decide +kernel
theorem dX7_restore_24 : decode cX7_restore 24 = .ok (.getfield 7, 3) := by decide +kernel
theorem dX7_restore_27 : decode cX7_restore 27 = .ok (.iload_n 1, 1) := by decide +kernel
theorem dX7_restore_28 : decode cX7_restore 28 = .ok (.aload_n 0, 1) := by decide +kernel
theorem dX7_restore_29 : decode cX7_restore 29 = .ok (.getfield 16, 3) := by decide +kernel
theorem dX7_restore_32 : decode cX7_restore 32 = .ok (.iload_n 1, 1) := by decide +kernel
theorem dX7_restore_33 : decode cX7_restore 33 = .ok (.iaload, 1) := by decide +kernel
theorem dX7_restore_34 : decode cX7_restore 34 = .ok (.iastore, 1) := by decide +kernel
theorem dX7_restore_35 : decode cX7_restore 35 = .ok (.iinc 1 1, 3) := by decide +kernel
theorem dX7_restore_38 : decode cX7_restore 38 = .ok (.goto (-22), 3) := by decide +kernel
theorem dX7_restore_41 : decode cX7_restore 41 = .ok (.aload_n 0, 1) := by decide +kernel
theorem dX7_restore_42 : decode cX7_restore 42 = .ok (.getfield 7, 3) := by decide +kernel
theorem dX7_restore_45 : decode cX7_restore 45 = .ok (.iconst 0, 1) := by decide +kernel
theorem dX7_restore_46 : decode cX7_restore 46 = .ok (.iaload, 1) := by decide +kernel
theorem dX7_restore_47 : decode cX7_restore 47 = .ok (.ireturn, 1) := by decide +kernel
theorem dX7_at_0 : decode cX7_at 0 = .ok (.iload_n 1, 1) := by decide +kernel
theorem dX7_at_1 : decode cX7_at 1 = .ok (.bipush 9, 2) := by decide +kernel
theorem dX7_at_3 : decode cX7_at 3 = .ok (.if_icmp .ne 12, 3) := by decide +kernel
theorem dX7_at_6 : decode cX7_at 6 = .ok (.aload_n 0, 1) := by decide +kernel
theorem dX7_at_7 : decode cX7_at 7 = .ok (.getfield 7, 3) := by decide +kernel
theorem dX7_at_10 : decode cX7_at 10 = .ok (.iconst 0, 1) := by decide +kernel
theorem dX7_at_11 : decode cX7_at 11 = .ok (.iaload, 1) := by decide +kernel
theorem dX7_at_12 : decode cX7_at 12 = .ok (.goto 9, 3) := by decide +kernel
theorem dX7_at_15 : decode cX7_at 15 = .ok (.aload_n 0, 1) := by decide +kernel
theorem dX7_at_16 : decode cX7_at 16 = .ok (.iload_n 1, 1) := by decide +kernel
theorem dX7_at_17 : decode cX7_at 17 = .ok (.iconst 1, 1) := by decide +kernel
theorem dX7_at_18 : decode cX7_at 18 = .ok (.invokevirtual 30, 3) := by decide +kernel
theorem dX7_at_21 : decode cX7_at 21 = .ok (.ireturn, 1) := by decide +kernel
theorem dX7_addReplica_0 : decode cX7_addReplica 0 = .ok (.iload_n 2, 1) := by decide +kernel
theorem dX7_addReplica_1 : decode cX7_addReplica 1 = .ok (.bipush (-6), 2) := by decide +kernel
theorem dX7_addReplica_3 : decode cX7_addReplica 3 = .ok (.if_icmp .eq 13, 3) := by decide +kernel
theorem dX7_addReplica_6 : decode cX7_addReplica 6 = .ok (.aload_n 0, 1) := by decide +kernel
theorem dX7_addReplica_7 : decode cX7_addReplica 7 = .ok (.iload_n 2, 1) := by decide +kernel
theorem dX7_addReplica_8 : decode cX7_addReplica 8 = .ok (.invokevirtual 52, 3) := by decide +kernel
theorem dX7_addReplica_11 : decode cX7_addReplica 11 = .ok (.ifCond .ne 5, 3) := by decide +kernel
theorem dX7_addReplica_14 : decode cX7_addReplica 14 = .ok (.iconst (-1), 1) := by decide +kernel
theorem dX7_addReplica_15 : decode cX7_addReplica 15 = .ok (.ireturn, 1) := by decide +kernel
theorem dX7_addReplica_16 : decode cX7_addReplica 16 = .ok (.iload_n 1, 1) := by decide +kernel
theorem dX7_addReplica_17 : decode cX7_addReplica 17 = .ok (.iconst 0, 1) := by decide +kernel
theorem dX7_addReplica_18 : decode cX7_addReplica 18 = .ok (.bipush 9, 2) := by decide +kernel
theorem dX7_addReplica_20 : decode cX7_addReplica 20 = .ok (.invokestatic 26, 3) := by decide +kernel
theorem dX7_addReplica_23 : decode cX7_addReplica 23 = .ok (.ifCond .ne 6, 3) := by decide +kernel
theorem dX7_addReplica_26 : decode cX7_addReplica 26 = .ok (.bipush (-2), 2) := by decide +kernel
theorem dX7_addReplica_28 : decode cX7_addReplica 28 = .ok (.ireturn, 1) := by decide +kernel
theorem dX7_addReplica_29 : decode cX7_addReplica 29 = .ok (.iconst 0, 1) := by decide +kernel
theorem dX7_addReplica_30 : decode cX7_addReplica 30 = .ok (.istore_n 3, 1) := by decide +kernel
theorem dX7_addReplica_31 : decode cX7_addReplica 31 = .ok (.iload_n 3, 1) := by decide +kernel
theorem dX7_addReplica_32 : decode cX7_addReplica 32 = .ok (.iconst 5, 1) := by decide +kernel
theorem dX7_addReplica_33 : decode cX7_addReplica 33 = .ok (.if_icmp .ge 19, 3) := by decide +kernel
theorem dX7_addReplica_36 : decode cX7_addReplica 36 = .ok (.aload_n 0, 1) := by decide +kernel
theorem dX7_addReplica_37 : decode cX7_addReplica 37 = .ok (.iload_n 3, 1) := by decide +kernel
theorem dX7_addReplica_38 : decode cX7_addReplica 38 = .ok (.iconst 0, 1) := by decide +kernel
theorem dX7_addReplica_39 : decode cX7_addReplica 39 = .ok (.invokevirtual 30, 3) := by decide +kernel
theorem dX7_addReplica_42 : decode cX7_addReplica 42 = .ok (.iconst 1, 1) := by decide +kernel
theorem dX7_addReplica_43 : decode cX7_addReplica 43 = .ok (.if_icmp .ne 9, 3) := by decide +kernel
theorem dX7_addReplica_46 : decode cX7_addReplica 46 = .ok (.iinc 3 1, 3) := by decide +kernel
theorem dX7_addReplica_49 : decode cX7_addReplica 49 = .ok (.goto (-18), 3) := by decide +kernel
theorem dX7_addReplica_52 : decode cX7_addReplica 52 = .ok (.iload_n 3, 1) := by decide +kernel
theorem dX7_addReplica_53 : decode cX7_addReplica 53 = .ok (.iconst 5, 1) := by decide +kernel
theorem dX7_addReplica_54 : decode cX7_addReplica 54 = .ok (.if_icmp .ne 6, 3) := by decide +kernel
theorem dX7_addReplica_57 : decode cX7_addReplica 57 = .ok (.bipush (-4), 2) := by decide +kernel
theorem dX7_addReplica_59 : decode cX7_addReplica 59 = .ok (.ireturn, 1) := by decide +kernel
theorem dX7_addReplica_60 : decode cX7_addReplica 60 = .ok (.aload_n 0, 1) := by decide +kernel
theorem dX7_addReplica_61 : decode cX7_addReplica 61 = .ok (.invokevirtual 49, 3) := by decide +kernel
theorem dX7_addReplica_64 : decode cX7_addReplica 64 = .ok (.aload_n 0, 1) := by decide +kernel
theorem dX7_addReplica_65 : decode cX7_addReplica 65 = .ok (.iload_n 3, 1) := by decide +kernel
theorem dX7_addReplica_66 : decode cX7_addReplica 66 = .ok (.iconst 0, 1) := by decide +kernel
theorem dX7_addReplica_67 : decode cX7_addReplica 67 = .ok (.iconst 1, 1) := by decide +kernel
theorem dX7_addReplica_68 : decode cX7_addReplica 68 = .ok (.invokevirtual 55, 3) := by decide +kernel
theorem dX7_addReplica_71 : decode cX7_addReplica 71 = .ok (.aload_n 0, 1) := by decide +kernel
theorem dX7_addReplica_72 : decode cX7_addReplica 72 = .ok (.iload_n 3, 1) := by decide +kernel
theorem dX7_addReplica_73 : decode cX7_addReplica 73 = .ok (.iconst 1, 1) := by decide +kernel
theorem dX7_addReplica_74 : decode cX7_addReplica 74 = .ok (.iload_n 2, 1) := by decide +kernel
theorem dX7_addReplica_75 : decode cX7_addReplica 75 = .ok (.bipush (-6), 2) := by decide +kernel
theorem dX7_addReplica_77 : decode cX7_addReplica 77 = .ok (.if_icmp .ne 7, 3) := by decide +kernel
theorem dX7_addReplica_80 : decode cX7_addReplica 80 = .ok (.iconst 0, 1) := by decide +kernel
theorem dX7_addReplica_81 : decode cX7_addReplica 81 = .ok (.goto 8, 3) := by decide +kernel
theorem dX7_addReplica_84 : decode cX7_addReplica 84 = .ok (.aload_n 0, 1) := by decide +kernel
theorem dX7_addReplica_85 : decode cX7_addReplica 85 = .ok (.iload_n 2, 1) := by decide +kernel
theorem dX7_addReplica_86 : decode cX7_addReplica 86 = .ok (.invokevirtual 59, 3) := by decide +kernel
theorem dX7_addReplica_89 : decode cX7_addReplica 89 = .ok (.invokevirtual 55, 3) := by decide +kernel
theorem dX7_addReplica_92 : decode cX7_addReplica 92 = .ok (.aload_n 0, 1) := by decide +kernel
theorem dX7_addReplica_93 : decode cX7_addReplica 93 = .ok (.iload_n 3, 1) := by decide +kernel
theorem dX7_addReplica_94 : decode cX7_addReplica 94 = .ok (.iconst 2, 1) := by decide +kernel
theorem dX7_addReplica_95 : decode cX7_addReplica 95 = .ok (.iload_n 1, 1) := by decide +kernel
theorem dX7_addReplica_96 : decode cX7_addReplica 96 = .ok (.invokevirtual 55, 3) := by decide +kernel
theorem dX7_addReplica_99 : decode cX7_addReplica 99 = .ok (.aload_n 0, 1) := by decide +kernel
theorem dX7_addReplica_100 : decode cX7_addReplica 100 = .ok (.iload_n 3, 1) := by decide +kernel
theorem dX7_addReplica_101 : decode cX7_addReplica 101 = .ok (.iconst 3, 1) := by decide +kernel
theorem dX7_addReplica_102 : decode cX7_addReplica 102 = .ok (.iconst 0, 1) := by decide +kernel
theorem dX7_addReplica_103 : decode cX7_addReplica 103 = .ok (.invokevirtual 55, 3) := by decide +kernel
theorem dX7_addReplica_106 : decode cX7_addReplica 106 = .ok (.aload_n 0, 1) := by decide +kernel
theorem dX7_addReplica_107 : decode cX7_addReplica 107 = .ok (.iload_n 3, 1) := by decide +kernel
theorem dX7_addReplica_108 : decode cX7_addReplica 108 = .ok (.iconst 4, 1) := by decide +kernel
theorem dX7_addReplica_109 : decode cX7_addReplica 109 = .ok (.iconst 0, 1) := by decide +kernel
theorem dX7_addReplica_110 : decode cX7_addReplica 110 = .ok (.invokevirtual 55, 3) := by decide +kernel
theorem dX7_addReplica_113 : decode cX7_addReplica 113 = .ok (.iload_n 3, 1) := by decide +kernel
theorem dX7_addReplica_114 : decode cX7_addReplica 114 = .ok (.ireturn, 1) := by decide +kernel
theorem dX7_homes_0 : decode cX7_homes 0 = .ok (.iconst 0, 1) := by decide +kernel
theorem dX7_homes_1 : decode cX7_homes 1 = .ok (.istore_n 2, 1) := by decide +kernel
theorem dX7_homes_2 : decode cX7_homes 2 = .ok (.iconst 0, 1) := by decide +kernel
theorem dX7_homes_3 : decode cX7_homes 3 = .ok (.istore_n 3, 1) := by decide +kernel
theorem dX7_homes_4 : decode cX7_homes 4 = .ok (.iload_n 3, 1) := by decide +kernel
theorem dX7_homes_5 : decode cX7_homes 5 = .ok (.bipush 8, 2) := by decide +kernel
theorem dX7_homes_7 : decode cX7_homes 7 = .ok (.if_icmp .ge 37, 3) := by decide +kernel
theorem dX7_homes_10 : decode cX7_homes 10 = .ok (.iload_n 2, 1) := by decide +kernel
theorem dX7_homes_11 : decode cX7_homes 11 = .ok (.aload_n 0, 1) := by decide +kernel
theorem dX7_homes_12 : decode cX7_homes 12 = .ok (.iload_n 3, 1) := by decide +kernel
theorem dX7_homes_13 : decode cX7_homes 13 = .ok (.iconst 0, 1) := by decide +kernel
theorem dX7_homes_14 : decode cX7_homes 14 = .ok (.invokevirtual 38, 3) := by decide +kernel
theorem dX7_homes_17 : decode cX7_homes 17 = .ok (.iconst 1, 1) := by decide +kernel
theorem dX7_homes_18 : decode cX7_homes 18 = .ok (.if_icmp .ne 17, 3) := by decide +kernel
theorem dX7_homes_21 : decode cX7_homes 21 = .ok (.aload_n 0, 1) := by decide +kernel
theorem dX7_homes_22 : decode cX7_homes 22 = .ok (.iload_n 3, 1) := by decide +kernel
theorem dX7_homes_23 : decode cX7_homes 23 = .ok (.iconst 1, 1) := by decide +kernel
theorem dX7_homes_24 : decode cX7_homes 24 = .ok (.invokevirtual 38, 3) := by decide +kernel
theorem dX7_homes_27 : decode cX7_homes 27 = .ok (.iload_n 1, 1) := by decide +kernel
theorem dX7_homes_28 : decode cX7_homes 28 = .ok (.if_icmp .ne 7, 3) := by decide +kernel
theorem dX7_homes_31 : decode cX7_homes 31 = .ok (.iconst 1, 1) := by decide +kernel
theorem dX7_homes_32 : decode cX7_homes 32 = .ok (.goto 4, 3) := by decide +kernel
theorem dX7_homes_35 : decode cX7_homes 35 = .ok (.iconst 0, 1) := by decide +kernel
theorem dX7_homes_36 : decode cX7_homes 36 = .ok (.iadd, 1) := by decide +kernel
theorem dX7_homes_37 : decode cX7_homes 37 = .ok (.istore_n 2, 1) := by decide +kernel
theorem dX7_homes_38 : decode cX7_homes 38 = .ok (.iinc 3 1, 3) := by decide +kernel
theorem dX7_homes_41 : decode cX7_homes 41 = .ok (.goto (-37), 3) := by decide +kernel
theorem dX7_homes_44 : decode cX7_homes 44 = .ok (.iload_n 2, 1) := by decide +kernel
theorem dX7_homes_45 : decode cX7_homes 45 = .ok (.ireturn, 1) := by decide +kernel
theorem dX7_drop_0 : decode cX7_drop 0 = .ok (.aload_n 0, 1) := by decide +kernel
theorem dX7_drop_1 : decode cX7_drop 1 = .ok (.iload_n 1, 1) := by decide +kernel
theorem dX7_drop_2 : decode cX7_drop 2 = .ok (.invokevirtual 34, 3) := by decide +kernel
theorem dX7_drop_5 : decode cX7_drop 5 = .ok (.ifCond .ne 5, 3) := by decide +kernel
theorem dX7_drop_8 : decode cX7_drop 8 = .ok (.iconst (-1), 1) := by decide +kernel
theorem dX7_drop_9 : decode cX7_drop 9 = .ok (.ireturn, 1) := by decide +kernel
theorem dX7_drop_10 : decode cX7_drop 10 = .ok (.aload_n 0, 1) := by decide +kernel
theorem dX7_drop_11 : decode cX7_drop 11 = .ok (.invokevirtual 49, 3) := by decide +kernel
theorem dX7_drop_14 : decode cX7_drop 14 = .ok (.aload_n 0, 1) := by decide +kernel
theorem dX7_drop_15 : decode cX7_drop 15 = .ok (.iload_n 1, 1) := by decide +kernel
theorem dX7_drop_16 : decode cX7_drop 16 = .ok (.invokevirtual 63, 3) := by decide +kernel
theorem dX7_drop_19 : decode cX7_drop 19 = .ok (.istore_n 2, 1) := by decide +kernel
theorem dX7_drop_20 : decode cX7_drop 20 = .ok (.iconst 0, 1) := by decide +kernel
theorem dX7_drop_21 : decode cX7_drop 21 = .ok (.istore_n 3, 1) := by decide +kernel
theorem dX7_drop_22 : decode cX7_drop 22 = .ok (.iload_n 3, 1) := by decide +kernel
theorem dX7_drop_23 : decode cX7_drop 23 = .ok (.bipush 8, 2) := by decide +kernel
theorem dX7_drop_25 : decode cX7_drop 25 = .ok (.if_icmp .ge 46, 3) := by decide +kernel
theorem dX7_drop_28 : decode cX7_drop 28 = .ok (.aload_n 0, 1) := by decide +kernel
theorem dX7_drop_29 : decode cX7_drop 29 = .ok (.iload_n 3, 1) := by decide +kernel
theorem dX7_drop_30 : decode cX7_drop 30 = .ok (.iconst 1, 1) := by decide +kernel
theorem dX7_drop_31 : decode cX7_drop 31 = .ok (.aload_n 0, 1) := by decide +kernel
theorem dX7_drop_32 : decode cX7_drop 32 = .ok (.iload_n 3, 1) := by decide +kernel
theorem dX7_drop_33 : decode cX7_drop 33 = .ok (.iconst 0, 1) := by decide +kernel
theorem dX7_drop_34 : decode cX7_drop 34 = .ok (.invokevirtual 38, 3) := by decide +kernel
theorem dX7_drop_37 : decode cX7_drop 37 = .ok (.iconst 1, 1) := by decide +kernel
theorem dX7_drop_38 : decode cX7_drop 38 = .ok (.if_icmp .ne 18, 3) := by decide +kernel
theorem dX7_drop_41 : decode cX7_drop 41 = .ok (.aload_n 0, 1) := by decide +kernel
theorem dX7_drop_42 : decode cX7_drop 42 = .ok (.iload_n 3, 1) := by decide +kernel
theorem dX7_drop_43 : decode cX7_drop 43 = .ok (.iconst 1, 1) := by decide +kernel
theorem dX7_drop_44 : decode cX7_drop 44 = .ok (.invokevirtual 38, 3) := by decide +kernel
theorem dX7_drop_47 : decode cX7_drop 47 = .ok (.iload_n 1, 1) := by decide +kernel
theorem dX7_drop_48 : decode cX7_drop 48 = .ok (.if_icmp .ne 8, 3) := by decide +kernel
theorem dX7_drop_51 : decode cX7_drop 51 = .ok (.bipush 9, 2) := by decide +kernel
theorem dX7_drop_53 : decode cX7_drop 53 = .ok (.goto 9, 3) := by decide +kernel
theorem dX7_drop_56 : decode cX7_drop 56 = .ok (.aload_n 0, 1) := by decide +kernel
theorem dX7_drop_57 : decode cX7_drop 57 = .ok (.iload_n 3, 1) := by decide +kernel
theorem dX7_drop_58 : decode cX7_drop 58 = .ok (.iconst 1, 1) := by decide +kernel
theorem dX7_drop_59 : decode cX7_drop 59 = .ok (.invokevirtual 38, 3) := by decide +kernel
theorem dX7_drop_62 : decode cX7_drop 62 = .ok (.invokevirtual 66, 3) := by decide +kernel
theorem dX7_drop_65 : decode cX7_drop 65 = .ok (.iinc 3 1, 3) := by decide +kernel
theorem dX7_drop_68 : decode cX7_drop 68 = .ok (.goto (-46), 3) := by decide +kernel
theorem dX7_drop_71 : decode cX7_drop 71 = .ok (.aload_n 0, 1) := by decide +kernel
theorem dX7_drop_72 : decode cX7_drop 72 = .ok (.iload_n 1, 1) := by decide +kernel
theorem dX7_drop_73 : decode cX7_drop 73 = .ok (.iconst 0, 1) := by decide +kernel
theorem dX7_drop_74 : decode cX7_drop 74 = .ok (.iconst 0, 1) := by decide +kernel
theorem dX7_drop_75 : decode cX7_drop 75 = .ok (.invokevirtual 55, 3) := by decide +kernel
theorem dX7_drop_78 : decode cX7_drop 78 = .ok (.iload_n 2, 1) := by decide +kernel
theorem dX7_drop_79 : decode cX7_drop 79 = .ok (.ireturn, 1) := by decide +kernel
theorem dX7_setRate_0 : decode cX7_setRate 0 = .ok (.aload_n 0, 1) := by decide +kernel
theorem dX7_setRate_1 : decode cX7_setRate 1 = .ok (.iload_n 1, 1) := by decide +kernel
theorem dX7_setRate_2 : decode cX7_setRate 2 = .ok (.invokevirtual 34, 3) := by decide +kernel
theorem dX7_setRate_5 : decode cX7_setRate 5 = .ok (.ifCond .ne 5, 3) := by decide +kernel
theorem dX7_setRate_8 : decode cX7_setRate 8 = .ok (.iconst (-1), 1) := by decide +kernel
theorem dX7_setRate_9 : decode cX7_setRate 9 = .ok (.ireturn, 1) := by decide +kernel
theorem dX7_setRate_10 : decode cX7_setRate 10 = .ok (.iload_n 2, 1) := by decide +kernel
theorem dX7_setRate_11 : decode cX7_setRate 11 = .ok (.iconst 0, 1) := by decide +kernel
theorem dX7_setRate_12 : decode cX7_setRate 12 = .ok (.bipush 9, 2) := by decide +kernel
theorem dX7_setRate_14 : decode cX7_setRate 14 = .ok (.invokestatic 26, 3) := by decide +kernel
theorem dX7_setRate_17 : decode cX7_setRate 17 = .ok (.ifCond .ne 6, 3) := by decide +kernel
theorem dX7_setRate_20 : decode cX7_setRate 20 = .ok (.bipush (-2), 2) := by decide +kernel
theorem dX7_setRate_22 : decode cX7_setRate 22 = .ok (.ireturn, 1) := by decide +kernel
theorem dX7_setRate_23 : decode cX7_setRate 23 = .ok (.aload_n 0, 1) := by decide +kernel
theorem dX7_setRate_24 : decode cX7_setRate 24 = .ok (.invokevirtual 49, 3) := by decide +kernel
theorem dX7_setRate_27 : decode cX7_setRate 27 = .ok (.aload_n 0, 1) := by decide +kernel
theorem dX7_setRate_28 : decode cX7_setRate 28 = .ok (.iload_n 1, 1) := by decide +kernel
theorem dX7_setRate_29 : decode cX7_setRate 29 = .ok (.iconst 2, 1) := by decide +kernel
theorem dX7_setRate_30 : decode cX7_setRate 30 = .ok (.invokevirtual 30, 3) := by decide +kernel
theorem dX7_setRate_33 : decode cX7_setRate 33 = .ok (.istore_n 3, 1) := by decide +kernel
theorem dX7_setRate_34 : decode cX7_setRate 34 = .ok (.aload_n 0, 1) := by decide +kernel
theorem dX7_setRate_35 : decode cX7_setRate 35 = .ok (.iload_n 1, 1) := by decide +kernel
theorem dX7_setRate_36 : decode cX7_setRate 36 = .ok (.iconst 2, 1) := by decide +kernel
theorem dX7_setRate_37 : decode cX7_setRate 37 = .ok (.iload_n 2, 1) := by decide +kernel
theorem dX7_setRate_38 : decode cX7_setRate 38 = .ok (.invokevirtual 55, 3) := by decide +kernel
theorem dX7_setRate_41 : decode cX7_setRate 41 = .ok (.iload_n 3, 1) := by decide +kernel
theorem dX7_setRate_42 : decode cX7_setRate 42 = .ok (.ireturn, 1) := by decide +kernel
theorem dX7_stop_0 : decode cX7_stop 0 = .ok (.aload_n 0, 1) := by decide +kernel
theorem dX7_stop_1 : decode cX7_stop 1 = .ok (.iload_n 1, 1) := by decide +kernel
theorem dX7_stop_2 : decode cX7_stop 2 = .ok (.invokevirtual 34, 3) := by decide +kernel
theorem dX7_stop_5 : decode cX7_stop 5 = .ok (.ifCond .ne 5, 3) := by decide +kernel
theorem dX7_stop_8 : decode cX7_stop 8 = .ok (.iconst (-1), 1) := by decide +kernel
theorem dX7_stop_9 : decode cX7_stop 9 = .ok (.ireturn, 1) := by decide +kernel
theorem dX7_stop_10 : decode cX7_stop 10 = .ok (.aload_n 0, 1) := by decide +kernel
theorem dX7_stop_11 : decode cX7_stop 11 = .ok (.invokevirtual 49, 3) := by decide +kernel
theorem dX7_stop_14 : decode cX7_stop 14 = .ok (.aload_n 0, 1) := by decide +kernel
theorem dX7_stop_15 : decode cX7_stop 15 = .ok (.iload_n 1, 1) := by decide +kernel
theorem dX7_stop_16 : decode cX7_stop 16 = .ok (.iconst 3, 1) := by decide +kernel
theorem dX7_stop_17 : decode cX7_stop 17 = .ok (.invokevirtual 30, 3) := by decide +kernel
theorem dX7_stop_20 : decode cX7_stop 20 = .ok (.istore_n 3, 1) := by decide +kernel
theorem dX7_stop_21 : decode cX7_stop 21 = .ok (.aload_n 0, 1) := by decide +kernel
theorem dX7_stop_22 : decode cX7_stop 22 = .ok (.iload_n 1, 1) := by decide +kernel
theorem dX7_stop_23 : decode cX7_stop 23 = .ok (.iconst 3, 1) := by decide +kernel
theorem dX7_stop_24 : decode cX7_stop 24 = .ok (.iload_n 2, 1) := by decide +kernel
theorem dX7_stop_25 : decode cX7_stop 25 = .ok (.ifCond .eq 7, 3) := by decide +kernel
theorem dX7_stop_28 : decode cX7_stop 28 = .ok (.iconst 1, 1) := by decide +kernel
theorem dX7_stop_29 : decode cX7_stop 29 = .ok (.goto 4, 3) := by decide +kernel
theorem dX7_stop_32 : decode cX7_stop 32 = .ok (.iconst 0, 1) := by decide +kernel
theorem dX7_stop_33 : decode cX7_stop 33 = .ok (.invokevirtual 55, 3) := by decide +kernel
theorem dX7_stop_36 : decode cX7_stop 36 = .ok (.iload_n 3, 1) := by decide +kernel
theorem dX7_stop_37 : decode cX7_stop 37 = .ok (.ireturn, 1) := by decide +kernel
theorem dX7_whyNotJump_0 : decode cX7_whyNotJump 0 = .ok (.aload_n 0, 1) := by decide +kernel
theorem dX7_whyNotJump_1 : decode cX7_whyNotJump 1 = .ok (.iload_n 1, 1) := by decide +kernel
theorem dX7_whyNotJump_2 : decode cX7_whyNotJump 2 = .ok (.invokevirtual 34, 3) := by decide +kernel
theorem dX7_whyNotJump_5 : decode cX7_whyNotJump 5 = .ok (.ifCond .ne 7, 3) := by decide +kernel
theorem dX7_whyNotJump_8 : decode cX7_whyNotJump 8 = .ok (.iconst (-1), 1) := by decide +kernel
theorem dX7_whyNotJump_9 : decode cX7_whyNotJump 9 = .ok (.goto 23, 3) := by decide +kernel
theorem dX7_whyNotJump_12 : decode cX7_whyNotJump 12 = .ok (.iload_n 2, 1) := by decide +kernel
theorem dX7_whyNotJump_13 : decode cX7_whyNotJump 13 = .ok (.iconst 0, 1) := by decide +kernel
theorem dX7_whyNotJump_14 : decode cX7_whyNotJump 14 = .ok (.aload_n 0, 1) := by decide +kernel
theorem dX7_whyNotJump_15 : decode cX7_whyNotJump 15 = .ok (.iload_n 1, 1) := by decide +kernel
theorem dX7_whyNotJump_16 : decode cX7_whyNotJump 16 = .ok (.iconst 1, 1) := by decide +kernel
theorem dX7_whyNotJump_17 : decode cX7_whyNotJump 17 = .ok (.invokevirtual 30, 3) := by decide +kernel
theorem dX7_whyNotJump_20 : decode cX7_whyNotJump 20 = .ok (.invokestatic 26, 3) := by decide +kernel
theorem dX7_whyNotJump_23 : decode cX7_whyNotJump 23 = .ok (.ifCond .eq 7, 3) := by decide +kernel
theorem dX7_whyNotJump_26 : decode cX7_whyNotJump 26 = .ok (.iconst 0, 1) := by decide +kernel
theorem dX7_whyNotJump_27 : decode cX7_whyNotJump 27 = .ok (.goto 5, 3) := by decide +kernel
theorem dX7_whyNotJump_30 : decode cX7_whyNotJump 30 = .ok (.bipush (-2), 2) := by decide +kernel
theorem dX7_whyNotJump_32 : decode cX7_whyNotJump 32 = .ok (.ireturn, 1) := by decide +kernel
theorem dX7_jumps_0 : decode cX7_jumps 0 = .ok (.aload_n 0, 1) := by decide +kernel
theorem dX7_jumps_1 : decode cX7_jumps 1 = .ok (.iload_n 1, 1) := by decide +kernel
theorem dX7_jumps_2 : decode cX7_jumps 2 = .ok (.iconst 1, 1) := by decide +kernel
theorem dX7_jumps_3 : decode cX7_jumps 3 = .ok (.invokevirtual 30, 3) := by decide +kernel
theorem dX7_jumps_6 : decode cX7_jumps 6 = .ok (.istore_n 3, 1) := by decide +kernel
theorem dX7_jumps_7 : decode cX7_jumps 7 = .ok (.aload_n 0, 1) := by decide +kernel
theorem dX7_jumps_8 : decode cX7_jumps 8 = .ok (.iload_n 1, 1) := by decide +kernel
theorem dX7_jumps_9 : decode cX7_jumps 9 = .ok (.iconst 1, 1) := by decide +kernel
theorem dX7_jumps_10 : decode cX7_jumps 10 = .ok (.iload_n 2, 1) := by decide +kernel
theorem dX7_jumps_11 : decode cX7_jumps 11 = .ok (.invokevirtual 55, 3) := by decide +kernel
theorem dX7_jumps_14 : decode cX7_jumps 14 = .ok (.iload_n 3, 1) := by decide +kernel
theorem dX7_jumps_15 : decode cX7_jumps 15 = .ok (.ireturn, 1) := by decide +kernel
theorem dX7_jumpBack_0 : decode cX7_jumpBack 0 = .ok (.aload_n 0, 1) := by decide +kernel
theorem dX7_jumpBack_1 : decode cX7_jumpBack 1 = .ok (.iload_n 1, 1) := by decide +kernel
theorem dX7_jumpBack_2 : decode cX7_jumpBack 2 = .ok (.iload_n 2, 1) := by decide +kernel
theorem dX7_jumpBack_3 : decode cX7_jumpBack 3 = .ok (.invokevirtual 69, 3) := by decide +kernel
theorem dX7_jumpBack_6 : decode cX7_jumpBack 6 = .ok (.istore_n 3, 1) := by decide +kernel
theorem dX7_jumpBack_7 : decode cX7_jumpBack 7 = .ok (.iload_n 3, 1) := by decide +kernel
theorem dX7_jumpBack_8 : decode cX7_jumpBack 8 = .ok (.ifCond .ge 5, 3) := by decide +kernel
theorem dX7_jumpBack_11 : decode cX7_jumpBack 11 = .ok (.iload_n 3, 1) := by decide +kernel
theorem dX7_jumpBack_12 : decode cX7_jumpBack 12 = .ok (.ireturn, 1) := by decide +kernel
theorem dX7_jumpBack_13 : decode cX7_jumpBack 13 = .ok (.aload_n 0, 1) := by decide +kernel
theorem dX7_jumpBack_14 : decode cX7_jumpBack 14 = .ok (.invokevirtual 49, 3) := by decide +kernel
theorem dX7_jumpBack_17 : decode cX7_jumpBack 17 = .ok (.aload_n 0, 1) := by decide +kernel
theorem dX7_jumpBack_18 : decode cX7_jumpBack 18 = .ok (.iload_n 1, 1) := by decide +kernel
theorem dX7_jumpBack_19 : decode cX7_jumpBack 19 = .ok (.iload_n 2, 1) := by decide +kernel
theorem dX7_jumpBack_20 : decode cX7_jumpBack 20 = .ok (.invokevirtual 72, 3) := by decide +kernel
theorem dX7_jumpBack_23 : decode cX7_jumpBack 23 = .ok (.ireturn, 1) := by decide +kernel
theorem dX7_atBehind_0 : decode cX7_atBehind 0 = .ok (.iload_n 1, 1) := by decide +kernel
theorem dX7_atBehind_1 : decode cX7_atBehind 1 = .ok (.bipush 9, 2) := by decide +kernel
theorem dX7_atBehind_3 : decode cX7_atBehind 3 = .ok (.if_icmp .ne 10, 3) := by decide +kernel
theorem dX7_atBehind_6 : decode cX7_atBehind 6 = .ok (.aload_n 0, 1) := by decide +kernel
theorem dX7_atBehind_7 : decode cX7_atBehind 7 = .ok (.getfield 7, 3) := by decide +kernel
theorem dX7_atBehind_10 : decode cX7_atBehind 10 = .ok (.iconst 0, 1) := by decide +kernel
theorem dX7_atBehind_11 : decode cX7_atBehind 11 = .ok (.iaload, 1) := by decide +kernel
theorem dX7_atBehind_12 : decode cX7_atBehind 12 = .ok (.ireturn, 1) := by decide +kernel
theorem dX7_atBehind_13 : decode cX7_atBehind 13 = .ok (.aload_n 0, 1) := by decide +kernel
theorem dX7_atBehind_14 : decode cX7_atBehind 14 = .ok (.iload_n 1, 1) := by decide +kernel
theorem dX7_atBehind_15 : decode cX7_atBehind 15 = .ok (.iconst 1, 1) := by decide +kernel
theorem dX7_atBehind_16 : decode cX7_atBehind 16 = .ok (.invokevirtual 30, 3) := by decide +kernel
theorem dX7_atBehind_19 : decode cX7_atBehind 19 = .ok (.aload_n 0, 1) := by decide +kernel
theorem dX7_atBehind_20 : decode cX7_atBehind 20 = .ok (.iload_n 1, 1) := by decide +kernel
theorem dX7_atBehind_21 : decode cX7_atBehind 21 = .ok (.iconst 3, 1) := by decide +kernel
theorem dX7_atBehind_22 : decode cX7_atBehind 22 = .ok (.invokevirtual 30, 3) := by decide +kernel
theorem dX7_atBehind_25 : decode cX7_atBehind 25 = .ok (.iconst 1, 1) := by decide +kernel
theorem dX7_atBehind_26 : decode cX7_atBehind 26 = .ok (.if_icmp .ne 7, 3) := by decide +kernel
theorem dX7_atBehind_29 : decode cX7_atBehind 29 = .ok (.iconst 0, 1) := by decide +kernel
theorem dX7_atBehind_30 : decode cX7_atBehind 30 = .ok (.goto 11, 3) := by decide +kernel
theorem dX7_atBehind_33 : decode cX7_atBehind 33 = .ok (.aload_n 0, 1) := by decide +kernel
theorem dX7_atBehind_34 : decode cX7_atBehind 34 = .ok (.iload_n 1, 1) := by decide +kernel
theorem dX7_atBehind_35 : decode cX7_atBehind 35 = .ok (.iconst 2, 1) := by decide +kernel
theorem dX7_atBehind_36 : decode cX7_atBehind 36 = .ok (.invokevirtual 30, 3) := by decide +kernel
theorem dX7_atBehind_39 : decode cX7_atBehind 39 = .ok (.iload_n 2, 1) := by decide +kernel
theorem dX7_atBehind_40 : decode cX7_atBehind 40 = .ok (.imul, 1) := by decide +kernel
theorem dX7_atBehind_41 : decode cX7_atBehind 41 = .ok (.iadd, 1) := by decide +kernel
theorem dX7_atBehind_42 : decode cX7_atBehind 42 = .ok (.istore_n 3, 1) := by decide +kernel
theorem dX7_atBehind_43 : decode cX7_atBehind 43 = .ok (.iload_n 3, 1) := by decide +kernel
theorem dX7_atBehind_44 : decode cX7_atBehind 44 = .ok (.aload_n 0, 1) := by decide +kernel
theorem dX7_atBehind_45 : decode cX7_atBehind 45 = .ok (.getfield 7, 3) := by decide +kernel
theorem dX7_atBehind_48 : decode cX7_atBehind 48 = .ok (.iconst 0, 1) := by decide +kernel
theorem dX7_atBehind_49 : decode cX7_atBehind 49 = .ok (.iaload, 1) := by decide +kernel
theorem dX7_atBehind_50 : decode cX7_atBehind 50 = .ok (.if_icmp .le 12, 3) := by decide +kernel
theorem dX7_atBehind_53 : decode cX7_atBehind 53 = .ok (.aload_n 0, 1) := by decide +kernel
theorem dX7_atBehind_54 : decode cX7_atBehind 54 = .ok (.getfield 7, 3) := by decide +kernel
theorem dX7_atBehind_57 : decode cX7_atBehind 57 = .ok (.iconst 0, 1) := by decide +kernel
theorem dX7_atBehind_58 : decode cX7_atBehind 58 = .ok (.iaload, 1) := by decide +kernel
theorem dX7_atBehind_59 : decode cX7_atBehind 59 = .ok (.goto 4, 3) := by decide +kernel
theorem dX7_atBehind_62 : decode cX7_atBehind 62 = .ok (.iload_n 3, 1) := by decide +kernel
theorem dX7_atBehind_63 : decode cX7_atBehind 63 = .ok (.ireturn, 1) := by decide +kernel
theorem dX7_ticks_0 : decode cX7_ticks 0 = .ok (.iconst 0, 1) := by decide +kernel
theorem dX7_ticks_1 : decode cX7_ticks 1 = .ok (.istore_n 2, 1) := by decide +kernel
theorem dX7_ticks_2 : decode cX7_ticks 2 = .ok (.iload_n 2, 1) := by decide +kernel
theorem dX7_ticks_3 : decode cX7_ticks 3 = .ok (.iconst 5, 1) := by decide +kernel
theorem dX7_ticks_4 : decode cX7_ticks 4 = .ok (.if_icmp .ge 31, 3) := by decide +kernel
theorem dX7_ticks_7 : decode cX7_ticks 7 = .ok (.aload_n 0, 1) := by decide +kernel
theorem dX7_ticks_8 : decode cX7_ticks 8 = .ok (.iload_n 2, 1) := by decide +kernel
theorem dX7_ticks_9 : decode cX7_ticks 9 = .ok (.iconst 0, 1) := by decide +kernel
theorem dX7_ticks_10 : decode cX7_ticks 10 = .ok (.invokevirtual 30, 3) := by decide +kernel
theorem dX7_ticks_13 : decode cX7_ticks 13 = .ok (.iconst 1, 1) := by decide +kernel
theorem dX7_ticks_14 : decode cX7_ticks 14 = .ok (.if_icmp .ne 15, 3) := by decide +kernel
theorem dX7_ticks_17 : decode cX7_ticks 17 = .ok (.aload_n 0, 1) := by decide +kernel
theorem dX7_ticks_18 : decode cX7_ticks 18 = .ok (.iload_n 2, 1) := by decide +kernel
theorem dX7_ticks_19 : decode cX7_ticks 19 = .ok (.iconst 1, 1) := by decide +kernel
theorem dX7_ticks_20 : decode cX7_ticks 20 = .ok (.aload_n 0, 1) := by decide +kernel
theorem dX7_ticks_21 : decode cX7_ticks 21 = .ok (.iload_n 2, 1) := by decide +kernel
theorem dX7_ticks_22 : decode cX7_ticks 22 = .ok (.iload_n 1, 1) := by decide +kernel
theorem dX7_ticks_23 : decode cX7_ticks 23 = .ok (.invokevirtual 75, 3) := by decide +kernel
theorem dX7_ticks_26 : decode cX7_ticks 26 = .ok (.invokevirtual 55, 3) := by decide +kernel
theorem dX7_ticks_29 : decode cX7_ticks 29 = .ok (.iinc 2 1, 3) := by decide +kernel
theorem dX7_ticks_32 : decode cX7_ticks 32 = .ok (.goto (-30), 3) := by decide +kernel
theorem dX7_ticks_35 : decode cX7_ticks 35 = .ok (.return_, 1) := by decide +kernel
theorem dX7_tick_0 : decode cX7_tick 0 = .ok (.iload_n 1, 1) := by decide +kernel
theorem dX7_tick_1 : decode cX7_tick 1 = .ok (.iconst 1, 1) := by decide +kernel
theorem dX7_tick_2 : decode cX7_tick 2 = .ok (.bipush 99, 2) := by decide +kernel
theorem dX7_tick_4 : decode cX7_tick 4 = .ok (.invokestatic 26, 3) := by decide +kernel
theorem dX7_tick_7 : decode cX7_tick 7 = .ok (.ifCond .ne 6, 3) := by decide +kernel
theorem dX7_tick_10 : decode cX7_tick 10 = .ok (.bipush (-2), 2) := by decide +kernel
theorem dX7_tick_12 : decode cX7_tick 12 = .ok (.ireturn, 1) := by decide +kernel
theorem dX7_tick_13 : decode cX7_tick 13 = .ok (.aload_n 0, 1) := by decide +kernel
theorem dX7_tick_14 : decode cX7_tick 14 = .ok (.invokevirtual 49, 3) := by decide +kernel
theorem dX7_tick_17 : decode cX7_tick 17 = .ok (.aload_n 0, 1) := by decide +kernel
theorem dX7_tick_18 : decode cX7_tick 18 = .ok (.iload_n 1, 1) := by decide +kernel
theorem dX7_tick_19 : decode cX7_tick 19 = .ok (.invokevirtual 78, 3) := by decide +kernel
theorem dX7_tick_22 : decode cX7_tick 22 = .ok (.iconst 0, 1) := by decide +kernel
theorem dX7_tick_23 : decode cX7_tick 23 = .ok (.istore_n 2, 1) := by decide +kernel
theorem dX7_tick_24 : decode cX7_tick 24 = .ok (.iconst 0, 1) := by decide +kernel
theorem dX7_tick_25 : decode cX7_tick 25 = .ok (.istore_n 3, 1) := by decide +kernel
theorem dX7_tick_26 : decode cX7_tick 26 = .ok (.iload_n 3, 1) := by decide +kernel
theorem dX7_tick_27 : decode cX7_tick 27 = .ok (.iconst 5, 1) := by decide +kernel
theorem dX7_tick_28 : decode cX7_tick 28 = .ok (.if_icmp .ge 42, 3) := by decide +kernel
theorem dX7_tick_31 : decode cX7_tick 31 = .ok (.iload_n 2, 1) := by decide +kernel
theorem dX7_tick_32 : decode cX7_tick 32 = .ok (.aload_n 0, 1) := by decide +kernel
theorem dX7_tick_33 : decode cX7_tick 33 = .ok (.iload_n 3, 1) := by decide +kernel
theorem dX7_tick_34 : decode cX7_tick 34 = .ok (.iconst 0, 1) := by decide +kernel
theorem dX7_tick_35 : decode cX7_tick 35 = .ok (.invokevirtual 30, 3) := by decide +kernel
theorem dX7_tick_38 : decode cX7_tick 38 = .ok (.iconst 1, 1) := by decide +kernel
theorem dX7_tick_39 : decode cX7_tick 39 = .ok (.if_icmp .ne 22, 3) := by decide +kernel
theorem dX7_tick_42 : decode cX7_tick 42 = .ok (.aload_n 0, 1) := by decide +kernel
theorem dX7_tick_43 : decode cX7_tick 43 = .ok (.iload_n 3, 1) := by decide +kernel
theorem dX7_tick_44 : decode cX7_tick 44 = .ok (.iconst 1, 1) := by decide +kernel
theorem dX7_tick_45 : decode cX7_tick 45 = .ok (.invokevirtual 30, 3) := by decide +kernel
theorem dX7_tick_48 : decode cX7_tick 48 = .ok (.aload_n 0, 1) := by decide +kernel
theorem dX7_tick_49 : decode cX7_tick 49 = .ok (.getfield 7, 3) := by decide +kernel
theorem dX7_tick_52 : decode cX7_tick 52 = .ok (.iconst 0, 1) := by decide +kernel
theorem dX7_tick_53 : decode cX7_tick 53 = .ok (.iaload, 1) := by decide +kernel
theorem dX7_tick_54 : decode cX7_tick 54 = .ok (.if_icmp .ne 7, 3) := by decide +kernel
theorem dX7_tick_57 : decode cX7_tick 57 = .ok (.iconst 1, 1) := by decide +kernel
theorem dX7_tick_58 : decode cX7_tick 58 = .ok (.goto 4, 3) := by decide +kernel
theorem dX7_tick_61 : decode cX7_tick 61 = .ok (.iconst 0, 1) := by decide +kernel
theorem dX7_tick_62 : decode cX7_tick 62 = .ok (.iadd, 1) := by decide +kernel
theorem dX7_tick_63 : decode cX7_tick 63 = .ok (.istore_n 2, 1) := by decide +kernel
theorem dX7_tick_64 : decode cX7_tick 64 = .ok (.iinc 3 1, 3) := by decide +kernel
theorem dX7_tick_67 : decode cX7_tick 67 = .ok (.goto (-41), 3) := by decide +kernel
theorem dX7_tick_70 : decode cX7_tick 70 = .ok (.iload_n 2, 1) := by decide +kernel
theorem dX7_tick_71 : decode cX7_tick 71 = .ok (.ireturn, 1) := by decide +kernel
theorem dX7_replicas_0 : decode cX7_replicas 0 = .ok (.iconst 0, 1) := by decide +kernel
theorem dX7_replicas_1 : decode cX7_replicas 1 = .ok (.istore_n 1, 1) := by decide +kernel
theorem dX7_replicas_2 : decode cX7_replicas 2 = .ok (.iconst 0, 1) := by decide +kernel
theorem dX7_replicas_3 : decode cX7_replicas 3 = .ok (.istore_n 2, 1) := by decide +kernel
theorem dX7_replicas_4 : decode cX7_replicas 4 = .ok (.iload_n 2, 1) := by decide +kernel
theorem dX7_replicas_5 : decode cX7_replicas 5 = .ok (.iconst 5, 1) := by decide +kernel
theorem dX7_replicas_6 : decode cX7_replicas 6 = .ok (.if_icmp .ge 20, 3) := by decide +kernel
theorem dX7_replicas_9 : decode cX7_replicas 9 = .ok (.iload_n 1, 1) := by decide +kernel
theorem dX7_replicas_10 : decode cX7_replicas 10 = .ok (.aload_n 0, 1) := by decide +kernel
theorem dX7_replicas_11 : decode cX7_replicas 11 = .ok (.iload_n 2, 1) := by decide +kernel
theorem dX7_replicas_12 : decode cX7_replicas 12 = .ok (.iconst 0, 1) := by decide +kernel
theorem dX7_replicas_13 : decode cX7_replicas 13 = .ok (.invokevirtual 30, 3) := by decide +kernel
theorem dX7_replicas_16 : decode cX7_replicas 16 = .ok (.iload_n 2, 1) := by decide +kernel
theorem dX7_replicas_17 : decode cX7_replicas 17 = .ok (.ishl, 1) := by decide +kernel
theorem dX7_replicas_18 : decode cX7_replicas 18 = .ok (.ior, 1) := by decide +kernel
theorem dX7_replicas_19 : decode cX7_replicas 19 = .ok (.istore_n 1, 1) := by decide +kernel
theorem dX7_replicas_20 : decode cX7_replicas 20 = .ok (.iinc 2 1, 3) := by decide +kernel
theorem dX7_replicas_23 : decode cX7_replicas 23 = .ok (.goto (-19), 3) := by decide +kernel
theorem dX7_replicas_26 : decode cX7_replicas 26 = .ok (.iload_n 1, 1) := by decide +kernel
theorem dX7_replicas_27 : decode cX7_replicas 27 = .ok (.ireturn, 1) := by decide +kernel
theorem dX7_replica_0 : decode cX7_replica 0 = .ok (.aload_n 0, 1) := by decide +kernel
theorem dX7_replica_1 : decode cX7_replica 1 = .ok (.iload_n 1, 1) := by decide +kernel
theorem dX7_replica_2 : decode cX7_replica 2 = .ok (.invokevirtual 34, 3) := by decide +kernel
theorem dX7_replica_5 : decode cX7_replica 5 = .ok (.ifCond .ne 5, 3) := by decide +kernel
theorem dX7_replica_8 : decode cX7_replica 8 = .ok (.iconst (-1), 1) := by decide +kernel
theorem dX7_replica_9 : decode cX7_replica 9 = .ok (.ireturn, 1) := by decide +kernel
theorem dX7_replica_10 : decode cX7_replica 10 = .ok (.iload_n 2, 1) := by decide +kernel
theorem dX7_replica_11 : decode cX7_replica 11 = .ok (.tableswitch 45 0 2 #[25, 32, 39], 25) := by decide +kernel
theorem dX7_replica_36 : decode cX7_replica 36 = .ok (.aload_n 0, 1) := by decide +kernel
theorem dX7_replica_37 : decode cX7_replica 37 = .ok (.iload_n 1, 1) := by decide +kernel
theorem dX7_replica_38 : decode cX7_replica 38 = .ok (.iconst 2, 1) := by decide +kernel
theorem dX7_replica_39 : decode cX7_replica 39 = .ok (.invokevirtual 30, 3) := by decide +kernel
theorem dX7_replica_42 : decode cX7_replica 42 = .ok (.ireturn, 1) := by decide +kernel
theorem dX7_replica_43 : decode cX7_replica 43 = .ok (.aload_n 0, 1) := by decide +kernel
theorem dX7_replica_44 : decode cX7_replica 44 = .ok (.iload_n 1, 1) := by decide +kernel
theorem dX7_replica_45 : decode cX7_replica 45 = .ok (.iconst 3, 1) := by decide +kernel
theorem dX7_replica_46 : decode cX7_replica 46 = .ok (.invokevirtual 30, 3) := by decide +kernel
theorem dX7_replica_49 : decode cX7_replica 49 = .ok (.ireturn, 1) := by decide +kernel
theorem dX7_replica_50 : decode cX7_replica 50 = .ok (.aload_n 0, 1) := by decide +kernel
theorem dX7_replica_51 : decode cX7_replica 51 = .ok (.iload_n 1, 1) := by decide +kernel
theorem dX7_replica_52 : decode cX7_replica 52 = .ok (.invokevirtual 63, 3) := by decide +kernel
theorem dX7_replica_55 : decode cX7_replica 55 = .ok (.ireturn, 1) := by decide +kernel
theorem dX7_replica_56 : decode cX7_replica 56 = .ok (.bipush (-2), 2) := by decide +kernel
theorem dX7_replica_58 : decode cX7_replica 58 = .ok (.ireturn, 1) := by decide +kernel
theorem dX7_length_0 : decode cX7_length 0 = .ok (.aload_n 0, 1) := by decide +kernel
theorem dX7_length_1 : decode cX7_length 1 = .ok (.getfield 7, 3) := by decide +kernel
theorem dX7_length_4 : decode cX7_length 4 = .ok (.iconst 0, 1) := by decide +kernel
theorem dX7_length_5 : decode cX7_length 5 = .ok (.iaload, 1) := by decide +kernel
theorem dX7_length_6 : decode cX7_length 6 = .ok (.ireturn, 1) := by decide +kernel
theorem dX7_ofWrite_0 : decode cX7_ofWrite 0 = .ok (.aload_n 0, 1) := by decide +kernel
theorem dX7_ofWrite_1 : decode cX7_ofWrite 1 = .ok (.getfield 7, 3) := by decide +kernel
theorem dX7_ofWrite_4 : decode cX7_ofWrite 4 = .ok (.sipush 294, 3) := by decide +kernel
theorem dX7_ofWrite_7 : decode cX7_ofWrite 7 = .ok (.iconst 3, 1) := by decide +kernel
theorem dX7_ofWrite_8 : decode cX7_ofWrite 8 = .ok (.iload_n 1, 1) := by decide +kernel
theorem dX7_ofWrite_9 : decode cX7_ofWrite 9 = .ok (.iconst 1, 1) := by decide +kernel
theorem dX7_ofWrite_10 : decode cX7_ofWrite 10 = .ok (.isub, 1) := by decide +kernel
theorem dX7_ofWrite_11 : decode cX7_ofWrite 11 = .ok (.imul, 1) := by decide +kernel
theorem dX7_ofWrite_12 : decode cX7_ofWrite 12 = .ok (.iadd, 1) := by decide +kernel
theorem dX7_ofWrite_13 : decode cX7_ofWrite 13 = .ok (.iload_n 2, 1) := by decide +kernel
theorem dX7_ofWrite_14 : decode cX7_ofWrite 14 = .ok (.iadd, 1) := by decide +kernel
theorem dX7_ofWrite_15 : decode cX7_ofWrite 15 = .ok (.iaload, 1) := by decide +kernel
theorem dX7_ofWrite_16 : decode cX7_ofWrite 16 = .ok (.ireturn, 1) := by decide +kernel
theorem dX7_logged_0 : decode cX7_logged 0 = .ok (.iload_n 1, 1) := by decide +kernel
theorem dX7_logged_1 : decode cX7_logged 1 = .ok (.iconst 1, 1) := by decide +kernel
theorem dX7_logged_2 : decode cX7_logged 2 = .ok (.aload_n 0, 1) := by decide +kernel
theorem dX7_logged_3 : decode cX7_logged 3 = .ok (.getfield 7, 3) := by decide +kernel
theorem dX7_logged_6 : decode cX7_logged 6 = .ok (.iconst 0, 1) := by decide +kernel
theorem dX7_logged_7 : decode cX7_logged 7 = .ok (.iaload, 1) := by decide +kernel
theorem dX7_logged_8 : decode cX7_logged 8 = .ok (.invokestatic 26, 3) := by decide +kernel
theorem dX7_logged_11 : decode cX7_logged 11 = .ok (.ifCond .ne 5, 3) := by decide +kernel
theorem dX7_logged_14 : decode cX7_logged 14 = .ok (.iconst (-1), 1) := by decide +kernel
theorem dX7_logged_15 : decode cX7_logged 15 = .ok (.ireturn, 1) := by decide +kernel
theorem dX7_logged_16 : decode cX7_logged 16 = .ok (.iload_n 2, 1) := by decide +kernel
theorem dX7_logged_17 : decode cX7_logged 17 = .ok (.iconst 0, 1) := by decide +kernel
theorem dX7_logged_18 : decode cX7_logged 18 = .ok (.iconst 2, 1) := by decide +kernel
theorem dX7_logged_19 : decode cX7_logged 19 = .ok (.invokestatic 26, 3) := by decide +kernel
theorem dX7_logged_22 : decode cX7_logged 22 = .ok (.ifCond .eq 12, 3) := by decide +kernel
theorem dX7_logged_25 : decode cX7_logged 25 = .ok (.aload_n 0, 1) := by decide +kernel
theorem dX7_logged_26 : decode cX7_logged 26 = .ok (.iload_n 1, 1) := by decide +kernel
theorem dX7_logged_27 : decode cX7_logged 27 = .ok (.iload_n 2, 1) := by decide +kernel
theorem dX7_logged_28 : decode cX7_logged 28 = .ok (.invokevirtual 82, 3) := by decide +kernel
theorem dX7_logged_31 : decode cX7_logged 31 = .ok (.goto 5, 3) := by decide +kernel
theorem dX7_logged_34 : decode cX7_logged 34 = .ok (.bipush (-2), 2) := by decide +kernel
theorem dX7_logged_36 : decode cX7_logged 36 = .ok (.ireturn, 1) := by decide +kernel
theorem dX7_position_0 : decode cX7_position 0 = .ok (.aload_n 0, 1) := by decide +kernel
theorem dX7_position_1 : decode cX7_position 1 = .ok (.iload_n 1, 1) := by decide +kernel
theorem dX7_position_2 : decode cX7_position 2 = .ok (.invokevirtual 52, 3) := by decide +kernel
theorem dX7_position_5 : decode cX7_position 5 = .ok (.ifCond .eq 11, 3) := by decide +kernel
theorem dX7_position_8 : decode cX7_position 8 = .ok (.aload_n 0, 1) := by decide +kernel
theorem dX7_position_9 : decode cX7_position 9 = .ok (.iload_n 1, 1) := by decide +kernel
theorem dX7_position_10 : decode cX7_position 10 = .ok (.invokevirtual 59, 3) := by decide +kernel
theorem dX7_position_13 : decode cX7_position 13 = .ok (.goto 4, 3) := by decide +kernel
theorem dX7_position_16 : decode cX7_position 16 = .ok (.iconst (-1), 1) := by decide +kernel
theorem dX7_position_17 : decode cX7_position 17 = .ok (.ireturn, 1) := by decide +kernel
theorem dX7_versionAt_0 : decode cX7_versionAt 0 = .ok (.iload_n 1, 1) := by decide +kernel
theorem dX7_versionAt_1 : decode cX7_versionAt 1 = .ok (.istore_n 3, 1) := by decide +kernel
theorem dX7_versionAt_2 : decode cX7_versionAt 2 = .ok (.iload_n 3, 1) := by decide +kernel
theorem dX7_versionAt_3 : decode cX7_versionAt 3 = .ok (.ifCond .le 19, 3) := by decide +kernel
theorem dX7_versionAt_6 : decode cX7_versionAt 6 = .ok (.aload_n 0, 1) := by decide +kernel
theorem dX7_versionAt_7 : decode cX7_versionAt 7 = .ok (.iload_n 3, 1) := by decide +kernel
theorem dX7_versionAt_8 : decode cX7_versionAt 8 = .ok (.iconst 0, 1) := by decide +kernel
theorem dX7_versionAt_9 : decode cX7_versionAt 9 = .ok (.invokevirtual 82, 3) := by decide +kernel
theorem dX7_versionAt_12 : decode cX7_versionAt 12 = .ok (.iload_n 2, 1) := by decide +kernel
theorem dX7_versionAt_13 : decode cX7_versionAt 13 = .ok (.if_icmp .eq 9, 3) := by decide +kernel
theorem dX7_versionAt_16 : decode cX7_versionAt 16 = .ok (.iinc 3 (-1), 3) := by decide +kernel
theorem dX7_versionAt_19 : decode cX7_versionAt 19 = .ok (.goto (-17), 3) := by decide +kernel
theorem dX7_versionAt_22 : decode cX7_versionAt 22 = .ok (.iload_n 3, 1) := by decide +kernel
theorem dX7_versionAt_23 : decode cX7_versionAt 23 = .ok (.ireturn, 1) := by decide +kernel
theorem dX7_version_0 : decode cX7_version 0 = .ok (.aload_n 0, 1) := by decide +kernel
theorem dX7_version_1 : decode cX7_version 1 = .ok (.iload_n 1, 1) := by decide +kernel
theorem dX7_version_2 : decode cX7_version 2 = .ok (.invokevirtual 52, 3) := by decide +kernel
theorem dX7_version_5 : decode cX7_version 5 = .ok (.ifCond .eq 23, 3) := by decide +kernel
theorem dX7_version_8 : decode cX7_version 8 = .ok (.iload_n 2, 1) := by decide +kernel
theorem dX7_version_9 : decode cX7_version 9 = .ok (.invokestatic 85, 3) := by decide +kernel
theorem dX7_version_12 : decode cX7_version 12 = .ok (.ifCond .eq 16, 3) := by decide +kernel
theorem dX7_version_15 : decode cX7_version 15 = .ok (.aload_n 0, 1) := by decide +kernel
theorem dX7_version_16 : decode cX7_version 16 = .ok (.aload_n 0, 1) := by decide +kernel
theorem dX7_version_17 : decode cX7_version 17 = .ok (.iload_n 1, 1) := by decide +kernel
theorem dX7_version_18 : decode cX7_version 18 = .ok (.invokevirtual 59, 3) := by decide +kernel
theorem dX7_version_21 : decode cX7_version 21 = .ok (.iload_n 2, 1) := by decide +kernel
theorem dX7_version_22 : decode cX7_version 22 = .ok (.invokevirtual 88, 3) := by decide +kernel
theorem dX7_version_25 : decode cX7_version 25 = .ok (.goto 4, 3) := by decide +kernel
theorem dX7_version_28 : decode cX7_version 28 = .ok (.iconst (-1), 1) := by decide +kernel
theorem dX7_version_29 : decode cX7_version 29 = .ok (.ireturn, 1) := by decide +kernel
theorem dX7_valueOf_0 : decode cX7_valueOf 0 = .ok (.iload_n 1, 1) := by decide +kernel
theorem dX7_valueOf_1 : decode cX7_valueOf 1 = .ok (.ifCond .ne 8, 3) := by decide +kernel
theorem dX7_valueOf_4 : decode cX7_valueOf 4 = .ok (.bipush (-6), 2) := by decide +kernel
theorem dX7_valueOf_6 : decode cX7_valueOf 6 = .ok (.goto 9, 3) := by decide +kernel
theorem dX7_valueOf_9 : decode cX7_valueOf 9 = .ok (.aload_n 0, 1) := by decide +kernel
theorem dX7_valueOf_10 : decode cX7_valueOf 10 = .ok (.iload_n 1, 1) := by decide +kernel
theorem dX7_valueOf_11 : decode cX7_valueOf 11 = .ok (.iconst 1, 1) := by decide +kernel
theorem dX7_valueOf_12 : decode cX7_valueOf 12 = .ok (.invokevirtual 82, 3) := by decide +kernel
theorem dX7_valueOf_15 : decode cX7_valueOf 15 = .ok (.ireturn, 1) := by decide +kernel
theorem dX7_value_0 : decode cX7_value 0 = .ok (.aload_n 0, 1) := by decide +kernel
theorem dX7_value_1 : decode cX7_value 1 = .ok (.iload_n 1, 1) := by decide +kernel
theorem dX7_value_2 : decode cX7_value 2 = .ok (.invokevirtual 52, 3) := by decide +kernel
theorem dX7_value_5 : decode cX7_value 5 = .ok (.ifCond .eq 27, 3) := by decide +kernel
theorem dX7_value_8 : decode cX7_value 8 = .ok (.iload_n 2, 1) := by decide +kernel
theorem dX7_value_9 : decode cX7_value 9 = .ok (.invokestatic 85, 3) := by decide +kernel
theorem dX7_value_12 : decode cX7_value 12 = .ok (.ifCond .eq 20, 3) := by decide +kernel
theorem dX7_value_15 : decode cX7_value 15 = .ok (.aload_n 0, 1) := by decide +kernel
theorem dX7_value_16 : decode cX7_value 16 = .ok (.aload_n 0, 1) := by decide +kernel
theorem dX7_value_17 : decode cX7_value 17 = .ok (.aload_n 0, 1) := by decide +kernel
theorem dX7_value_18 : decode cX7_value 18 = .ok (.iload_n 1, 1) := by decide +kernel
theorem dX7_value_19 : decode cX7_value 19 = .ok (.invokevirtual 59, 3) := by decide +kernel
theorem dX7_value_22 : decode cX7_value 22 = .ok (.iload_n 2, 1) := by decide +kernel
theorem dX7_value_23 : decode cX7_value 23 = .ok (.invokevirtual 88, 3) := by decide +kernel
theorem dX7_value_26 : decode cX7_value 26 = .ok (.invokevirtual 91, 3) := by decide +kernel
theorem dX7_value_29 : decode cX7_value 29 = .ok (.goto 4, 3) := by decide +kernel
theorem dX7_value_32 : decode cX7_value 32 = .ok (.iconst (-1), 1) := by decide +kernel
theorem dX7_value_33 : decode cX7_value 33 = .ok (.ireturn, 1) := by decide +kernel
theorem dX7_missing_0 : decode cX7_missing 0 = .ok (.aload_n 0, 1) := by decide +kernel
theorem dX7_missing_1 : decode cX7_missing 1 = .ok (.iload_n 1, 1) := by decide +kernel
theorem dX7_missing_2 : decode cX7_missing 2 = .ok (.invokevirtual 52, 3) := by decide +kernel
theorem dX7_missing_5 : decode cX7_missing 5 = .ok (.ifCond .eq 10, 3) := by decide +kernel
theorem dX7_missing_8 : decode cX7_missing 8 = .ok (.iload_n 2, 1) := by decide +kernel
theorem dX7_missing_9 : decode cX7_missing 9 = .ok (.invokestatic 85, 3) := by decide +kernel
theorem dX7_missing_12 : decode cX7_missing 12 = .ok (.ifCond .ne 5, 3) := by decide +kernel
theorem dX7_missing_15 : decode cX7_missing 15 = .ok (.iconst (-1), 1) := by decide +kernel
theorem dX7_missing_16 : decode cX7_missing 16 = .ok (.ireturn, 1) := by decide +kernel
theorem dX7_missing_17 : decode cX7_missing 17 = .ok (.iconst 0, 1) := by decide +kernel
theorem dX7_missing_18 : decode cX7_missing 18 = .ok (.istore_n 3, 1) := by decide +kernel
theorem dX7_missing_19 : decode cX7_missing 19 = .ok (.aload_n 0, 1) := by decide +kernel
theorem dX7_missing_20 : decode cX7_missing 20 = .ok (.iload_n 1, 1) := by decide +kernel
theorem dX7_missing_21 : decode cX7_missing 21 = .ok (.invokevirtual 59, 3) := by decide +kernel
theorem dX7_missing_24 : decode cX7_missing 24 = .ok (.iconst 1, 1) := by decide +kernel
theorem dX7_missing_25 : decode cX7_missing 25 = .ok (.iadd, 1) := by decide +kernel
theorem dX7_missing_26 : decode cX7_missing 26 = .ok (.istore 4, 2) := by decide +kernel
theorem dX7_missing_28 : decode cX7_missing 28 = .ok (.iload 4, 2) := by decide +kernel
theorem dX7_missing_30 : decode cX7_missing 30 = .ok (.aload_n 0, 1) := by decide +kernel
theorem dX7_missing_31 : decode cX7_missing 31 = .ok (.getfield 7, 3) := by decide +kernel
theorem dX7_missing_34 : decode cX7_missing 34 = .ok (.iconst 0, 1) := by decide +kernel
theorem dX7_missing_35 : decode cX7_missing 35 = .ok (.iaload, 1) := by decide +kernel
theorem dX7_missing_36 : decode cX7_missing 36 = .ok (.if_icmp .gt 28, 3) := by decide +kernel
theorem dX7_missing_39 : decode cX7_missing 39 = .ok (.iload_n 3, 1) := by decide +kernel
theorem dX7_missing_40 : decode cX7_missing 40 = .ok (.aload_n 0, 1) := by decide +kernel
theorem dX7_missing_41 : decode cX7_missing 41 = .ok (.iload 4, 2) := by decide +kernel
theorem dX7_missing_43 : decode cX7_missing 43 = .ok (.iconst 0, 1) := by decide +kernel
theorem dX7_missing_44 : decode cX7_missing 44 = .ok (.invokevirtual 82, 3) := by decide +kernel
theorem dX7_missing_47 : decode cX7_missing 47 = .ok (.iload_n 2, 1) := by decide +kernel
theorem dX7_missing_48 : decode cX7_missing 48 = .ok (.if_icmp .ne 7, 3) := by decide +kernel
theorem dX7_missing_51 : decode cX7_missing 51 = .ok (.iconst 1, 1) := by decide +kernel
theorem dX7_missing_52 : decode cX7_missing 52 = .ok (.goto 4, 3) := by decide +kernel
theorem dX7_missing_55 : decode cX7_missing 55 = .ok (.iconst 0, 1) := by decide +kernel
theorem dX7_missing_56 : decode cX7_missing 56 = .ok (.iadd, 1) := by decide +kernel
theorem dX7_missing_57 : decode cX7_missing 57 = .ok (.istore_n 3, 1) := by decide +kernel
theorem dX7_missing_58 : decode cX7_missing 58 = .ok (.iinc 4 1, 3) := by decide +kernel
theorem dX7_missing_61 : decode cX7_missing 61 = .ok (.goto (-33), 3) := by decide +kernel
theorem dX7_missing_64 : decode cX7_missing 64 = .ok (.iload_n 3, 1) := by decide +kernel
theorem dX7_missing_65 : decode cX7_missing 65 = .ok (.ireturn, 1) := by decide +kernel
theorem dX7_answers_0 : decode cX7_answers 0 = .ok (.aload_n 0, 1) := by decide +kernel
theorem dX7_answers_1 : decode cX7_answers 1 = .ok (.iload_n 1, 1) := by decide +kernel
theorem dX7_answers_2 : decode cX7_answers 2 = .ok (.invokevirtual 52, 3) := by decide +kernel
theorem dX7_answers_5 : decode cX7_answers 5 = .ok (.ifCond .ne 7, 3) := by decide +kernel
theorem dX7_answers_8 : decode cX7_answers 8 = .ok (.iconst (-1), 1) := by decide +kernel
theorem dX7_answers_9 : decode cX7_answers 9 = .ok (.goto 24, 3) := by decide +kernel
theorem dX7_answers_12 : decode cX7_answers 12 = .ok (.iload_n 1, 1) := by decide +kernel
theorem dX7_answers_13 : decode cX7_answers 13 = .ok (.bipush 9, 2) := by decide +kernel
theorem dX7_answers_15 : decode cX7_answers 15 = .ok (.if_icmp .ne 12, 3) := by decide +kernel
theorem dX7_answers_18 : decode cX7_answers 18 = .ok (.aload_n 0, 1) := by decide +kernel
theorem dX7_answers_19 : decode cX7_answers 19 = .ok (.getfield 7, 3) := by decide +kernel
theorem dX7_answers_22 : decode cX7_answers 22 = .ok (.iconst 4, 1) := by decide +kernel
theorem dX7_answers_23 : decode cX7_answers 23 = .ok (.iaload, 1) := by decide +kernel
theorem dX7_answers_24 : decode cX7_answers 24 = .ok (.goto 9, 3) := by decide +kernel
theorem dX7_answers_27 : decode cX7_answers 27 = .ok (.aload_n 0, 1) := by decide +kernel
theorem dX7_answers_28 : decode cX7_answers 28 = .ok (.iload_n 1, 1) := by decide +kernel
theorem dX7_answers_29 : decode cX7_answers 29 = .ok (.iconst 4, 1) := by decide +kernel
theorem dX7_answers_30 : decode cX7_answers 30 = .ok (.invokevirtual 30, 3) := by decide +kernel
theorem dX7_answers_33 : decode cX7_answers 33 = .ok (.ireturn, 1) := by decide +kernel
theorem dX7_open_0 : decode cX7_open 0 = .ok (.aload_n 0, 1) := by decide +kernel
theorem dX7_open_1 : decode cX7_open 1 = .ok (.iload_n 1, 1) := by decide +kernel
theorem dX7_open_2 : decode cX7_open 2 = .ok (.invokevirtual 52, 3) := by decide +kernel
theorem dX7_open_5 : decode cX7_open 5 = .ok (.ifCond .ne 5, 3) := by decide +kernel
theorem dX7_open_8 : decode cX7_open 8 = .ok (.iconst (-1), 1) := by decide +kernel
theorem dX7_open_9 : decode cX7_open 9 = .ok (.ireturn, 1) := by decide +kernel
theorem dX7_open_10 : decode cX7_open 10 = .ok (.iload_n 2, 1) := by decide +kernel
theorem dX7_open_11 : decode cX7_open 11 = .ok (.iconst 0, 1) := by decide +kernel
theorem dX7_open_12 : decode cX7_open 12 = .ok (.bipush 15, 2) := by decide +kernel
theorem dX7_open_14 : decode cX7_open 14 = .ok (.invokestatic 26, 3) := by decide +kernel
theorem dX7_open_17 : decode cX7_open 17 = .ok (.ifCond .eq 13, 3) := by decide +kernel
theorem dX7_open_20 : decode cX7_open 20 = .ok (.iload_n 3, 1) := by decide +kernel
theorem dX7_open_21 : decode cX7_open 21 = .ok (.iconst 0, 1) := by decide +kernel
theorem dX7_open_22 : decode cX7_open 22 = .ok (.bipush 20, 2) := by decide +kernel
theorem dX7_open_24 : decode cX7_open 24 = .ok (.invokestatic 26, 3) := by decide +kernel
theorem dX7_open_27 : decode cX7_open 27 = .ok (.ifCond .ne 6, 3) := by decide +kernel
theorem dX7_open_30 : decode cX7_open 30 = .ok (.bipush (-2), 2) := by decide +kernel
theorem dX7_open_32 : decode cX7_open 32 = .ok (.ireturn, 1) := by decide +kernel
theorem dX7_open_33 : decode cX7_open 33 = .ok (.iconst 0, 1) := by decide +kernel
theorem dX7_open_34 : decode cX7_open 34 = .ok (.istore 4, 2) := by decide +kernel
theorem dX7_open_36 : decode cX7_open 36 = .ok (.iload 4, 2) := by decide +kernel
theorem dX7_open_38 : decode cX7_open 38 = .ok (.bipush 8, 2) := by decide +kernel
theorem dX7_open_40 : decode cX7_open 40 = .ok (.if_icmp .ge 20, 3) := by decide +kernel
theorem dX7_open_43 : decode cX7_open 43 = .ok (.aload_n 0, 1) := by decide +kernel
theorem dX7_open_44 : decode cX7_open 44 = .ok (.iload 4, 2) := by decide +kernel
theorem dX7_open_46 : decode cX7_open 46 = .ok (.iconst 0, 1) := by decide +kernel
theorem dX7_open_47 : decode cX7_open 47 = .ok (.invokevirtual 38, 3) := by decide +kernel
theorem dX7_open_50 : decode cX7_open 50 = .ok (.iconst 1, 1) := by decide +kernel
theorem dX7_open_51 : decode cX7_open 51 = .ok (.if_icmp .ne 9, 3) := by decide +kernel
theorem dX7_open_54 : decode cX7_open 54 = .ok (.iinc 4 1, 3) := by decide +kernel
theorem dX7_open_57 : decode cX7_open 57 = .ok (.goto (-21), 3) := by decide +kernel
theorem dX7_open_60 : decode cX7_open 60 = .ok (.iload 4, 2) := by decide +kernel
theorem dX7_open_62 : decode cX7_open 62 = .ok (.bipush 8, 2) := by decide +kernel
theorem dX7_open_64 : decode cX7_open 64 = .ok (.if_icmp .ne 6, 3) := by decide +kernel
theorem dX7_open_67 : decode cX7_open 67 = .ok (.bipush (-4), 2) := by decide +kernel
theorem dX7_open_69 : decode cX7_open 69 = .ok (.ireturn, 1) := by decide +kernel
theorem dX7_open_70 : decode cX7_open 70 = .ok (.aload_n 0, 1) := by decide +kernel
theorem dX7_open_71 : decode cX7_open 71 = .ok (.invokevirtual 49, 3) := by decide +kernel
theorem dX7_open_74 : decode cX7_open 74 = .ok (.iconst 0, 1) := by decide +kernel
theorem dX7_open_75 : decode cX7_open 75 = .ok (.istore 5, 2) := by decide +kernel
theorem dX7_open_77 : decode cX7_open 77 = .ok (.iload 5, 2) := by decide +kernel
theorem dX7_open_79 : decode cX7_open 79 = .ok (.bipush 33, 2) := by decide +kernel
theorem dX7_open_81 : decode cX7_open 81 = .ok (.if_icmp .ge 18, 3) := by decide +kernel
theorem dX7_open_84 : decode cX7_open 84 = .ok (.aload_n 0, 1) := by decide +kernel
theorem dX7_open_85 : decode cX7_open 85 = .ok (.iload 4, 2) := by decide +kernel
theorem dX7_open_87 : decode cX7_open 87 = .ok (.iload 5, 2) := by decide +kernel
theorem dX7_open_89 : decode cX7_open 89 = .ok (.iconst 0, 1) := by decide +kernel
theorem dX7_open_90 : decode cX7_open 90 = .ok (.invokevirtual 66, 3) := by decide +kernel
theorem dX7_open_93 : decode cX7_open 93 = .ok (.iinc 5 1, 3) := by decide +kernel
theorem dX7_open_96 : decode cX7_open 96 = .ok (.goto (-19), 3) := by decide +kernel
theorem dX7_open_99 : decode cX7_open 99 = .ok (.aload_n 0, 1) := by decide +kernel
theorem dX7_open_100 : decode cX7_open 100 = .ok (.iload 4, 2) := by decide +kernel
theorem dX7_open_102 : decode cX7_open 102 = .ok (.iconst 0, 1) := by decide +kernel
theorem dX7_open_103 : decode cX7_open 103 = .ok (.iconst 1, 1) := by decide +kernel
theorem dX7_open_104 : decode cX7_open 104 = .ok (.invokevirtual 66, 3) := by decide +kernel
theorem dX7_open_107 : decode cX7_open 107 = .ok (.aload_n 0, 1) := by decide +kernel
theorem dX7_open_108 : decode cX7_open 108 = .ok (.iload 4, 2) := by decide +kernel
theorem dX7_open_110 : decode cX7_open 110 = .ok (.iconst 1, 1) := by decide +kernel
theorem dX7_open_111 : decode cX7_open 111 = .ok (.iload_n 1, 1) := by decide +kernel
theorem dX7_open_112 : decode cX7_open 112 = .ok (.invokevirtual 66, 3) := by decide +kernel
theorem dX7_open_115 : decode cX7_open 115 = .ok (.aload_n 0, 1) := by decide +kernel
theorem dX7_open_116 : decode cX7_open 116 = .ok (.iload 4, 2) := by decide +kernel
theorem dX7_open_118 : decode cX7_open 118 = .ok (.iconst 2, 1) := by decide +kernel
theorem dX7_open_119 : decode cX7_open 119 = .ok (.iload_n 2, 1) := by decide +kernel
theorem dX7_open_120 : decode cX7_open 120 = .ok (.invokevirtual 66, 3) := by decide +kernel
theorem dX7_open_123 : decode cX7_open 123 = .ok (.aload_n 0, 1) := by decide +kernel
theorem dX7_open_124 : decode cX7_open 124 = .ok (.iload 4, 2) := by decide +kernel
theorem dX7_open_126 : decode cX7_open 126 = .ok (.iconst 3, 1) := by decide +kernel
theorem dX7_open_127 : decode cX7_open 127 = .ok (.iload_n 3, 1) := by decide +kernel
theorem dX7_open_128 : decode cX7_open 128 = .ok (.invokevirtual 66, 3) := by decide +kernel
theorem dX7_open_131 : decode cX7_open 131 = .ok (.iload 4, 2) := by decide +kernel
theorem dX7_open_133 : decode cX7_open 133 = .ok (.ireturn, 1) := by decide +kernel
theorem dX7_close_0 : decode cX7_close 0 = .ok (.aload_n 0, 1) := by decide +kernel
theorem dX7_close_1 : decode cX7_close 1 = .ok (.iload_n 1, 1) := by decide +kernel
theorem dX7_close_2 : decode cX7_close 2 = .ok (.invokevirtual 94, 3) := by decide +kernel
theorem dX7_close_5 : decode cX7_close 5 = .ok (.ifCond .ne 5, 3) := by decide +kernel
theorem dX7_close_8 : decode cX7_close 8 = .ok (.iconst (-1), 1) := by decide +kernel
theorem dX7_close_9 : decode cX7_close 9 = .ok (.ireturn, 1) := by decide +kernel
theorem dX7_close_10 : decode cX7_close 10 = .ok (.aload_n 0, 1) := by decide +kernel
theorem dX7_close_11 : decode cX7_close 11 = .ok (.invokevirtual 49, 3) := by decide +kernel
theorem dX7_close_14 : decode cX7_close 14 = .ok (.aload_n 0, 1) := by decide +kernel
theorem dX7_close_15 : decode cX7_close 15 = .ok (.iload_n 1, 1) := by decide +kernel
theorem dX7_close_16 : decode cX7_close 16 = .ok (.iconst 0, 1) := by decide +kernel
theorem dX7_close_17 : decode cX7_close 17 = .ok (.iconst 0, 1) := by decide +kernel
theorem dX7_close_18 : decode cX7_close 18 = .ok (.invokevirtual 66, 3) := by decide +kernel
theorem dX7_close_21 : decode cX7_close 21 = .ok (.aload_n 0, 1) := by decide +kernel
theorem dX7_close_22 : decode cX7_close 22 = .ok (.iload_n 1, 1) := by decide +kernel
theorem dX7_close_23 : decode cX7_close 23 = .ok (.iconst 5, 1) := by decide +kernel
theorem dX7_close_24 : decode cX7_close 24 = .ok (.invokevirtual 38, 3) := by decide +kernel
theorem dX7_close_27 : decode cX7_close 27 = .ok (.ireturn, 1) := by decide +kernel
theorem dX7_moves_0 : decode cX7_moves 0 = .ok (.aload_n 0, 1) := by decide +kernel
theorem dX7_moves_1 : decode cX7_moves 1 = .ok (.iload_n 1, 1) := by decide +kernel
theorem dX7_moves_2 : decode cX7_moves 2 = .ok (.iconst 1, 1) := by decide +kernel
theorem dX7_moves_3 : decode cX7_moves 3 = .ok (.invokevirtual 38, 3) := by decide +kernel
theorem dX7_moves_6 : decode cX7_moves 6 = .ok (.istore_n 3, 1) := by decide +kernel
theorem dX7_moves_7 : decode cX7_moves 7 = .ok (.aload_n 0, 1) := by decide +kernel
theorem dX7_moves_8 : decode cX7_moves 8 = .ok (.iload_n 1, 1) := by decide +kernel
theorem dX7_moves_9 : decode cX7_moves 9 = .ok (.iconst 1, 1) := by decide +kernel
theorem dX7_moves_10 : decode cX7_moves 10 = .ok (.iload_n 2, 1) := by decide +kernel
theorem dX7_moves_11 : decode cX7_moves 11 = .ok (.invokevirtual 66, 3) := by decide +kernel
theorem dX7_moves_14 : decode cX7_moves 14 = .ok (.iload_n 3, 1) := by decide +kernel
theorem dX7_moves_15 : decode cX7_moves 15 = .ok (.ireturn, 1) := by decide +kernel
theorem dX7_move_0 : decode cX7_move 0 = .ok (.aload_n 0, 1) := by decide +kernel
theorem dX7_move_1 : decode cX7_move 1 = .ok (.iload_n 1, 1) := by decide +kernel
theorem dX7_move_2 : decode cX7_move 2 = .ok (.invokevirtual 94, 3) := by decide +kernel
theorem dX7_move_5 : decode cX7_move 5 = .ok (.ifCond .eq 11, 3) := by decide +kernel
theorem dX7_move_8 : decode cX7_move 8 = .ok (.aload_n 0, 1) := by decide +kernel
theorem dX7_move_9 : decode cX7_move 9 = .ok (.iload_n 2, 1) := by decide +kernel
theorem dX7_move_10 : decode cX7_move 10 = .ok (.invokevirtual 52, 3) := by decide +kernel
theorem dX7_move_13 : decode cX7_move 13 = .ok (.ifCond .ne 5, 3) := by decide +kernel
theorem dX7_move_16 : decode cX7_move 16 = .ok (.iconst (-1), 1) := by decide +kernel
theorem dX7_move_17 : decode cX7_move 17 = .ok (.ireturn, 1) := by decide +kernel
theorem dX7_move_18 : decode cX7_move 18 = .ok (.aload_n 0, 1) := by decide +kernel
theorem dX7_move_19 : decode cX7_move 19 = .ok (.invokevirtual 49, 3) := by decide +kernel
theorem dX7_move_22 : decode cX7_move 22 = .ok (.aload_n 0, 1) := by decide +kernel
theorem dX7_move_23 : decode cX7_move 23 = .ok (.iload_n 1, 1) := by decide +kernel
theorem dX7_move_24 : decode cX7_move 24 = .ok (.iload_n 2, 1) := by decide +kernel
theorem dX7_move_25 : decode cX7_move 25 = .ok (.invokevirtual 97, 3) := by decide +kernel
theorem dX7_move_28 : decode cX7_move 28 = .ok (.ireturn, 1) := by decide +kernel
theorem dX7_change_0 : decode cX7_change 0 = .ok (.aload_n 0, 1) := by decide +kernel
theorem dX7_change_1 : decode cX7_change 1 = .ok (.iload_n 1, 1) := by decide +kernel
theorem dX7_change_2 : decode cX7_change 2 = .ok (.invokevirtual 94, 3) := by decide +kernel
theorem dX7_change_5 : decode cX7_change 5 = .ok (.ifCond .ne 5, 3) := by decide +kernel
theorem dX7_change_8 : decode cX7_change 8 = .ok (.iconst (-1), 1) := by decide +kernel
theorem dX7_change_9 : decode cX7_change 9 = .ok (.ireturn, 1) := by decide +kernel
theorem dX7_change_10 : decode cX7_change 10 = .ok (.iload_n 2, 1) := by decide +kernel
theorem dX7_change_11 : decode cX7_change 11 = .ok (.iconst 0, 1) := by decide +kernel
theorem dX7_change_12 : decode cX7_change 12 = .ok (.bipush 15, 2) := by decide +kernel
theorem dX7_change_14 : decode cX7_change 14 = .ok (.invokestatic 26, 3) := by decide +kernel
theorem dX7_change_17 : decode cX7_change 17 = .ok (.ifCond .eq 13, 3) := by decide +kernel
theorem dX7_change_20 : decode cX7_change 20 = .ok (.iload_n 3, 1) := by decide +kernel
theorem dX7_change_21 : decode cX7_change 21 = .ok (.iconst 0, 1) := by decide +kernel
theorem dX7_change_22 : decode cX7_change 22 = .ok (.bipush 20, 2) := by decide +kernel
theorem dX7_change_24 : decode cX7_change 24 = .ok (.invokestatic 26, 3) := by decide +kernel
theorem dX7_change_27 : decode cX7_change 27 = .ok (.ifCond .ne 6, 3) := by decide +kernel
theorem dX7_change_30 : decode cX7_change 30 = .ok (.bipush (-2), 2) := by decide +kernel
theorem dX7_change_32 : decode cX7_change 32 = .ok (.ireturn, 1) := by decide +kernel
theorem dX7_change_33 : decode cX7_change 33 = .ok (.aload_n 0, 1) := by decide +kernel
theorem dX7_change_34 : decode cX7_change 34 = .ok (.invokevirtual 49, 3) := by decide +kernel
theorem dX7_change_37 : decode cX7_change 37 = .ok (.aload_n 0, 1) := by decide +kernel
theorem dX7_change_38 : decode cX7_change 38 = .ok (.iload_n 1, 1) := by decide +kernel
theorem dX7_change_39 : decode cX7_change 39 = .ok (.iconst 2, 1) := by decide +kernel
theorem dX7_change_40 : decode cX7_change 40 = .ok (.invokevirtual 38, 3) := by decide +kernel
theorem dX7_change_43 : decode cX7_change 43 = .ok (.istore 4, 2) := by decide +kernel
theorem dX7_change_45 : decode cX7_change 45 = .ok (.aload_n 0, 1) := by decide +kernel
theorem dX7_change_46 : decode cX7_change 46 = .ok (.iload_n 1, 1) := by decide +kernel
theorem dX7_change_47 : decode cX7_change 47 = .ok (.iconst 2, 1) := by decide +kernel
theorem dX7_change_48 : decode cX7_change 48 = .ok (.iload_n 2, 1) := by decide +kernel
theorem dX7_change_49 : decode cX7_change 49 = .ok (.invokevirtual 66, 3) := by decide +kernel
theorem dX7_change_52 : decode cX7_change 52 = .ok (.aload_n 0, 1) := by decide +kernel
theorem dX7_change_53 : decode cX7_change 53 = .ok (.iload_n 1, 1) := by decide +kernel
theorem dX7_change_54 : decode cX7_change 54 = .ok (.iconst 3, 1) := by decide +kernel
theorem dX7_change_55 : decode cX7_change 55 = .ok (.iload_n 3, 1) := by decide +kernel
theorem dX7_change_56 : decode cX7_change 56 = .ok (.invokevirtual 66, 3) := by decide +kernel
theorem dX7_change_59 : decode cX7_change 59 = .ok (.iload 4, 2) := by decide +kernel
theorem dX7_change_61 : decode cX7_change 61 = .ok (.ireturn, 1) := by decide +kernel
theorem dX7_more_0 : decode cX7_more 0 = .ok (.iload_n 0, 1) := by decide +kernel
theorem dX7_more_1 : decode cX7_more 1 = .ok (.iload_n 1, 1) := by decide +kernel
theorem dX7_more_2 : decode cX7_more 2 = .ok (.if_icmp .le 7, 3) := by decide +kernel
theorem dX7_more_5 : decode cX7_more 5 = .ok (.iload_n 0, 1) := by decide +kernel
theorem dX7_more_6 : decode cX7_more 6 = .ok (.goto 4, 3) := by decide +kernel
theorem dX7_more_9 : decode cX7_more 9 = .ok (.iload_n 1, 1) := by decide +kernel
theorem dX7_more_10 : decode cX7_more 10 = .ok (.ireturn, 1) := by decide +kernel
theorem dX7_whyNotHand_0 : decode cX7_whyNotHand 0 = .ok (.aload_n 0, 1) := by decide +kernel
theorem dX7_whyNotHand_1 : decode cX7_whyNotHand 1 = .ok (.iload_n 1, 1) := by decide +kernel
theorem dX7_whyNotHand_2 : decode cX7_whyNotHand 2 = .ok (.invokevirtual 94, 3) := by decide +kernel
theorem dX7_whyNotHand_5 : decode cX7_whyNotHand 5 = .ok (.ifCond .eq 11, 3) := by decide +kernel
theorem dX7_whyNotHand_8 : decode cX7_whyNotHand 8 = .ok (.aload_n 0, 1) := by decide +kernel
theorem dX7_whyNotHand_9 : decode cX7_whyNotHand 9 = .ok (.iload_n 2, 1) := by decide +kernel
theorem dX7_whyNotHand_10 : decode cX7_whyNotHand 10 = .ok (.invokevirtual 94, 3) := by decide +kernel
theorem dX7_whyNotHand_13 : decode cX7_whyNotHand 13 = .ok (.ifCond .ne 7, 3) := by decide +kernel
theorem dX7_whyNotHand_16 : decode cX7_whyNotHand 16 = .ok (.iconst (-1), 1) := by decide +kernel
theorem dX7_whyNotHand_17 : decode cX7_whyNotHand 17 = .ok (.goto 14, 3) := by decide +kernel
theorem dX7_whyNotHand_20 : decode cX7_whyNotHand 20 = .ok (.iload_n 1, 1) := by decide +kernel
theorem dX7_whyNotHand_21 : decode cX7_whyNotHand 21 = .ok (.iload_n 2, 1) := by decide +kernel
theorem dX7_whyNotHand_22 : decode cX7_whyNotHand 22 = .ok (.if_icmp .ne 8, 3) := by decide +kernel
theorem dX7_whyNotHand_25 : decode cX7_whyNotHand 25 = .ok (.bipush (-2), 2) := by decide +kernel
theorem dX7_whyNotHand_27 : decode cX7_whyNotHand 27 = .ok (.goto 4, 3) := by decide +kernel
theorem dX7_whyNotHand_30 : decode cX7_whyNotHand 30 = .ok (.iconst 0, 1) := by decide +kernel
theorem dX7_whyNotHand_31 : decode cX7_whyNotHand 31 = .ok (.ireturn, 1) := by decide +kernel
theorem dX7_hands_0 : decode cX7_hands 0 = .ok (.aload_n 0, 1) := by decide +kernel
theorem dX7_hands_1 : decode cX7_hands 1 = .ok (.iload_n 2, 1) := by decide +kernel
theorem dX7_hands_2 : decode cX7_hands 2 = .ok (.iconst 5, 1) := by decide +kernel
theorem dX7_hands_3 : decode cX7_hands 3 = .ok (.aload_n 0, 1) := by decide +kernel
theorem dX7_hands_4 : decode cX7_hands 4 = .ok (.iload_n 2, 1) := by decide +kernel
theorem dX7_hands_5 : decode cX7_hands 5 = .ok (.iconst 5, 1) := by decide +kernel
theorem dX7_hands_6 : decode cX7_hands 6 = .ok (.invokevirtual 38, 3) := by decide +kernel
theorem dX7_hands_9 : decode cX7_hands 9 = .ok (.aload_n 0, 1) := by decide +kernel
theorem dX7_hands_10 : decode cX7_hands 10 = .ok (.iload_n 1, 1) := by decide +kernel
theorem dX7_hands_11 : decode cX7_hands 11 = .ok (.iconst 5, 1) := by decide +kernel
theorem dX7_hands_12 : decode cX7_hands 12 = .ok (.invokevirtual 38, 3) := by decide +kernel
theorem dX7_hands_15 : decode cX7_hands 15 = .ok (.aload_n 0, 1) := by decide +kernel
theorem dX7_hands_16 : decode cX7_hands 16 = .ok (.iload_n 1, 1) := by decide +kernel
theorem dX7_hands_17 : decode cX7_hands 17 = .ok (.iconst 4, 1) := by decide +kernel
theorem dX7_hands_18 : decode cX7_hands 18 = .ok (.invokevirtual 38, 3) := by decide +kernel
theorem dX7_hands_21 : decode cX7_hands 21 = .ok (.invokestatic 100, 3) := by decide +kernel
theorem dX7_hands_24 : decode cX7_hands 24 = .ok (.invokestatic 100, 3) := by decide +kernel
theorem dX7_hands_27 : decode cX7_hands 27 = .ok (.invokevirtual 66, 3) := by decide +kernel
theorem dX7_hands_30 : decode cX7_hands 30 = .ok (.aload_n 0, 1) := by decide +kernel
theorem dX7_hands_31 : decode cX7_hands 31 = .ok (.iload_n 2, 1) := by decide +kernel
theorem dX7_hands_32 : decode cX7_hands 32 = .ok (.iconst 5, 1) := by decide +kernel
theorem dX7_hands_33 : decode cX7_hands 33 = .ok (.invokevirtual 38, 3) := by decide +kernel
theorem dX7_hands_36 : decode cX7_hands 36 = .ok (.ireturn, 1) := by decide +kernel
theorem dX7_hand_0 : decode cX7_hand 0 = .ok (.aload_n 0, 1) := by decide +kernel
theorem dX7_hand_1 : decode cX7_hand 1 = .ok (.iload_n 1, 1) := by decide +kernel
theorem dX7_hand_2 : decode cX7_hand 2 = .ok (.iload_n 2, 1) := by decide +kernel
theorem dX7_hand_3 : decode cX7_hand 3 = .ok (.invokevirtual 103, 3) := by decide +kernel
theorem dX7_hand_6 : decode cX7_hand 6 = .ok (.istore_n 3, 1) := by decide +kernel
theorem dX7_hand_7 : decode cX7_hand 7 = .ok (.iload_n 3, 1) := by decide +kernel
theorem dX7_hand_8 : decode cX7_hand 8 = .ok (.ifCond .ge 5, 3) := by decide +kernel
theorem dX7_hand_11 : decode cX7_hand 11 = .ok (.iload_n 3, 1) := by decide +kernel
theorem dX7_hand_12 : decode cX7_hand 12 = .ok (.ireturn, 1) := by decide +kernel
theorem dX7_hand_13 : decode cX7_hand 13 = .ok (.aload_n 0, 1) := by decide +kernel
theorem dX7_hand_14 : decode cX7_hand 14 = .ok (.invokevirtual 49, 3) := by decide +kernel
theorem dX7_hand_17 : decode cX7_hand 17 = .ok (.aload_n 0, 1) := by decide +kernel
theorem dX7_hand_18 : decode cX7_hand 18 = .ok (.iload_n 1, 1) := by decide +kernel
theorem dX7_hand_19 : decode cX7_hand 19 = .ok (.iload_n 2, 1) := by decide +kernel
theorem dX7_hand_20 : decode cX7_hand 20 = .ok (.invokevirtual 106, 3) := by decide +kernel
theorem dX7_hand_23 : decode cX7_hand 23 = .ok (.ireturn, 1) := by decide +kernel
theorem dX7_sessions_0 : decode cX7_sessions 0 = .ok (.iconst 0, 1) := by decide +kernel
theorem dX7_sessions_1 : decode cX7_sessions 1 = .ok (.istore_n 1, 1) := by decide +kernel
theorem dX7_sessions_2 : decode cX7_sessions 2 = .ok (.iconst 0, 1) := by decide +kernel
theorem dX7_sessions_3 : decode cX7_sessions 3 = .ok (.istore_n 2, 1) := by decide +kernel
theorem dX7_sessions_4 : decode cX7_sessions 4 = .ok (.iload_n 2, 1) := by decide +kernel
theorem dX7_sessions_5 : decode cX7_sessions 5 = .ok (.bipush 8, 2) := by decide +kernel
theorem dX7_sessions_7 : decode cX7_sessions 7 = .ok (.if_icmp .ge 20, 3) := by decide +kernel
theorem dX7_sessions_10 : decode cX7_sessions 10 = .ok (.iload_n 1, 1) := by decide +kernel
theorem dX7_sessions_11 : decode cX7_sessions 11 = .ok (.aload_n 0, 1) := by decide +kernel
theorem dX7_sessions_12 : decode cX7_sessions 12 = .ok (.iload_n 2, 1) := by decide +kernel
theorem dX7_sessions_13 : decode cX7_sessions 13 = .ok (.iconst 0, 1) := by decide +kernel
theorem dX7_sessions_14 : decode cX7_sessions 14 = .ok (.invokevirtual 38, 3) := by decide +kernel
theorem dX7_sessions_17 : decode cX7_sessions 17 = .ok (.iload_n 2, 1) := by decide +kernel
theorem dX7_sessions_18 : decode cX7_sessions 18 = .ok (.ishl, 1) := by decide +kernel
theorem dX7_sessions_19 : decode cX7_sessions 19 = .ok (.ior, 1) := by decide +kernel
theorem dX7_sessions_20 : decode cX7_sessions 20 = .ok (.istore_n 1, 1) := by decide +kernel
theorem dX7_sessions_21 : decode cX7_sessions 21 = .ok (.iinc 2 1, 3) := by decide +kernel
theorem dX7_sessions_24 : decode cX7_sessions 24 = .ok (.goto (-20), 3) := by decide +kernel
theorem dX7_sessions_27 : decode cX7_sessions 27 = .ok (.iload_n 1, 1) := by decide +kernel
theorem dX7_sessions_28 : decode cX7_sessions 28 = .ok (.ireturn, 1) := by decide +kernel
theorem dX7_has_0 : decode cX7_has 0 = .ok (.aload_n 0, 1) := by decide +kernel
theorem dX7_has_1 : decode cX7_has 1 = .ok (.iload_n 1, 1) := by decide +kernel
theorem dX7_has_2 : decode cX7_has 2 = .ok (.iconst 2, 1) := by decide +kernel
theorem dX7_has_3 : decode cX7_has 3 = .ok (.invokevirtual 38, 3) := by decide +kernel
theorem dX7_has_6 : decode cX7_has 6 = .ok (.iload_n 2, 1) := by decide +kernel
theorem dX7_has_7 : decode cX7_has 7 = .ok (.iand, 1) := by decide +kernel
theorem dX7_has_8 : decode cX7_has 8 = .ok (.ifCond .eq 7, 3) := by decide +kernel
theorem dX7_has_11 : decode cX7_has 11 = .ok (.iconst 1, 1) := by decide +kernel
theorem dX7_has_12 : decode cX7_has 12 = .ok (.goto 4, 3) := by decide +kernel
theorem dX7_has_15 : decode cX7_has 15 = .ok (.iconst 0, 1) := by decide +kernel
theorem dX7_has_16 : decode cX7_has 16 = .ok (.ireturn, 1) := by decide +kernel
theorem dX7_need_0 : decode cX7_need 0 = .ok (.aload_n 0, 1) := by decide +kernel
theorem dX7_need_1 : decode cX7_need 1 = .ok (.iload_n 1, 1) := by decide +kernel
theorem dX7_need_2 : decode cX7_need 2 = .ok (.iconst 1, 1) := by decide +kernel
theorem dX7_need_3 : decode cX7_need 3 = .ok (.invokevirtual 109, 3) := by decide +kernel
theorem dX7_need_6 : decode cX7_need 6 = .ok (.ifCond .eq 12, 3) := by decide +kernel
theorem dX7_need_9 : decode cX7_need 9 = .ok (.aload_n 0, 1) := by decide +kernel
theorem dX7_need_10 : decode cX7_need 10 = .ok (.iload_n 1, 1) := by decide +kernel
theorem dX7_need_11 : decode cX7_need 11 = .ok (.iconst 4, 1) := by decide +kernel
theorem dX7_need_12 : decode cX7_need 12 = .ok (.invokevirtual 38, 3) := by decide +kernel
theorem dX7_need_15 : decode cX7_need 15 = .ok (.goto 4, 3) := by decide +kernel
theorem dX7_need_18 : decode cX7_need 18 = .ok (.iconst 0, 1) := by decide +kernel
theorem dX7_need_19 : decode cX7_need 19 = .ok (.aload_n 0, 1) := by decide +kernel
theorem dX7_need_20 : decode cX7_need 20 = .ok (.iload_n 1, 1) := by decide +kernel
theorem dX7_need_21 : decode cX7_need 21 = .ok (.iconst 2, 1) := by decide +kernel
theorem dX7_need_22 : decode cX7_need 22 = .ok (.invokevirtual 109, 3) := by decide +kernel
theorem dX7_need_25 : decode cX7_need 25 = .ok (.ifCond .eq 12, 3) := by decide +kernel
theorem dX7_need_28 : decode cX7_need 28 = .ok (.aload_n 0, 1) := by decide +kernel
theorem dX7_need_29 : decode cX7_need 29 = .ok (.iload_n 1, 1) := by decide +kernel
theorem dX7_need_30 : decode cX7_need 30 = .ok (.iconst 5, 1) := by decide +kernel
theorem dX7_need_31 : decode cX7_need 31 = .ok (.invokevirtual 38, 3) := by decide +kernel
theorem dX7_need_34 : decode cX7_need 34 = .ok (.goto 4, 3) := by decide +kernel
theorem dX7_need_37 : decode cX7_need 37 = .ok (.iconst 0, 1) := by decide +kernel
theorem dX7_need_38 : decode cX7_need 38 = .ok (.invokestatic 100, 3) := by decide +kernel
theorem dX7_need_41 : decode cX7_need 41 = .ok (.ireturn, 1) := by decide +kernel
theorem dX7_session_0 : decode cX7_session 0 = .ok (.aload_n 0, 1) := by decide +kernel
theorem dX7_session_1 : decode cX7_session 1 = .ok (.iload_n 1, 1) := by decide +kernel
theorem dX7_session_2 : decode cX7_session 2 = .ok (.invokevirtual 94, 3) := by decide +kernel
theorem dX7_session_5 : decode cX7_session 5 = .ok (.ifCond .ne 5, 3) := by decide +kernel
theorem dX7_session_8 : decode cX7_session 8 = .ok (.iconst (-1), 1) := by decide +kernel
theorem dX7_session_9 : decode cX7_session 9 = .ok (.ireturn, 1) := by decide +kernel
theorem dX7_session_10 : decode cX7_session 10 = .ok (.iload_n 2, 1) := by decide +kernel
theorem dX7_session_11 : decode cX7_session 11 = .ok (.iconst 0, 1) := by decide +kernel
theorem dX7_session_12 : decode cX7_session 12 = .ok (.bipush 8, 2) := by decide +kernel
theorem dX7_session_14 : decode cX7_session 14 = .ok (.invokestatic 26, 3) := by decide +kernel
theorem dX7_session_17 : decode cX7_session 17 = .ok (.ifCond .ne 6, 3) := by decide +kernel
theorem dX7_session_20 : decode cX7_session 20 = .ok (.bipush (-2), 2) := by decide +kernel
theorem dX7_session_22 : decode cX7_session 22 = .ok (.ireturn, 1) := by decide +kernel
theorem dX7_session_23 : decode cX7_session 23 = .ok (.iload_n 2, 1) := by decide +kernel
theorem dX7_session_24 : decode cX7_session 24 = .ok (.iconst 5, 1) := by decide +kernel
theorem dX7_session_25 : decode cX7_session 25 = .ok (.if_icmp .ge 14, 3) := by decide +kernel
theorem dX7_session_28 : decode cX7_session 28 = .ok (.aload_n 0, 1) := by decide +kernel
theorem dX7_session_29 : decode cX7_session 29 = .ok (.iload_n 1, 1) := by decide +kernel
theorem dX7_session_30 : decode cX7_session 30 = .ok (.iconst 1, 1) := by decide +kernel
theorem dX7_session_31 : decode cX7_session 31 = .ok (.iload_n 2, 1) := by decide +kernel
theorem dX7_session_32 : decode cX7_session 32 = .ok (.iadd, 1) := by decide +kernel
theorem dX7_session_33 : decode cX7_session 33 = .ok (.invokevirtual 38, 3) := by decide +kernel
theorem dX7_session_36 : decode cX7_session 36 = .ok (.goto 22, 3) := by decide +kernel
theorem dX7_session_39 : decode cX7_session 39 = .ok (.iload_n 2, 1) := by decide +kernel
theorem dX7_session_40 : decode cX7_session 40 = .ok (.iconst 5, 1) := by decide +kernel
theorem dX7_session_41 : decode cX7_session 41 = .ok (.if_icmp .ne 11, 3) := by decide +kernel
theorem dX7_session_44 : decode cX7_session 44 = .ok (.aload_n 0, 1) := by decide +kernel
theorem dX7_session_45 : decode cX7_session 45 = .ok (.iload_n 1, 1) := by decide +kernel
theorem dX7_session_46 : decode cX7_session 46 = .ok (.invokevirtual 113, 3) := by decide +kernel
theorem dX7_session_49 : decode cX7_session 49 = .ok (.goto 9, 3) := by decide +kernel
theorem dX7_session_52 : decode cX7_session 52 = .ok (.aload_n 0, 1) := by decide +kernel
theorem dX7_session_53 : decode cX7_session 53 = .ok (.iload_n 1, 1) := by decide +kernel
theorem dX7_session_54 : decode cX7_session 54 = .ok (.iload_n 2, 1) := by decide +kernel
theorem dX7_session_55 : decode cX7_session 55 = .ok (.invokevirtual 38, 3) := by decide +kernel
theorem dX7_session_58 : decode cX7_session 58 = .ok (.ireturn, 1) := by decide +kernel
theorem dX7_whyNotWrite_0 : decode cX7_whyNotWrite 0 = .ok (.aload_n 0, 1) := by decide +kernel
theorem dX7_whyNotWrite_1 : decode cX7_whyNotWrite 1 = .ok (.iload_n 1, 1) := by decide +kernel
theorem dX7_whyNotWrite_2 : decode cX7_whyNotWrite 2 = .ok (.invokevirtual 94, 3) := by decide +kernel
theorem dX7_whyNotWrite_5 : decode cX7_whyNotWrite 5 = .ok (.ifCond .eq 10, 3) := by decide +kernel
theorem dX7_whyNotWrite_8 : decode cX7_whyNotWrite 8 = .ok (.iload_n 2, 1) := by decide +kernel
theorem dX7_whyNotWrite_9 : decode cX7_whyNotWrite 9 = .ok (.invokestatic 85, 3) := by decide +kernel
theorem dX7_whyNotWrite_12 : decode cX7_whyNotWrite 12 = .ok (.ifCond .ne 5, 3) := by decide +kernel
theorem dX7_whyNotWrite_15 : decode cX7_whyNotWrite 15 = .ok (.iconst (-1), 1) := by decide +kernel
theorem dX7_whyNotWrite_16 : decode cX7_whyNotWrite 16 = .ok (.ireturn, 1) := by decide +kernel
theorem dX7_whyNotWrite_17 : decode cX7_whyNotWrite 17 = .ok (.iload_n 3, 1) := by decide +kernel
theorem dX7_whyNotWrite_18 : decode cX7_whyNotWrite 18 = .ok (.iconst 0, 1) := by decide +kernel
theorem dX7_whyNotWrite_19 : decode cX7_whyNotWrite 19 = .ok (.sipush 999, 3) := by decide +kernel
theorem dX7_whyNotWrite_22 : decode cX7_whyNotWrite 22 = .ok (.invokestatic 26, 3) := by decide +kernel
theorem dX7_whyNotWrite_25 : decode cX7_whyNotWrite 25 = .ok (.ifCond .ne 8, 3) := by decide +kernel
theorem dX7_whyNotWrite_28 : decode cX7_whyNotWrite 28 = .ok (.bipush (-2), 2) := by decide +kernel
theorem dX7_whyNotWrite_30 : decode cX7_whyNotWrite 30 = .ok (.goto 21, 3) := by decide +kernel
theorem dX7_whyNotWrite_33 : decode cX7_whyNotWrite 33 = .ok (.aload_n 0, 1) := by decide +kernel
theorem dX7_whyNotWrite_34 : decode cX7_whyNotWrite 34 = .ok (.getfield 7, 3) := by decide +kernel
theorem dX7_whyNotWrite_37 : decode cX7_whyNotWrite 37 = .ok (.iconst 0, 1) := by decide +kernel
theorem dX7_whyNotWrite_38 : decode cX7_whyNotWrite 38 = .ok (.iaload, 1) := by decide +kernel
theorem dX7_whyNotWrite_39 : decode cX7_whyNotWrite 39 = .ok (.sipush 200, 3) := by decide +kernel
theorem dX7_whyNotWrite_42 : decode cX7_whyNotWrite 42 = .ok (.if_icmp .ne 8, 3) := by decide +kernel
theorem dX7_whyNotWrite_45 : decode cX7_whyNotWrite 45 = .ok (.bipush (-4), 2) := by decide +kernel
theorem dX7_whyNotWrite_47 : decode cX7_whyNotWrite 47 = .ok (.goto 4, 3) := by decide +kernel
theorem dX7_whyNotWrite_50 : decode cX7_whyNotWrite 50 = .ok (.iconst 0, 1) := by decide +kernel
theorem dX7_whyNotWrite_51 : decode cX7_whyNotWrite 51 = .ok (.ireturn, 1) := by decide +kernel
theorem dX7_writes_0 : decode cX7_writes 0 = .ok (.sipush 294, 3) := by decide +kernel
theorem dX7_writes_3 : decode cX7_writes 3 = .ok (.iconst 3, 1) := by decide +kernel
theorem dX7_writes_4 : decode cX7_writes 4 = .ok (.aload_n 0, 1) := by decide +kernel
theorem dX7_writes_5 : decode cX7_writes 5 = .ok (.getfield 7, 3) := by decide +kernel
theorem dX7_writes_8 : decode cX7_writes 8 = .ok (.iconst 0, 1) := by decide +kernel
theorem dX7_writes_9 : decode cX7_writes 9 = .ok (.iaload, 1) := by decide +kernel
theorem dX7_writes_10 : decode cX7_writes 10 = .ok (.imul, 1) := by decide +kernel
theorem dX7_writes_11 : decode cX7_writes 11 = .ok (.iadd, 1) := by decide +kernel
theorem dX7_writes_12 : decode cX7_writes 12 = .ok (.istore 4, 2) := by decide +kernel
theorem dX7_writes_14 : decode cX7_writes 14 = .ok (.aload_n 0, 1) := by decide +kernel
theorem dX7_writes_15 : decode cX7_writes 15 = .ok (.getfield 7, 3) := by decide +kernel
theorem dX7_writes_18 : decode cX7_writes 18 = .ok (.iload 4, 2) := by decide +kernel
theorem dX7_writes_20 : decode cX7_writes 20 = .ok (.iload_n 2, 1) := by decide +kernel
theorem dX7_writes_21 : decode cX7_writes 21 = .ok (.iastore, 1) := by decide +kernel
theorem dX7_writes_22 : decode cX7_writes 22 = .ok (.aload_n 0, 1) := by decide +kernel
