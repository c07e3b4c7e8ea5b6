theorem dX0_init_0 : decode cX0_init 0 = .ok (.aload_n 0, 1) := by decide +kernel
theorem dX0_init_1 : decode cX0_init 1 = .ok (.invokespecial 3, 3) := by decide +kernel
theorem dX0_init_4 : decode cX0_init 4 = .ok (.aload_n 0, 1) := by decide +kernel
theorem dX0_init_5 : decode cX0_init 5 = .ok (.bipush 6, 2) := by decide +kernel
theorem dX0_init_7 : decode cX0_init 7 = .ok (.anewarray 11, 3) := by decide +kernel
theorem dX0_init_10 : decode cX0_init 10 = .ok (.putfield 13, 3) := by decide +kernel
theorem dX0_init_13 : decode cX0_init 13 = .ok (.aload_n 0, 1) := by decide +kernel
theorem dX0_init_14 : decode cX0_init 14 = .ok (.iconst 0, 1) := by decide +kernel
theorem dX0_init_15 : decode cX0_init 15 = .ok (.putfield 17, 3) := by decide +kernel
theorem dX0_init_18 : decode cX0_init 18 = .ok (.aload_n 0, 1) := by decide +kernel
theorem dX0_init_19 : decode cX0_init 19 = .ok (.iconst 0, 1) := by decide +kernel
theorem dX0_init_20 : decode cX0_init 20 = .ok (.putfield 21, 3) := by decide +kernel
theorem dX0_init_23 : decode cX0_init 23 = .ok (.iconst 0, 1) := by decide +kernel
theorem dX0_init_24 : decode cX0_init 24 = .ok (.istore_n 1, 1) := by decide +kernel
theorem dX0_init_25 : decode cX0_init 25 = .ok (.iload_n 1, 1) := by decide +kernel
theorem dX0_init_26 : decode cX0_init 26 = .ok (.bipush 6, 2) := by decide +kernel
theorem dX0_init_28 : decode cX0_init 28 = .ok (.if_icmp .ge 22, 3) := by decide +kernel
theorem dX0_init_31 : decode cX0_init 31 = .ok (.aload_n 0, 1) := by decide +kernel
theorem dX0_init_32 : decode cX0_init 32 = .ok (.getfield 13, 3) := by decide +kernel
theorem dX0_init_35 : decode cX0_init 35 = .ok (.iload_n 1, 1) := by decide +kernel
theorem dX0_init_36 : decode cX0_init 36 = .ok (.new 11, 3) := by decide +kernel
theorem dX0_init_39 : decode cX0_init 39 = .ok (.dup, 1) := by decide +kernel
theorem dX0_init_40 : decode cX0_init 40 = .ok (.invokespecial 24, 3) := by decide +kernel
theorem dX0_init_43 : decode cX0_init 43 = .ok (.aastore, 1) := by decide +kernel
theorem dX0_init_44 : decode cX0_init 44 = .ok (.iinc 1 1, 3) := by decide +kernel
theorem dX0_init_47 : decode cX0_init 47 = .ok (.goto (-22), 3) := by decide +kernel
theorem dX0_init_50 : decode cX0_init 50 = .ok (.return_, 1) := by decide +kernel
theorem dX0_prepare_0 : decode cX0_prepare 0 = .ok (.aload_n 0, 1) := by decide +kernel
theorem dX0_prepare_1 : decode cX0_prepare 1 = .ok (.aload_n 0, 1) := by decide +kernel
theorem dX0_prepare_2 : decode cX0_prepare 2 = .ok (.getfield 21, 3) := by decide +kernel
theorem dX0_prepare_5 : decode cX0_prepare 5 = .ok (.invokevirtual 25, 3) := by decide +kernel
theorem dX0_prepare_8 : decode cX0_prepare 8 = .ok (.astore_n 2, 1) := by decide +kernel
theorem dX0_prepare_9 : decode cX0_prepare 9 = .ok (.aload_n 2, 1) := by decide +kernel
theorem dX0_prepare_10 : decode cX0_prepare 10 = .ok (.ifnull 8, 3) := by decide +kernel
theorem dX0_prepare_13 : decode cX0_prepare 13 = .ok (.aload_n 2, 1) := by decide +kernel
theorem dX0_prepare_14 : decode cX0_prepare 14 = .ok (.aload_n 1, 1) := by decide +kernel
theorem dX0_prepare_15 : decode cX0_prepare 15 = .ok (.invokevirtual 29, 3) := by decide +kernel
theorem dX0_prepare_18 : decode cX0_prepare 18 = .ok (.return_, 1) := by decide +kernel
theorem dX0_keepUnlessError_0 : decode cX0_keepUnlessError 0 = .ok (.iload_n 1, 1) := by decide +kernel
theorem dX0_keepUnlessError_1 : decode cX0_keepUnlessError 1 = .ok (.invokestatic 33, 3) := by decide +kernel
theorem dX0_keepUnlessError_4 : decode cX0_keepUnlessError 4 = .ok (.ifCond .ne 39, 3) := by decide +kernel
theorem dX0_keepUnlessError_7 : decode cX0_keepUnlessError 7 = .ok (.aload_n 0, 1) := by decide +kernel
theorem dX0_keepUnlessError_8 : decode cX0_keepUnlessError 8 = .ok (.getfield 21, 3) := by decide +kernel
theorem dX0_keepUnlessError_11 : decode cX0_keepUnlessError 11 = .ok (.iconst 5, 1) := by decide +kernel
theorem dX0_keepUnlessError_12 : decode cX0_keepUnlessError 12 = .ok (.if_icmp .ge 16, 3) := by decide +kernel
theorem dX0_keepUnlessError_15 : decode cX0_keepUnlessError 15 = .ok (.aload_n 0, 1) := by decide +kernel
theorem dX0_keepUnlessError_16 : decode cX0_keepUnlessError 16 = .ok (.dup, 1) := by decide +kernel
theorem dX0_keepUnlessError_17 : decode cX0_keepUnlessError 17 = .ok (.getfield 21, 3) := by decide +kernel
theorem dX0_keepUnlessError_20 : decode cX0_keepUnlessError 20 = .ok (.iconst 1, 1) := by decide +kernel
theorem dX0_keepUnlessError_21 : decode cX0_keepUnlessError 21 = .ok (.iadd, 1) := by decide +kernel
theorem dX0_keepUnlessError_22 : decode cX0_keepUnlessError 22 = .ok (.putfield 21, 3) := by decide +kernel
theorem dX0_keepUnlessError_25 : decode cX0_keepUnlessError 25 = .ok (.goto 18, 3) := by decide +kernel
theorem dX0_keepUnlessError_28 : decode cX0_keepUnlessError 28 = .ok (.aload_n 0, 1) := by decide +kernel
theorem dX0_keepUnlessError_29 : decode cX0_keepUnlessError 29 = .ok (.aload_n 0, 1) := by decide +kernel
theorem dX0_keepUnlessError_30 : decode cX0_keepUnlessError 30 = .ok (.getfield 17, 3) := by decide +kernel
theorem dX0_keepUnlessError_33 : decode cX0_keepUnlessError 33 = .ok (.iconst 1, 1) := by decide +kernel
theorem dX0_keepUnlessError_34 : decode cX0_keepUnlessError 34 = .ok (.iadd, 1) := by decide +kernel
theorem dX0_keepUnlessError_35 : decode cX0_keepUnlessError 35 = .ok (.bipush 6, 2) := by decide +kernel
theorem dX0_keepUnlessError_37 : decode cX0_keepUnlessError 37 = .ok (.invokestatic 37, 3) := by decide +kernel
theorem dX0_keepUnlessError_40 : decode cX0_keepUnlessError 40 = .ok (.putfield 17, 3) := by decide +kernel
theorem dX0_keepUnlessError_43 : decode cX0_keepUnlessError 43 = .ok (.iload_n 1, 1) := by decide +kernel
theorem dX0_keepUnlessError_44 : decode cX0_keepUnlessError 44 = .ok (.ireturn, 1) := by decide +kernel
theorem dX0_stateAfterOldest_0 : decode cX0_stateAfterOldest 0 = .ok (.aload_n 0, 1) := by decide +kernel
theorem dX0_stateAfterOldest_1 : decode cX0_stateAfterOldest 1 = .ok (.getfield 17, 3) := by decide +kernel
theorem dX0_stateAfterOldest_4 : decode cX0_stateAfterOldest 4 = .ok (.iload_n 1, 1) := by decide +kernel
theorem dX0_stateAfterOldest_5 : decode cX0_stateAfterOldest 5 = .ok (.iadd, 1) := by decide +kernel
theorem dX0_stateAfterOldest_6 : decode cX0_stateAfterOldest 6 = .ok (.bipush 6, 2) := by decide +kernel
theorem dX0_stateAfterOldest_8 : decode cX0_stateAfterOldest 8 = .ok (.invokestatic 37, 3) := by decide +kernel
theorem dX0_stateAfterOldest_11 : decode cX0_stateAfterOldest 11 = .ok (.istore_n 2, 1) := by decide +kernel
theorem dX0_stateAfterOldest_12 : decode cX0_stateAfterOldest 12 = .ok (.iload_n 2, 1) := by decide +kernel
theorem dX0_stateAfterOldest_13 : decode cX0_stateAfterOldest 13 = .ok (.iconst 0, 1) := by decide +kernel
theorem dX0_stateAfterOldest_14 : decode cX0_stateAfterOldest 14 = .ok (.iconst 5, 1) := by decide +kernel
theorem dX0_stateAfterOldest_15 : decode cX0_stateAfterOldest 15 = .ok (.invokestatic 43, 3) := by decide +kernel
theorem dX0_stateAfterOldest_18 : decode cX0_stateAfterOldest 18 = .ok (.ifCond .eq 12, 3) := by decide +kernel
theorem dX0_stateAfterOldest_21 : decode cX0_stateAfterOldest 21 = .ok (.aload_n 0, 1) := by decide +kernel
theorem dX0_stateAfterOldest_22 : decode cX0_stateAfterOldest 22 = .ok (.getfield 13, 3) := by decide +kernel
theorem dX0_stateAfterOldest_25 : decode cX0_stateAfterOldest 25 = .ok (.iload_n 2, 1) := by decide +kernel
theorem dX0_stateAfterOldest_26 : decode cX0_stateAfterOldest 26 = .ok (.aaload, 1) := by decide +kernel
theorem dX0_stateAfterOldest_27 : decode cX0_stateAfterOldest 27 = .ok (.goto 4, 3) := by decide +kernel
theorem dX0_stateAfterOldest_30 : decode cX0_stateAfterOldest 30 = .ok (.aconst_null, 1) := by decide +kernel
theorem dX0_stateAfterOldest_31 : decode cX0_stateAfterOldest 31 = .ok (.areturn, 1) := by decide +kernel
theorem dX1_init_0 : decode cX1_init 0 = .ok (.aload_n 0, 1) := by decide +kernel
theorem dX1_init_1 : decode cX1_init 1 = .ok (.invokespecial 3, 3) := by decide +kernel
theorem dX1_init_4 : decode cX1_init 4 = .ok (.aload_n 0, 1) := by decide +kernel
theorem dX1_init_5 : decode cX1_init 5 = .ok (.iconst 0, 1) := by decide +kernel
theorem dX1_init_6 : decode cX1_init 6 = .ok (.putfield 9, 3) := by decide +kernel
theorem dX1_init_9 : decode cX1_init 9 = .ok (.aload_n 0, 1) := by decide +kernel
theorem dX1_init_10 : decode cX1_init 10 = .ok (.sipush 200, 3) := by decide +kernel
theorem dX1_init_13 : decode cX1_init 13 = .ok (.newarray .int, 2) := by decide +kernel
theorem dX1_init_15 : decode cX1_init 15 = .ok (.putfield 15, 3) := by decide +kernel
theorem dX1_init_18 : decode cX1_init 18 = .ok (.aload_n 0, 1) := by decide +kernel
theorem dX1_init_19 : decode cX1_init 19 = .ok (.sipush 200, 3) := by decide +kernel
theorem dX1_init_22 : decode cX1_init 22 = .ok (.newarray .int, 2) := by decide +kernel
theorem dX1_init_24 : decode cX1_init 24 = .ok (.putfield 19, 3) := by decide +kernel
theorem dX1_init_27 : decode cX1_init 27 = .ok (.aload_n 0, 1) := by decide +kernel
theorem dX1_init_28 : decode cX1_init 28 = .ok (.sipush 200, 3) := by decide +kernel
theorem dX1_init_31 : decode cX1_init 31 = .ok (.newarray .int, 2) := by decide +kernel
theorem dX1_init_33 : decode cX1_init 33 = .ok (.putfield 22, 3) := by decide +kernel
theorem dX1_init_36 : decode cX1_init 36 = .ok (.return_, 1) := by decide +kernel
theorem dX1_contains_0 : decode cX1_contains 0 = .ok (.iload_n 1, 1) := by decide +kernel
theorem dX1_contains_1 : decode cX1_contains 1 = .ok (.iconst 1, 1) := by decide +kernel
theorem dX1_contains_2 : decode cX1_contains 2 = .ok (.if_icmp .lt 22, 3) := by decide +kernel
theorem dX1_contains_5 : decode cX1_contains 5 = .ok (.iload_n 1, 1) := by decide +kernel
theorem dX1_contains_6 : decode cX1_contains 6 = .ok (.aload_n 0, 1) := by decide +kernel
theorem dX1_contains_7 : decode cX1_contains 7 = .ok (.getfield 9, 3) := by decide +kernel
theorem dX1_contains_10 : decode cX1_contains 10 = .ok (.if_icmp .gt 14, 3) := by decide +kernel
theorem dX1_contains_13 : decode cX1_contains 13 = .ok (.iload_n 1, 1) := by decide +kernel
theorem dX1_contains_14 : decode cX1_contains 14 = .ok (.sipush 200, 3) := by decide +kernel
theorem dX1_contains_17 : decode cX1_contains 17 = .ok (.if_icmp .gt 7, 3) := by decide +kernel
theorem dX1_contains_20 : decode cX1_contains 20 = .ok (.iconst 1, 1) := by decide +kernel
theorem dX1_contains_21 : decode cX1_contains 21 = .ok (.goto 4, 3) := by decide +kernel
theorem dX1_contains_24 : decode cX1_contains 24 = .ok (.iconst 0, 1) := by decide +kernel
theorem dX1_contains_25 : decode cX1_contains 25 = .ok (.ireturn, 1) := by decide +kernel
theorem dX1_keyOf_0 : decode cX1_keyOf 0 = .ok (.aload_n 0, 1) := by decide +kernel
theorem dX1_keyOf_1 : decode cX1_keyOf 1 = .ok (.iload_n 1, 1) := by decide +kernel
theorem dX1_keyOf_2 : decode cX1_keyOf 2 = .ok (.invokevirtual 25, 3) := by decide +kernel
theorem dX1_keyOf_5 : decode cX1_keyOf 5 = .ok (.ifCond .eq 14, 3) := by decide +kernel
theorem dX1_keyOf_8 : decode cX1_keyOf 8 = .ok (.aload_n 0, 1) := by decide +kernel
theorem dX1_keyOf_9 : decode cX1_keyOf 9 = .ok (.getfield 15, 3) := by decide +kernel
theorem dX1_keyOf_12 : decode cX1_keyOf 12 = .ok (.iload_n 1, 1) := by decide +kernel
theorem dX1_keyOf_13 : decode cX1_keyOf 13 = .ok (.iconst 1, 1) := by decide +kernel
theorem dX1_keyOf_14 : decode cX1_keyOf 14 = .ok (.isub, 1) := by decide +kernel
theorem dX1_keyOf_15 : decode cX1_keyOf 15 = .ok (.iaload, 1) := by decide +kernel
theorem dX1_keyOf_16 : decode cX1_keyOf 16 = .ok (.goto 5, 3) := by decide +kernel
theorem dX1_keyOf_19 : decode cX1_keyOf 19 = .ok (.bipush (-6), 2) := by decide +kernel
theorem dX1_keyOf_21 : decode cX1_keyOf 21 = .ok (.ireturn, 1) := by decide +kernel
theorem dX1_valueOf_0 : decode cX1_valueOf 0 = .ok (.aload_n 0, 1) := by decide +kernel
theorem dX1_valueOf_1 : decode cX1_valueOf 1 = .ok (.iload_n 1, 1) := by decide +kernel
theorem dX1_valueOf_2 : decode cX1_valueOf 2 = .ok (.invokevirtual 25, 3) := by decide +kernel
theorem dX1_valueOf_5 : decode cX1_valueOf 5 = .ok (.ifCond .eq 14, 3) := by decide +kernel
theorem dX1_valueOf_8 : decode cX1_valueOf 8 = .ok (.aload_n 0, 1) := by decide +kernel
theorem dX1_valueOf_9 : decode cX1_valueOf 9 = .ok (.getfield 19, 3) := by decide +kernel
theorem dX1_valueOf_12 : decode cX1_valueOf 12 = .ok (.iload_n 1, 1) := by decide +kernel
theorem dX1_valueOf_13 : decode cX1_valueOf 13 = .ok (.iconst 1, 1) := by decide +kernel
theorem dX1_valueOf_14 : decode cX1_valueOf 14 = .ok (.isub, 1) := by decide +kernel
theorem dX1_valueOf_15 : decode cX1_valueOf 15 = .ok (.iaload, 1) := by decide +kernel
theorem dX1_valueOf_16 : decode cX1_valueOf 16 = .ok (.goto 5, 3) := by decide +kernel
theorem dX1_valueOf_19 : decode cX1_valueOf 19 = .ok (.bipush (-6), 2) := by decide +kernel
theorem dX1_valueOf_21 : decode cX1_valueOf 21 = .ok (.ireturn, 1) := by decide +kernel
theorem dX1_add_0 : decode cX1_add 0 = .ok (.aload_n 0, 1) := by decide +kernel
theorem dX1_add_1 : decode cX1_add 1 = .ok (.getfield 9, 3) := by decide +kernel
theorem dX1_add_4 : decode cX1_add 4 = .ok (.ifCond .lt 13, 3) := by decide +kernel
theorem dX1_add_7 : decode cX1_add 7 = .ok (.aload_n 0, 1) := by decide +kernel
theorem dX1_add_8 : decode cX1_add 8 = .ok (.getfield 9, 3) := by decide +kernel
theorem dX1_add_11 : decode cX1_add 11 = .ok (.sipush 200, 3) := by decide +kernel
theorem dX1_add_14 : decode cX1_add 14 = .ok (.if_icmp .lt 6, 3) := by decide +kernel
theorem dX1_add_17 : decode cX1_add 17 = .ok (.bipush (-4), 2) := by decide +kernel
theorem dX1_add_19 : decode cX1_add 19 = .ok (.ireturn, 1) := by decide +kernel
theorem dX1_add_20 : decode cX1_add 20 = .ok (.aload_n 0, 1) := by decide +kernel
theorem dX1_add_21 : decode cX1_add 21 = .ok (.getfield 15, 3) := by decide +kernel
theorem dX1_add_24 : decode cX1_add 24 = .ok (.aload_n 0, 1) := by decide +kernel
theorem dX1_add_25 : decode cX1_add 25 = .ok (.getfield 9, 3) := by decide +kernel
theorem dX1_add_28 : decode cX1_add 28 = .ok (.iload_n 1, 1) := by decide +kernel
theorem dX1_add_29 : decode cX1_add 29 = .ok (.iastore, 1) := by decide +kernel
theorem dX1_add_30 : decode cX1_add 30 = .ok (.aload_n 0, 1) := by decide +kernel
theorem dX1_add_31 : decode cX1_add 31 = .ok (.getfield 19, 3) := by decide +kernel
theorem dX1_add_34 : decode cX1_add 34 = .ok (.aload_n 0, 1) := by decide +kernel
theorem dX1_add_35 : decode cX1_add 35 = .ok (.getfield 9, 3) := by decide +kernel
theorem dX1_add_38 : decode cX1_add 38 = .ok (.iload_n 2, 1) := by decide +kernel
theorem dX1_add_39 : decode cX1_add 39 = .ok (.iastore, 1) := by decide +kernel
theorem dX1_add_40 : decode cX1_add 40 = .ok (.aload_n 0, 1) := by decide +kernel
theorem dX1_add_41 : decode cX1_add 41 = .ok (.getfield 22, 3) := by decide +kernel
theorem dX1_add_44 : decode cX1_add 44 = .ok (.aload_n 0, 1) := by decide +kernel
theorem dX1_add_45 : decode cX1_add 45 = .ok (.getfield 9, 3) := by decide +kernel
theorem dX1_add_48 : decode cX1_add 48 = .ok (.iload_n 3, 1) := by decide +kernel
theorem dX1_add_49 : decode cX1_add 49 = .ok (.iastore, 1) := by decide +kernel
theorem dX1_add_50 : decode cX1_add 50 = .ok (.aload_n 0, 1) := by decide +kernel
theorem dX1_add_51 : decode cX1_add 51 = .ok (.dup, 1) := by decide +kernel
theorem dX1_add_52 : decode cX1_add 52 = .ok (.getfield 9, 3) := by decide +kernel
theorem dX1_add_55 : decode cX1_add 55 = .ok (.iconst 1, 1) := by decide +kernel
theorem dX1_add_56 : decode cX1_add 56 = .ok (.iadd, 1) := by decide +kernel
theorem dX1_add_57 : decode cX1_add 57 = .ok (.putfield 9, 3) := by decide +kernel
theorem dX1_add_60 : decode cX1_add 60 = .ok (.aload_n 0, 1) := by decide +kernel
theorem dX1_add_61 : decode cX1_add 61 = .ok (.getfield 9, 3) := by decide +kernel
theorem dX1_add_64 : decode cX1_add 64 = .ok (.ireturn, 1) := by decide +kernel
theorem dX1_versionAt_0 : decode cX1_versionAt 0 = .ok (.iload_n 1, 1) := by decide +kernel
theorem dX1_versionAt_1 : decode cX1_versionAt 1 = .ok (.aload_n 0, 1) := by decide +kernel
theorem dX1_versionAt_2 : decode cX1_versionAt 2 = .ok (.getfield 9, 3) := by decide +kernel
theorem dX1_versionAt_5 : decode cX1_versionAt 5 = .ok (.invokestatic 29, 3) := by decide +kernel
theorem dX1_versionAt_8 : decode cX1_versionAt 8 = .ok (.istore_n 3, 1) := by decide +kernel
theorem dX1_versionAt_9 : decode cX1_versionAt 9 = .ok (.iload_n 3, 1) := by decide +kernel
theorem dX1_versionAt_10 : decode cX1_versionAt 10 = .ok (.ifCond .le 18, 3) := by decide +kernel
theorem dX1_versionAt_13 : decode cX1_versionAt 13 = .ok (.aload_n 0, 1) := by decide +kernel
theorem dX1_versionAt_14 : decode cX1_versionAt 14 = .ok (.iload_n 3, 1) := by decide +kernel
theorem dX1_versionAt_15 : decode cX1_versionAt 15 = .ok (.invokevirtual 35, 3) := by decide +kernel
theorem dX1_versionAt_18 : decode cX1_versionAt 18 = .ok (.iload_n 2, 1) := by decide +kernel
theorem dX1_versionAt_19 : decode cX1_versionAt 19 = .ok (.if_icmp .eq 9, 3) := by decide +kernel
theorem dX1_versionAt_22 : decode cX1_versionAt 22 = .ok (.iinc 3 (-1), 3) := by decide +kernel
theorem dX1_versionAt_25 : decode cX1_versionAt 25 = .ok (.goto (-16), 3) := by decide +kernel
theorem dX1_versionAt_28 : decode cX1_versionAt 28 = .ok (.iload_n 3, 1) := by decide +kernel
theorem dX1_versionAt_29 : decode cX1_versionAt 29 = .ok (.ireturn, 1) := by decide +kernel
theorem dX1_countAfter_0 : decode cX1_countAfter 0 = .ok (.iconst 0, 1) := by decide +kernel
theorem dX1_countAfter_1 : decode cX1_countAfter 1 = .ok (.istore_n 3, 1) := by decide +kernel
theorem dX1_countAfter_2 : decode cX1_countAfter 2 = .ok (.aload_n 0, 1) := by decide +kernel
theorem dX1_countAfter_3 : decode cX1_countAfter 3 = .ok (.getfield 9, 3) := by decide +kernel
theorem dX1_countAfter_6 : decode cX1_countAfter 6 = .ok (.istore 4, 2) := by decide +kernel
theorem dX1_countAfter_8 : decode cX1_countAfter 8 = .ok (.iload 4, 2) := by decide +kernel
theorem dX1_countAfter_10 : decode cX1_countAfter 10 = .ok (.iload_n 1, 1) := by decide +kernel
theorem dX1_countAfter_11 : decode cX1_countAfter 11 = .ok (.if_icmp .le 27, 3) := by decide +kernel
theorem dX1_countAfter_14 : decode cX1_countAfter 14 = .ok (.iload 4, 2) := by decide +kernel
theorem dX1_countAfter_16 : decode cX1_countAfter 16 = .ok (.ifCond .le 22, 3) := by decide +kernel
theorem dX1_countAfter_19 : decode cX1_countAfter 19 = .ok (.aload_n 0, 1) := by decide +kernel
theorem dX1_countAfter_20 : decode cX1_countAfter 20 = .ok (.iload 4, 2) := by decide +kernel
theorem dX1_countAfter_22 : decode cX1_countAfter 22 = .ok (.invokevirtual 35, 3) := by decide +kernel
theorem dX1_countAfter_25 : decode cX1_countAfter 25 = .ok (.iload_n 2, 1) := by decide +kernel
theorem dX1_countAfter_26 : decode cX1_countAfter 26 = .ok (.if_icmp .ne 6, 3) := by decide +kernel
theorem dX1_countAfter_29 : decode cX1_countAfter 29 = .ok (.iinc 3 1, 3) := by decide +kernel
theorem dX1_countAfter_32 : decode cX1_countAfter 32 = .ok (.iinc 4 (-1), 3) := by decide +kernel
theorem dX1_countAfter_35 : decode cX1_countAfter 35 = .ok (.goto (-27), 3) := by decide +kernel
theorem dX1_countAfter_38 : decode cX1_countAfter 38 = .ok (.iload_n 3, 1) := by decide +kernel
theorem dX1_countAfter_39 : decode cX1_countAfter 39 = .ok (.ireturn, 1) := by decide +kernel
theorem dX1_copyFrom_0 : decode cX1_copyFrom 0 = .ok (.aload_n 0, 1) := by decide +kernel
theorem dX1_copyFrom_1 : decode cX1_copyFrom 1 = .ok (.aload_n 1, 1) := by decide +kernel
theorem dX1_copyFrom_2 : decode cX1_copyFrom 2 = .ok (.getfield 9, 3) := by decide +kernel
theorem dX1_copyFrom_5 : decode cX1_copyFrom 5 = .ok (.putfield 9, 3) := by decide +kernel
theorem dX1_copyFrom_8 : decode cX1_copyFrom 8 = .ok (.aload_n 1, 1) := by decide +kernel
theorem dX1_copyFrom_9 : decode cX1_copyFrom 9 = .ok (.getfield 15, 3) := by decide +kernel
theorem dX1_copyFrom_12 : decode cX1_copyFrom 12 = .ok (.iconst 0, 1) := by decide +kernel
theorem dX1_copyFrom_13 : decode cX1_copyFrom 13 = .ok (.aload_n 0, 1) := by decide +kernel
theorem dX1_copyFrom_14 : decode cX1_copyFrom 14 = .ok (.getfield 15, 3) := by decide +kernel
theorem dX1_copyFrom_17 : decode cX1_copyFrom 17 = .ok (.iconst 0, 1) := by decide +kernel
theorem dX1_copyFrom_18 : decode cX1_copyFrom 18 = .ok (.sipush 200, 3) := by decide +kernel
theorem dX1_copyFrom_21 : decode cX1_copyFrom 21 = .ok (.invokestatic 39, 3) := by decide +kernel
theorem dX1_copyFrom_24 : decode cX1_copyFrom 24 = .ok (.aload_n 1, 1) := by decide +kernel
theorem dX1_copyFrom_25 : decode cX1_copyFrom 25 = .ok (.getfield 19, 3) := by decide +kernel
theorem dX1_copyFrom_28 : decode cX1_copyFrom 28 = .ok (.iconst 0, 1) := by decide +kernel
theorem dX1_copyFrom_29 : decode cX1_copyFrom 29 = .ok (.aload_n 0, 1) := by decide +kernel
theorem dX1_copyFrom_30 : decode cX1_copyFrom 30 = .ok (.getfield 19, 3) := by decide +kernel
theorem dX1_copyFrom_33 : decode cX1_copyFrom 33 = .ok (.iconst 0, 1) := by decide +kernel
theorem dX1_copyFrom_34 : decode cX1_copyFrom 34 = .ok (.sipush 200, 3) := by decide +kernel
theorem dX1_copyFrom_37 : decode cX1_copyFrom 37 = .ok (.invokestatic 39, 3) := by decide +kernel
theorem dX1_copyFrom_40 : decode cX1_copyFrom 40 = .ok (.aload_n 1, 1) := by decide +kernel
theorem dX1_copyFrom_41 : decode cX1_copyFrom 41 = .ok (.getfield 22, 3) := by decide +kernel
theorem dX1_copyFrom_44 : decode cX1_copyFrom 44 = .ok (.iconst 0, 1) := by decide +kernel
theorem dX1_copyFrom_45 : decode cX1_copyFrom 45 = .ok (.aload_n 0, 1) := by decide +kernel
theorem dX1_copyFrom_46 : decode cX1_copyFrom 46 = .ok (.getfield 22, 3) := by decide +kernel
theorem dX1_copyFrom_49 : decode cX1_copyFrom 49 = .ok (.iconst 0, 1) := by decide +kernel
theorem dX1_copyFrom_50 : decode cX1_copyFrom 50 = .ok (.sipush 200, 3) := by decide +kernel
theorem dX1_copyFrom_53 : decode cX1_copyFrom 53 = .ok (.invokestatic 39, 3) := by decide +kernel
theorem dX1_copyFrom_56 : decode cX1_copyFrom 56 = .ok (.return_, 1) := by decide +kernel
theorem dX2_init_0 : decode cX2_init 0 = .ok (.aload_n 0, 1) := by decide +kernel
theorem dX2_init_1 : decode cX2_init 1 = .ok (.invokespecial 3, 3) := by decide +kernel
theorem dX2_init_4 : decode cX2_init 4 = .ok (.aload_n 0, 1) := by decide +kernel
theorem dX2_init_5 : decode cX2_init 5 = .ok (.iconst 0, 1) := by decide +kernel
theorem dX2_init_6 : decode cX2_init 6 = .ok (.putfield 9, 3) := by decide +kernel
theorem dX2_init_9 : decode cX2_init 9 = .ok (.aload_n 0, 1) := by decide +kernel
theorem dX2_init_10 : decode cX2_init 10 = .ok (.iconst 0, 1) := by decide +kernel
theorem dX2_init_11 : decode cX2_init 11 = .ok (.putfield 15, 3) := by decide +kernel
theorem dX2_init_14 : decode cX2_init 14 = .ok (.aload_n 0, 1) := by decide +kernel
theorem dX2_init_15 : decode cX2_init 15 = .ok (.iconst 0, 1) := by decide +kernel
theorem dX2_init_16 : decode cX2_init 16 = .ok (.putfield 19, 3) := by decide +kernel
theorem dX2_init_19 : decode cX2_init 19 = .ok (.aload_n 0, 1) := by decide +kernel
theorem dX2_init_20 : decode cX2_init 20 = .ok (.iconst 0, 1) := by decide +kernel
theorem dX2_init_21 : decode cX2_init 21 = .ok (.putfield 22, 3) := by decide +kernel
theorem dX2_init_24 : decode cX2_init 24 = .ok (.aload_n 0, 1) := by decide +kernel
theorem dX2_init_25 : decode cX2_init 25 = .ok (.iconst 0, 1) := by decide +kernel
theorem dX2_init_26 : decode cX2_init 26 = .ok (.putfield 25, 3) := by decide +kernel
theorem dX2_init_29 : decode cX2_init 29 = .ok (.return_, 1) := by decide +kernel
theorem dX2_begin_0 : decode cX2_begin 0 = .ok (.aload_n 0, 1) := by decide +kernel
theorem dX2_begin_1 : decode cX2_begin 1 = .ok (.iconst 1, 1) := by decide +kernel
theorem dX2_begin_2 : decode cX2_begin 2 = .ok (.putfield 9, 3) := by decide +kernel
theorem dX2_begin_5 : decode cX2_begin 5 = .ok (.aload_n 0, 1) := by decide +kernel
theorem dX2_begin_6 : decode cX2_begin 6 = .ok (.iload_n 2, 1) := by decide +kernel
theorem dX2_begin_7 : decode cX2_begin 7 = .ok (.putfield 15, 3) := by decide +kernel
theorem dX2_begin_10 : decode cX2_begin 10 = .ok (.aload_n 0, 1) := by decide +kernel
theorem dX2_begin_11 : decode cX2_begin 11 = .ok (.iload_n 1, 1) := by decide +kernel
theorem dX2_begin_12 : decode cX2_begin 12 = .ok (.putfield 19, 3) := by decide +kernel
theorem dX2_begin_15 : decode cX2_begin 15 = .ok (.aload_n 0, 1) := by decide +kernel
theorem dX2_begin_16 : decode cX2_begin 16 = .ok (.iconst 0, 1) := by decide +kernel
theorem dX2_begin_17 : decode cX2_begin 17 = .ok (.putfield 22, 3) := by decide +kernel
theorem dX2_begin_20 : decode cX2_begin 20 = .ok (.aload_n 0, 1) := by decide +kernel
theorem dX2_begin_21 : decode cX2_begin 21 = .ok (.iconst 0, 1) := by decide +kernel
theorem dX2_begin_22 : decode cX2_begin 22 = .ok (.putfield 25, 3) := by decide +kernel
theorem dX2_begin_25 : decode cX2_begin 25 = .ok (.return_, 1) := by decide +kernel
theorem dX2_ticksTo_0 : decode cX2_ticksTo 0 = .ok (.aload_n 0, 1) := by decide +kernel
theorem dX2_ticksTo_1 : decode cX2_ticksTo 1 = .ok (.getfield 15, 3) := by decide +kernel
theorem dX2_ticksTo_4 : decode cX2_ticksTo 4 = .ok (.iload_n 1, 1) := by decide +kernel
theorem dX2_ticksTo_5 : decode cX2_ticksTo 5 = .ok (.if_icmp .lt 5, 3) := by decide +kernel
theorem dX2_ticksTo_8 : decode cX2_ticksTo 8 = .ok (.iconst 0, 1) := by decide +kernel
theorem dX2_ticksTo_9 : decode cX2_ticksTo 9 = .ok (.ireturn, 1) := by decide +kernel
theorem dX2_ticksTo_10 : decode cX2_ticksTo 10 = .ok (.aload_n 0, 1) := by decide +kernel
theorem dX2_ticksTo_11 : decode cX2_ticksTo 11 = .ok (.getfield 22, 3) := by decide +kernel
theorem dX2_ticksTo_14 : decode cX2_ticksTo 14 = .ok (.ifCond .ne 10, 3) := by decide +kernel
theorem dX2_ticksTo_17 : decode cX2_ticksTo 17 = .ok (.aload_n 0, 1) := by decide +kernel
theorem dX2_ticksTo_18 : decode cX2_ticksTo 18 = .ok (.getfield 19, 3) := by decide +kernel
theorem dX2_ticksTo_21 : decode cX2_ticksTo 21 = .ok (.ifCond .gt 6, 3) := by decide +kernel
theorem dX2_ticksTo_24 : decode cX2_ticksTo 24 = .ok (.bipush (-6), 2) := by decide +kernel
theorem dX2_ticksTo_26 : decode cX2_ticksTo 26 = .ok (.ireturn, 1) := by decide +kernel
theorem dX2_ticksTo_27 : decode cX2_ticksTo 27 = .ok (.iload_n 1, 1) := by decide +kernel
theorem dX2_ticksTo_28 : decode cX2_ticksTo 28 = .ok (.aload_n 0, 1) := by decide +kernel
theorem dX2_ticksTo_29 : decode cX2_ticksTo 29 = .ok (.getfield 15, 3) := by decide +kernel
theorem dX2_ticksTo_32 : decode cX2_ticksTo 32 = .ok (.isub, 1) := by decide +kernel
theorem dX2_ticksTo_33 : decode cX2_ticksTo 33 = .ok (.aload_n 0, 1) := by decide +kernel
theorem dX2_ticksTo_34 : decode cX2_ticksTo 34 = .ok (.getfield 19, 3) := by decide +kernel
theorem dX2_ticksTo_37 : decode cX2_ticksTo 37 = .ok (.iadd, 1) := by decide +kernel
theorem dX2_ticksTo_38 : decode cX2_ticksTo 38 = .ok (.iconst 1, 1) := by decide +kernel
theorem dX2_ticksTo_39 : decode cX2_ticksTo 39 = .ok (.isub, 1) := by decide +kernel
theorem dX2_ticksTo_40 : decode cX2_ticksTo 40 = .ok (.aload_n 0, 1) := by decide +kernel
theorem dX2_ticksTo_41 : decode cX2_ticksTo 41 = .ok (.getfield 19, 3) := by decide +kernel
theorem dX2_ticksTo_44 : decode cX2_ticksTo 44 = .ok (.idiv, 1) := by decide +kernel
theorem dX2_ticksTo_45 : decode cX2_ticksTo 45 = .ok (.ireturn, 1) := by decide +kernel
theorem dX2_passTicks_0 : decode cX2_passTicks 0 = .ok (.aload_n 0, 1) := by decide +kernel
theorem dX2_passTicks_1 : decode cX2_passTicks 1 = .ok (.getfield 22, 3) := by decide +kernel
theorem dX2_passTicks_4 : decode cX2_passTicks 4 = .ok (.ifCond .ne 22, 3) := by decide +kernel
theorem dX2_passTicks_7 : decode cX2_passTicks 7 = .ok (.aload_n 0, 1) := by decide +kernel
theorem dX2_passTicks_8 : decode cX2_passTicks 8 = .ok (.aload_n 0, 1) := by decide +kernel
theorem dX2_passTicks_9 : decode cX2_passTicks 9 = .ok (.getfield 15, 3) := by decide +kernel
theorem dX2_passTicks_12 : decode cX2_passTicks 12 = .ok (.aload_n 0, 1) := by decide +kernel
theorem dX2_passTicks_13 : decode cX2_passTicks 13 = .ok (.getfield 19, 3) := by decide +kernel
theorem dX2_passTicks_16 : decode cX2_passTicks 16 = .ok (.iload_n 1, 1) := by decide +kernel
theorem dX2_passTicks_17 : decode cX2_passTicks 17 = .ok (.imul, 1) := by decide +kernel
theorem dX2_passTicks_18 : decode cX2_passTicks 18 = .ok (.iadd, 1) := by decide +kernel
theorem dX2_passTicks_19 : decode cX2_passTicks 19 = .ok (.iload_n 2, 1) := by decide +kernel
theorem dX2_passTicks_20 : decode cX2_passTicks 20 = .ok (.invokestatic 28, 3) := by decide +kernel
theorem dX2_passTicks_23 : decode cX2_passTicks 23 = .ok (.putfield 15, 3) := by decide +kernel
theorem dX2_passTicks_26 : decode cX2_passTicks 26 = .ok (.return_, 1) := by decide +kernel
theorem dX2_copyFrom_0 : decode cX2_copyFrom 0 = .ok (.aload_n 0, 1) := by decide +kernel
theorem dX2_copyFrom_1 : decode cX2_copyFrom 1 = .ok (.aload_n 1, 1) := by decide +kernel
theorem dX2_copyFrom_2 : decode cX2_copyFrom 2 = .ok (.getfield 9, 3) := by decide +kernel
theorem dX2_copyFrom_5 : decode cX2_copyFrom 5 = .ok (.putfield 9, 3) := by decide +kernel
theorem dX2_copyFrom_8 : decode cX2_copyFrom 8 = .ok (.aload_n 0, 1) := by decide +kernel
theorem dX2_copyFrom_9 : decode cX2_copyFrom 9 = .ok (.aload_n 1, 1) := by decide +kernel
theorem dX2_copyFrom_10 : decode cX2_copyFrom 10 = .ok (.getfield 15, 3) := by decide +kernel
theorem dX2_copyFrom_13 : decode cX2_copyFrom 13 = .ok (.putfield 15, 3) := by decide +kernel
theorem dX2_copyFrom_16 : decode cX2_copyFrom 16 = .ok (.aload_n 0, 1) := by decide +kernel
theorem dX2_copyFrom_17 : decode cX2_copyFrom 17 = .ok (.aload_n 1, 1) := by decide +kernel
theorem dX2_copyFrom_18 : decode cX2_copyFrom 18 = .ok (.getfield 19, 3) := by decide +kernel
theorem dX2_copyFrom_21 : decode cX2_copyFrom 21 = .ok (.putfield 19, 3) := by decide +kernel
theorem dX2_copyFrom_24 : decode cX2_copyFrom 24 = .ok (.aload_n 0, 1) := by decide +kernel
theorem dX2_copyFrom_25 : decode cX2_copyFrom 25 = .ok (.aload_n 1, 1) := by decide +kernel
theorem dX2_copyFrom_26 : decode cX2_copyFrom 26 = .ok (.getfield 22, 3) := by decide +kernel
theorem dX2_copyFrom_29 : decode cX2_copyFrom 29 = .ok (.putfield 22, 3) := by decide +kernel
theorem dX2_copyFrom_32 : decode cX2_copyFrom 32 = .ok (.aload_n 0, 1) := by decide +kernel
theorem dX2_copyFrom_33 : decode cX2_copyFrom 33 = .ok (.aload_n 1, 1) := by decide +kernel
theorem dX2_copyFrom_34 : decode cX2_copyFrom 34 = .ok (.getfield 25, 3) := by decide +kernel
theorem dX2_copyFrom_37 : decode cX2_copyFrom 37 = .ok (.putfield 25, 3) := by decide +kernel
theorem dX2_copyFrom_40 : decode cX2_copyFrom 40 = .ok (.return_, 1) := by decide +kernel
theorem dX3_init_0 : decode cX3_init 0 = .ok (.aload_n 0, 1) := by decide +kernel
theorem dX3_init_1 : decode cX3_init 1 = .ok (.invokespecial 3, 3) := by decide +kernel
theorem dX3_init_4 : decode cX3_init 4 = .ok (.aload_n 0, 1) := by decide +kernel
theorem dX3_init_5 : decode cX3_init 5 = .ok (.iconst 0, 1) := by decide +kernel
theorem dX3_init_6 : decode cX3_init 6 = .ok (.putfield 9, 3) := by decide +kernel
theorem dX3_init_9 : decode cX3_init 9 = .ok (.aload_n 0, 1) := by decide +kernel
theorem dX3_init_10 : decode cX3_init 10 = .ok (.bipush 9, 2) := by decide +kernel
theorem dX3_init_12 : decode cX3_init 12 = .ok (.putfield 15, 3) := by decide +kernel
theorem dX3_init_15 : decode cX3_init 15 = .ok (.aload_n 0, 1) := by decide +kernel
theorem dX3_init_16 : decode cX3_init 16 = .ok (.iconst 0, 1) := by decide +kernel
theorem dX3_init_17 : decode cX3_init 17 = .ok (.putfield 19, 3) := by decide +kernel
theorem dX3_init_20 : decode cX3_init 20 = .ok (.aload_n 0, 1) := by decide +kernel
theorem dX3_init_21 : decode cX3_init 21 = .ok (.iconst 0, 1) := by decide +kernel
theorem dX3_init_22 : decode cX3_init 22 = .ok (.putfield 22, 3) := by decide +kernel
theorem dX3_init_25 : decode cX3_init 25 = .ok (.aload_n 0, 1) := by decide +kernel
theorem dX3_init_26 : decode cX3_init 26 = .ok (.iconst 0, 1) := by decide +kernel
theorem dX3_init_27 : decode cX3_init 27 = .ok (.putfield 25, 3) := by decide +kernel
theorem dX3_init_30 : decode cX3_init 30 = .ok (.aload_n 0, 1) := by decide +kernel
theorem dX3_init_31 : decode cX3_init 31 = .ok (.iconst 0, 1) := by decide +kernel
theorem dX3_init_32 : decode cX3_init 32 = .ok (.putfield 28, 3) := by decide +kernel
theorem dX3_init_35 : decode cX3_init 35 = .ok (.aload_n 0, 1) := by decide +kernel
theorem dX3_init_36 : decode cX3_init 36 = .ok (.iconst 0, 1) := by decide +kernel
theorem dX3_init_37 : decode cX3_init 37 = .ok (.putfield 31, 3) := by decide +kernel
theorem dX3_init_40 : decode cX3_init 40 = .ok (.aload_n 0, 1) := by decide +kernel
theorem dX3_init_41 : decode cX3_init 41 = .ok (.iconst 0, 1) := by decide +kernel
theorem dX3_init_42 : decode cX3_init 42 = .ok (.putfield 34, 3) := by decide +kernel
theorem dX3_init_45 : decode cX3_init 45 = .ok (.aload_n 0, 1) := by decide +kernel
theorem dX3_init_46 : decode cX3_init 46 = .ok (.iconst 0, 1) := by decide +kernel
theorem dX3_init_47 : decode cX3_init 47 = .ok (.putfield 37, 3) := by decide +kernel
theorem dX3_init_50 : decode cX3_init 50 = .ok (.aload_n 0, 1) := by decide +kernel
theorem dX3_init_51 : decode cX3_init 51 = .ok (.bipush 12, 2) := by decide +kernel
theorem dX3_init_53 : decode cX3_init 53 = .ok (.newarray .int, 2) := by decide +kernel
theorem dX3_init_55 : decode cX3_init 55 = .ok (.putfield 40, 3) := by decide +kernel
theorem dX3_init_58 : decode cX3_init 58 = .ok (.aload_n 0, 1) := by decide +kernel
theorem dX3_init_59 : decode cX3_init 59 = .ok (.bipush 12, 2) := by decide +kernel
theorem dX3_init_61 : decode cX3_init 61 = .ok (.newarray .int, 2) := by decide +kernel
theorem dX3_init_63 : decode cX3_init 63 = .ok (.putfield 44, 3) := by decide +kernel
theorem dX3_init_66 : decode cX3_init 66 = .ok (.return_, 1) := by decide +kernel
theorem dX3_begin_0 : decode cX3_begin 0 = .ok (.aload_n 0, 1) := by decide +kernel
theorem dX3_begin_1 : decode cX3_begin 1 = .ok (.iconst 1, 1) := by decide +kernel
theorem dX3_begin_2 : decode cX3_begin 2 = .ok (.putfield 9, 3) := by decide +kernel
theorem dX3_begin_5 : decode cX3_begin 5 = .ok (.aload_n 0, 1) := by decide +kernel
theorem dX3_begin_6 : decode cX3_begin 6 = .ok (.iload_n 1, 1) := by decide +kernel
theorem dX3_begin_7 : decode cX3_begin 7 = .ok (.putfield 15, 3) := by decide +kernel
theorem dX3_begin_10 : decode cX3_begin 10 = .ok (.aload_n 0, 1) := by decide +kernel
theorem dX3_begin_11 : decode cX3_begin 11 = .ok (.iload_n 2, 1) := by decide +kernel
theorem dX3_begin_12 : decode cX3_begin 12 = .ok (.putfield 19, 3) := by decide +kernel
theorem dX3_begin_15 : decode cX3_begin 15 = .ok (.aload_n 0, 1) := by decide +kernel
theorem dX3_begin_16 : decode cX3_begin 16 = .ok (.iload_n 3, 1) := by decide +kernel
theorem dX3_begin_17 : decode cX3_begin 17 = .ok (.putfield 22, 3) := by decide +kernel
theorem dX3_begin_20 : decode cX3_begin 20 = .ok (.aload_n 0, 1) := by decide +kernel
theorem dX3_begin_21 : decode cX3_begin 21 = .ok (.iconst 0, 1) := by decide +kernel
theorem dX3_begin_22 : decode cX3_begin 22 = .ok (.putfield 25, 3) := by decide +kernel
theorem dX3_begin_25 : decode cX3_begin 25 = .ok (.aload_n 0, 1) := by decide +kernel
theorem dX3_begin_26 : decode cX3_begin 26 = .ok (.iconst 0, 1) := by decide +kernel
theorem dX3_begin_27 : decode cX3_begin 27 = .ok (.putfield 28, 3) := by decide +kernel
theorem dX3_begin_30 : decode cX3_begin 30 = .ok (.aload_n 0, 1) := by decide +kernel
theorem dX3_begin_31 : decode cX3_begin 31 = .ok (.iconst 0, 1) := by decide +kernel
theorem dX3_begin_32 : decode cX3_begin 32 = .ok (.putfield 31, 3) := by decide +kernel
theorem dX3_begin_35 : decode cX3_begin 35 = .ok (.aload_n 0, 1) := by decide +kernel
theorem dX3_begin_36 : decode cX3_begin 36 = .ok (.iconst 0, 1) := by decide +kernel
theorem dX3_begin_37 : decode cX3_begin 37 = .ok (.putfield 34, 3) := by decide +kernel
theorem dX3_begin_40 : decode cX3_begin 40 = .ok (.aload_n 0, 1) := by decide +kernel
theorem dX3_begin_41 : decode cX3_begin 41 = .ok (.iconst 0, 1) := by decide +kernel
theorem dX3_begin_42 : decode cX3_begin 42 = .ok (.putfield 37, 3) := by decide +kernel
theorem dX3_begin_45 : decode cX3_begin 45 = .ok (.aload_n 0, 1) := by decide +kernel
theorem dX3_begin_46 : decode cX3_begin 46 = .ok (.getfield 40, 3) := by decide +kernel
theorem dX3_begin_49 : decode cX3_begin 49 = .ok (.iconst 0, 1) := by decide +kernel
theorem dX3_begin_50 : decode cX3_begin 50 = .ok (.invokestatic 47, 3) := by decide +kernel
theorem dX3_begin_53 : decode cX3_begin 53 = .ok (.aload_n 0, 1) := by decide +kernel
theorem dX3_begin_54 : decode cX3_begin 54 = .ok (.getfield 44, 3) := by decide +kernel
theorem dX3_begin_57 : decode cX3_begin 57 = .ok (.iconst 0, 1) := by decide +kernel
theorem dX3_begin_58 : decode cX3_begin 58 = .ok (.invokestatic 47, 3) := by decide +kernel
theorem dX3_begin_61 : decode cX3_begin 61 = .ok (.return_, 1) := by decide +kernel
theorem dX3_has_0 : decode cX3_has 0 = .ok (.aload_n 0, 1) := by decide +kernel
theorem dX3_has_1 : decode cX3_has 1 = .ok (.getfield 19, 3) := by decide +kernel
theorem dX3_has_4 : decode cX3_has 4 = .ok (.iload_n 1, 1) := by decide +kernel
theorem dX3_has_5 : decode cX3_has 5 = .ok (.iand, 1) := by decide +kernel
theorem dX3_has_6 : decode cX3_has 6 = .ok (.ifCond .eq 7, 3) := by decide +kernel
theorem dX3_has_9 : decode cX3_has 9 = .ok (.iconst 1, 1) := by decide +kernel
theorem dX3_has_10 : decode cX3_has 10 = .ok (.goto 4, 3) := by decide +kernel
theorem dX3_has_13 : decode cX3_has 13 = .ok (.iconst 0, 1) := by decide +kernel
theorem dX3_has_14 : decode cX3_has 14 = .ok (.ireturn, 1) := by decide +kernel
theorem dX3_need_0 : decode cX3_need 0 = .ok (.aload_n 0, 1) := by decide +kernel
theorem dX3_need_1 : decode cX3_need 1 = .ok (.iconst 1, 1) := by decide +kernel
theorem dX3_need_2 : decode cX3_need 2 = .ok (.invokevirtual 53, 3) := by decide +kernel
theorem dX3_need_5 : decode cX3_need 5 = .ok (.ifCond .eq 10, 3) := by decide +kernel
theorem dX3_need_8 : decode cX3_need 8 = .ok (.aload_n 0, 1) := by decide +kernel
theorem dX3_need_9 : decode cX3_need 9 = .ok (.getfield 25, 3) := by decide +kernel
theorem dX3_need_12 : decode cX3_need 12 = .ok (.goto 4, 3) := by decide +kernel
theorem dX3_need_15 : decode cX3_need 15 = .ok (.iconst 0, 1) := by decide +kernel
theorem dX3_need_16 : decode cX3_need 16 = .ok (.aload_n 0, 1) := by decide +kernel
theorem dX3_need_17 : decode cX3_need 17 = .ok (.iconst 2, 1) := by decide +kernel
theorem dX3_need_18 : decode cX3_need 18 = .ok (.invokevirtual 53, 3) := by decide +kernel
theorem dX3_need_21 : decode cX3_need 21 = .ok (.ifCond .eq 10, 3) := by decide +kernel
theorem dX3_need_24 : decode cX3_need 24 = .ok (.aload_n 0, 1) := by decide +kernel
theorem dX3_need_25 : decode cX3_need 25 = .ok (.getfield 28, 3) := by decide +kernel
theorem dX3_need_28 : decode cX3_need 28 = .ok (.goto 4, 3) := by decide +kernel
theorem dX3_need_31 : decode cX3_need 31 = .ok (.iconst 0, 1) := by decide +kernel
theorem dX3_need_32 : decode cX3_need 32 = .ok (.invokestatic 57, 3) := by decide +kernel
theorem dX3_need_35 : decode cX3_need 35 = .ok (.ireturn, 1) := by decide +kernel
theorem dX3_noteWrite_0 : decode cX3_noteWrite 0 = .ok (.aload_n 0, 1) := by decide +kernel
theorem dX3_noteWrite_1 : decode cX3_noteWrite 1 = .ok (.iload_n 2, 1) := by decide +kernel
theorem dX3_noteWrite_2 : decode cX3_noteWrite 2 = .ok (.putfield 25, 3) := by decide +kernel
theorem dX3_noteWrite_5 : decode cX3_noteWrite 5 = .ok (.iload_n 1, 1) := by decide +kernel
theorem dX3_noteWrite_6 : decode cX3_noteWrite 6 = .ok (.invokestatic 63, 3) := by decide +kernel
theorem dX3_noteWrite_9 : decode cX3_noteWrite 9 = .ok (.ifCond .eq 10, 3) := by decide +kernel
theorem dX3_noteWrite_12 : decode cX3_noteWrite 12 = .ok (.aload_n 0, 1) := by decide +kernel
theorem dX3_noteWrite_13 : decode cX3_noteWrite 13 = .ok (.getfield 40, 3) := by decide +kernel
theorem dX3_noteWrite_16 : decode cX3_noteWrite 16 = .ok (.iload_n 1, 1) := by decide +kernel
theorem dX3_noteWrite_17 : decode cX3_noteWrite 17 = .ok (.iload_n 2, 1) := by decide +kernel
theorem dX3_noteWrite_18 : decode cX3_noteWrite 18 = .ok (.iastore, 1) := by decide +kernel
theorem dX3_noteWrite_19 : decode cX3_noteWrite 19 = .ok (.return_, 1) := by decide +kernel
theorem dX3_noteRead_0 : decode cX3_noteRead 0 = .ok (.aload_n 0, 1) := by decide +kernel
theorem dX3_noteRead_1 : decode cX3_noteRead 1 = .ok (.dup, 1) := by decide +kernel
theorem dX3_noteRead_2 : decode cX3_noteRead 2 = .ok (.getfield 31, 3) := by decide +kernel
theorem dX3_noteRead_5 : decode cX3_noteRead 5 = .ok (.iconst 1, 1) := by decide +kernel
theorem dX3_noteRead_6 : decode cX3_noteRead 6 = .ok (.iadd, 1) := by decide +kernel
theorem dX3_noteRead_7 : decode cX3_noteRead 7 = .ok (.putfield 31, 3) := by decide +kernel
theorem dX3_noteRead_10 : decode cX3_noteRead 10 = .ok (.aload_n 0, 1) := by decide +kernel
theorem dX3_noteRead_11 : decode cX3_noteRead 11 = .ok (.aload_n 0, 1) := by decide +kernel
theorem dX3_noteRead_12 : decode cX3_noteRead 12 = .ok (.getfield 28, 3) := by decide +kernel
theorem dX3_noteRead_15 : decode cX3_noteRead 15 = .ok (.iload_n 3, 1) := by decide +kernel
theorem dX3_noteRead_16 : decode cX3_noteRead 16 = .ok (.invokestatic 57, 3) := by decide +kernel
theorem dX3_noteRead_19 : decode cX3_noteRead 19 = .ok (.putfield 28, 3) := by decide +kernel
theorem dX3_noteRead_22 : decode cX3_noteRead 22 = .ok (.iload_n 1, 1) := by decide +kernel
theorem dX3_noteRead_23 : decode cX3_noteRead 23 = .ok (.invokestatic 63, 3) := by decide +kernel
theorem dX3_noteRead_26 : decode cX3_noteRead 26 = .ok (.ifCond .ne 4, 3) := by decide +kernel
theorem dX3_noteRead_29 : decode cX3_noteRead 29 = .ok (.return_, 1) := by decide +kernel
theorem dX3_noteRead_30 : decode cX3_noteRead 30 = .ok (.aload_n 0, 1) := by decide +kernel
theorem dX3_noteRead_31 : decode cX3_noteRead 31 = .ok (.getfield 40, 3) := by decide +kernel
theorem dX3_noteRead_34 : decode cX3_noteRead 34 = .ok (.iload_n 1, 1) := by decide +kernel
theorem dX3_noteRead_35 : decode cX3_noteRead 35 = .ok (.iaload, 1) := by decide +kernel
theorem dX3_noteRead_36 : decode cX3_noteRead 36 = .ok (.iload_n 2, 1) := by decide +kernel
theorem dX3_noteRead_37 : decode cX3_noteRead 37 = .ok (.if_icmp .le 13, 3) := by decide +kernel
theorem dX3_noteRead_40 : decode cX3_noteRead 40 = .ok (.aload_n 0, 1) := by decide +kernel
theorem dX3_noteRead_41 : decode cX3_noteRead 41 = .ok (.dup, 1) := by decide +kernel
theorem dX3_noteRead_42 : decode cX3_noteRead 42 = .ok (.getfield 34, 3) := by decide +kernel
theorem dX3_noteRead_45 : decode cX3_noteRead 45 = .ok (.iconst 1, 1) := by decide +kernel
theorem dX3_noteRead_46 : decode cX3_noteRead 46 = .ok (.iadd, 1) := by decide +kernel
theorem dX3_noteRead_47 : decode cX3_noteRead 47 = .ok (.putfield 34, 3) := by decide +kernel
theorem dX3_noteRead_50 : decode cX3_noteRead 50 = .ok (.aload_n 0, 1) := by decide +kernel
theorem dX3_noteRead_51 : decode cX3_noteRead 51 = .ok (.getfield 44, 3) := by decide +kernel
theorem dX3_noteRead_54 : decode cX3_noteRead 54 = .ok (.iload_n 1, 1) := by decide +kernel
theorem dX3_noteRead_55 : decode cX3_noteRead 55 = .ok (.iaload, 1) := by decide +kernel
theorem dX3_noteRead_56 : decode cX3_noteRead 56 = .ok (.iload_n 2, 1) := by decide +kernel
theorem dX3_noteRead_57 : decode cX3_noteRead 57 = .ok (.if_icmp .le 13, 3) := by decide +kernel
theorem dX3_noteRead_60 : decode cX3_noteRead 60 = .ok (.aload_n 0, 1) := by decide +kernel
theorem dX3_noteRead_61 : decode cX3_noteRead 61 = .ok (.dup, 1) := by decide +kernel
theorem dX3_noteRead_62 : decode cX3_noteRead 62 = .ok (.getfield 37, 3) := by decide +kernel
theorem dX3_noteRead_65 : decode cX3_noteRead 65 = .ok (.iconst 1, 1) := by decide +kernel
theorem dX3_noteRead_66 : decode cX3_noteRead 66 = .ok (.iadd, 1) := by decide +kernel
theorem dX3_noteRead_67 : decode cX3_noteRead 67 = .ok (.putfield 37, 3) := by decide +kernel
theorem dX3_noteRead_70 : decode cX3_noteRead 70 = .ok (.aload_n 0, 1) := by decide +kernel
theorem dX3_noteRead_71 : decode cX3_noteRead 71 = .ok (.getfield 44, 3) := by decide +kernel
theorem dX3_noteRead_74 : decode cX3_noteRead 74 = .ok (.iload_n 1, 1) := by decide +kernel
theorem dX3_noteRead_75 : decode cX3_noteRead 75 = .ok (.aload_n 0, 1) := by decide +kernel
theorem dX3_noteRead_76 : decode cX3_noteRead 76 = .ok (.getfield 44, 3) := by decide +kernel
theorem dX3_noteRead_79 : decode cX3_noteRead 79 = .ok (.iload_n 1, 1) := by decide +kernel
theorem dX3_noteRead_80 : decode cX3_noteRead 80 = .ok (.iaload, 1) := by decide +kernel
theorem dX3_noteRead_81 : decode cX3_noteRead 81 = .ok (.iload_n 2, 1) := by decide +kernel
theorem dX3_noteRead_82 : decode cX3_noteRead 82 = .ok (.invokestatic 57, 3) := by decide +kernel
theorem dX3_noteRead_85 : decode cX3_noteRead 85 = .ok (.iastore, 1) := by decide +kernel
theorem dX3_noteRead_86 : decode cX3_noteRead 86 = .ok (.return_, 1) := by decide +kernel
theorem dX3_copyFrom_0 : decode cX3_copyFrom 0 = .ok (.aload_n 0, 1) := by decide +kernel
theorem dX3_copyFrom_1 : decode cX3_copyFrom 1 = .ok (.aload_n 1, 1) := by decide +kernel
theorem dX3_copyFrom_2 : decode cX3_copyFrom 2 = .ok (.getfield 9, 3) := by decide +kernel
theorem dX3_copyFrom_5 : decode cX3_copyFrom 5 = .ok (.putfield 9, 3) := by decide +kernel
theorem dX3_copyFrom_8 : decode cX3_copyFrom 8 = .ok (.aload_n 0, 1) := by decide +kernel
theorem dX3_copyFrom_9 : decode cX3_copyFrom 9 = .ok (.aload_n 1, 1) := by decide +kernel
theorem dX3_copyFrom_10 : decode cX3_copyFrom 10 = .ok (.getfield 15, 3) := by decide +kernel
theorem dX3_copyFrom_13 : decode cX3_copyFrom 13 = .ok (.putfield 15, 3) := by decide +kernel
theorem dX3_copyFrom_16 : decode cX3_copyFrom 16 = .ok (.aload_n 0, 1) := by decide +kernel
theorem dX3_copyFrom_17 : decode cX3_copyFrom 17 = .ok (.aload_n 1, 1) := by decide +kernel
theorem dX3_copyFrom_18 : decode cX3_copyFrom 18 = .ok (.getfield 19, 3) := by decide +kernel
theorem dX3_copyFrom_21 : decode cX3_copyFrom 21 = .ok (.putfield 19, 3) := by decide +kernel
theorem dX3_copyFrom_24 : decode cX3_copyFrom 24 = .ok (.aload_n 0, 1) := by decide +kernel
theorem dX3_copyFrom_25 : decode cX3_copyFrom 25 = .ok (.aload_n 1, 1) := by decide +kernel
theorem dX3_copyFrom_26 : decode cX3_copyFrom 26 = .ok (.getfield 22, 3) := by decide +kernel
theorem dX3_copyFrom_29 : decode cX3_copyFrom 29 = .ok (.putfield 22, 3) := by decide +kernel
theorem dX3_copyFrom_32 : decode cX3_copyFrom 32 = .ok (.aload_n 0, 1) := by decide +kernel
theorem dX3_copyFrom_33 : decode cX3_copyFrom 33 = .ok (.aload_n 1, 1) := by decide +kernel
theorem dX3_copyFrom_34 : decode cX3_copyFrom 34 = .ok (.getfield 25, 3) := by decide +kernel
theorem dX3_copyFrom_37 : decode cX3_copyFrom 37 = .ok (.putfield 25, 3) := by decide +kernel
theorem dX3_copyFrom_40 : decode cX3_copyFrom 40 = .ok (.aload_n 0, 1) := by decide +kernel
theorem dX3_copyFrom_41 : decode cX3_copyFrom 41 = .ok (.aload_n 1, 1) := by decide +kernel
theorem dX3_copyFrom_42 : decode cX3_copyFrom 42 = .ok (.getfield 28, 3) := by decide +kernel
theorem dX3_copyFrom_45 : decode cX3_copyFrom 45 = .ok (.putfield 28, 3) := by decide +kernel
theorem dX3_copyFrom_48 : decode cX3_copyFrom 48 = .ok (.aload_n 0, 1) := by decide +kernel
theorem dX3_copyFrom_49 : decode cX3_copyFrom 49 = .ok (.aload_n 1, 1) := by decide +kernel
theorem dX3_copyFrom_50 : decode cX3_copyFrom 50 = .ok (.getfield 31, 3) := by decide +kernel
theorem dX3_copyFrom_53 : decode cX3_copyFrom 53 = .ok (.putfield 31, 3) := by decide +kernel
theorem dX3_copyFrom_56 : decode cX3_copyFrom 56 = .ok (.aload_n 0, 1) := by decide +kernel
theorem dX3_copyFrom_57 : decode cX3_copyFrom 57 = .ok (.aload_n 1, 1) := by decide +kernel
theorem dX3_copyFrom_58 : decode cX3_copyFrom 58 = .ok (.getfield 34, 3) := by decide +kernel
theorem dX3_copyFrom_61 : decode cX3_copyFrom 61 = .ok (.putfield 34, 3) := by decide +kernel
theorem dX3_copyFrom_64 : decode cX3_copyFrom 64 = .ok (.aload_n 0, 1) := by decide +kernel
theorem dX3_copyFrom_65 : decode cX3_copyFrom 65 = .ok (.aload_n 1, 1) := by decide +kernel
theorem dX3_copyFrom_66 : decode cX3_copyFrom 66 = .ok (.getfield 37, 3) := by decide +kernel
theorem dX3_copyFrom_69 : decode cX3_copyFrom 69 = .ok (.putfield 37, 3) := by decide +kernel
theorem dX3_copyFrom_72 : decode cX3_copyFrom 72 = .ok (.aload_n 1, 1) := by decide +kernel
theorem dX3_copyFrom_73 : decode cX3_copyFrom 73 = .ok (.getfield 40, 3) := by decide +kernel
theorem dX3_copyFrom_76 : decode cX3_copyFrom 76 = .ok (.iconst 0, 1) := by decide +kernel
theorem dX3_copyFrom_77 : decode cX3_copyFrom 77 = .ok (.aload_n 0, 1) := by decide +kernel
theorem dX3_copyFrom_78 : decode cX3_copyFrom 78 = .ok (.getfield 40, 3) := by decide +kernel
theorem dX3_copyFrom_81 : decode cX3_copyFrom 81 = .ok (.iconst 0, 1) := by decide +kernel
theorem dX3_copyFrom_82 : decode cX3_copyFrom 82 = .ok (.bipush 12, 2) := by decide +kernel
theorem dX3_copyFrom_84 : decode cX3_copyFrom 84 = .ok (.invokestatic 66, 3) := by decide +kernel
theorem dX3_copyFrom_87 : decode cX3_copyFrom 87 = .ok (.aload_n 1, 1) := by decide +kernel
theorem dX3_copyFrom_88 : decode cX3_copyFrom 88 = .ok (.getfield 44, 3) := by decide +kernel
theorem dX3_copyFrom_91 : decode cX3_copyFrom 91 = .ok (.iconst 0, 1) := by decide +kernel
theorem dX3_copyFrom_92 : decode cX3_copyFrom 92 = .ok (.aload_n 0, 1) := by decide +kernel
theorem dX3_copyFrom_93 : decode cX3_copyFrom 93 = .ok (.getfield 44, 3) := by decide +kernel
theorem dX3_copyFrom_96 : decode cX3_copyFrom 96 = .ok (.iconst 0, 1) := by decide +kernel
theorem dX3_copyFrom_97 : decode cX3_copyFrom 97 = .ok (.bipush 12, 2) := by decide +kernel
theorem dX3_copyFrom_99 : decode cX3_copyFrom 99 = .ok (.invokestatic 66, 3) := by decide +kernel
theorem dX3_copyFrom_102 : decode cX3_copyFrom 102 = .ok (.return_, 1) := by decide +kernel
theorem dX4_init_0 : decode cX4_init 0 = .ok (.aload_n 0, 1) := by decide +kernel
theorem dX4_init_1 : decode cX4_init 1 = .ok (.invokespecial 3, 3) := by decide +kernel
theorem dX4_init_4 : decode cX4_init 4 = .ok (.aload_n 0, 1) := by decide +kernel
theorem dX4_init_5 : decode cX4_init 5 = .ok (.new 9, 3) := by decide +kernel
theorem dX4_init_8 : decode cX4_init 8 = .ok (.dup, 1) := by decide +kernel
theorem dX4_init_9 : decode cX4_init 9 = .ok (.invokespecial 11, 3) := by decide +kernel
theorem dX4_init_12 : decode cX4_init 12 = .ok (.putfield 12, 3) := by decide +kernel
theorem dX4_init_15 : decode cX4_init 15 = .ok (.aload_n 0, 1) := by decide +kernel
theorem dX4_init_16 : decode cX4_init 16 = .ok (.iconst 5, 1) := by decide +kernel
theorem dX4_init_17 : decode cX4_init 17 = .ok (.anewarray 18, 3) := by decide +kernel
theorem dX4_init_20 : decode cX4_init 20 = .ok (.putfield 20, 3) := by decide +kernel
theorem dX4_init_23 : decode cX4_init 23 = .ok (.aload_n 0, 1) := by decide +kernel
theorem dX4_init_24 : decode cX4_init 24 = .ok (.bipush 8, 2) := by decide +kernel
theorem dX4_init_26 : decode cX4_init 26 = .ok (.anewarray 24, 3) := by decide +kernel
theorem dX4_init_29 : decode cX4_init 29 = .ok (.putfield 26, 3) := by decide +kernel
theorem dX4_init_32 : decode cX4_init 32 = .ok (.aload_n 0, 1) := by decide +kernel
theorem dX4_init_33 : decode cX4_init 33 = .ok (.iconst 0, 1) := by decide +kernel
theorem dX4_init_34 : decode cX4_init 34 = .ok (.putfield 30, 3) := by decide +kernel
theorem dX4_init_37 : decode cX4_init 37 = .ok (.aload_n 0, 1) := by decide +kernel
theorem dX4_init_38 : decode cX4_init 38 = .ok (.bipush (-6), 2) := by decide +kernel
theorem dX4_init_40 : decode cX4_init 40 = .ok (.putfield 34, 3) := by decide +kernel
theorem dX4_init_43 : decode cX4_init 43 = .ok (.aload_n 0, 1) := by decide +kernel
theorem dX4_init_44 : decode cX4_init 44 = .ok (.iconst 0, 1) := by decide +kernel
theorem dX4_init_45 : decode cX4_init 45 = .ok (.putfield 37, 3) := by decide +kernel
theorem dX4_init_48 : decode cX4_init 48 = .ok (.aload_n 0, 1) := by decide +kernel
theorem dX4_init_49 : decode cX4_init 49 = .ok (.iconst 0, 1) := by decide +kernel
theorem dX4_init_50 : decode cX4_init 50 = .ok (.putfield 40, 3) := by decide +kernel
theorem dX4_init_53 : decode cX4_init 53 = .ok (.iconst 0, 1) := by decide +kernel
theorem dX4_init_54 : decode cX4_init 54 = .ok (.istore_n 1, 1) := by decide +kernel
theorem dX4_init_55 : decode cX4_init 55 = .ok (.iload_n 1, 1) := by decide +kernel
theorem dX4_init_56 : decode cX4_init 56 = .ok (.iconst 5, 1) := by decide +kernel
theorem dX4_init_57 : decode cX4_init 57 = .ok (.if_icmp .ge 22, 3) := by decide +kernel
theorem dX4_init_60 : decode cX4_init 60 = .ok (.aload_n 0, 1) := by decide +kernel
theorem dX4_init_61 : decode cX4_init 61 = .ok (.getfield 20, 3) := by decide +kernel
theorem dX4_init_64 : decode cX4_init 64 = .ok (.iload_n 1, 1) := by decide +kernel
theorem dX4_init_65 : decode cX4_init 65 = .ok (.new 18, 3) := by decide +kernel
theorem dX4_init_68 : decode cX4_init 68 = .ok (.dup, 1) := by decide +kernel
theorem dX4_init_69 : decode cX4_init 69 = .ok (.invokespecial 43, 3) := by decide +kernel
theorem dX4_init_72 : decode cX4_init 72 = .ok (.aastore, 1) := by decide +kernel
theorem dX4_init_73 : decode cX4_init 73 = .ok (.iinc 1 1, 3) := by decide +kernel
theorem dX4_init_76 : decode cX4_init 76 = .ok (.goto (-21), 3) := by decide +kernel
theorem dX4_init_79 : decode cX4_init 79 = .ok (.iconst 0, 1) := by decide +kernel
theorem dX4_init_80 : decode cX4_init 80 = .ok (.istore_n 1, 1) := by decide +kernel
theorem dX4_init_81 : decode cX4_init 81 = .ok (.iload_n 1, 1) := by decide +kernel
theorem dX4_init_82 : decode cX4_init 82 = .ok (.bipush 8, 2) := by decide +kernel
theorem dX4_init_84 : decode cX4_init 84 = .ok (.if_icmp .ge 22, 3) := by decide +kernel
theorem dX4_init_87 : decode cX4_init 87 = .ok (.aload_n 0, 1) := by decide +kernel
theorem dX4_init_88 : decode cX4_init 88 = .ok (.getfield 26, 3) := by decide +kernel
theorem dX4_init_91 : decode cX4_init 91 = .ok (.iload_n 1, 1) := by decide +kernel
theorem dX4_init_92 : decode cX4_init 92 = .ok (.new 24, 3) := by decide +kernel
theorem dX4_init_95 : decode cX4_init 95 = .ok (.dup, 1) := by decide +kernel
theorem dX4_init_96 : decode cX4_init 96 = .ok (.invokespecial 44, 3) := by decide +kernel
theorem dX4_init_99 : decode cX4_init 99 = .ok (.aastore, 1) := by decide +kernel
theorem dX4_init_100 : decode cX4_init 100 = .ok (.iinc 1 1, 3) := by decide +kernel
theorem dX4_init_103 : decode cX4_init 103 = .ok (.goto (-22), 3) := by decide +kernel
theorem dX4_init_106 : decode cX4_init 106 = .ok (.return_, 1) := by decide +kernel
theorem dX4_findReplica_0 : decode cX4_findReplica 0 = .ok (.iload_n 1, 1) := by decide +kernel
theorem dX4_findReplica_1 : decode cX4_findReplica 1 = .ok (.iconst 0, 1) := by decide +kernel
theorem dX4_findReplica_2 : decode cX4_findReplica 2 = .ok (.iconst 4, 1) := by decide +kernel
theorem dX4_findReplica_3 : decode cX4_findReplica 3 = .ok (.invokestatic 45, 3) := by decide +kernel
theorem dX4_findReplica_6 : decode cX4_findReplica 6 = .ok (.ifCond .ne 5, 3) := by decide +kernel
theorem dX4_findReplica_9 : decode cX4_findReplica 9 = .ok (.aconst_null, 1) := by decide +kernel
theorem dX4_findReplica_10 : decode cX4_findReplica 10 = .ok (.areturn, 1) := by decide +kernel
theorem dX4_findReplica_11 : decode cX4_findReplica 11 = .ok (.aload_n 0, 1) := by decide +kernel
theorem dX4_findReplica_12 : decode cX4_findReplica 12 = .ok (.getfield 20, 3) := by decide +kernel
theorem dX4_findReplica_15 : decode cX4_findReplica 15 = .ok (.iload_n 1, 1) := by decide +kernel
theorem dX4_findReplica_16 : decode cX4_findReplica 16 = .ok (.aaload, 1) := by decide +kernel
theorem dX4_findReplica_17 : decode cX4_findReplica 17 = .ok (.astore_n 2, 1) := by decide +kernel
theorem dX4_findReplica_18 : decode cX4_findReplica 18 = .ok (.aload_n 2, 1) := by decide +kernel
theorem dX4_findReplica_19 : decode cX4_findReplica 19 = .ok (.ifnull 14, 3) := by decide +kernel
theorem dX4_findReplica_22 : decode cX4_findReplica 22 = .ok (.aload_n 2, 1) := by decide +kernel
theorem dX4_findReplica_23 : decode cX4_findReplica 23 = .ok (.getfield 49, 3) := by decide +kernel
theorem dX4_findReplica_26 : decode cX4_findReplica 26 = .ok (.ifCond .eq 7, 3) := by decide +kernel
theorem dX4_findReplica_29 : decode cX4_findReplica 29 = .ok (.aload_n 2, 1) := by decide +kernel
theorem dX4_findReplica_30 : decode cX4_findReplica 30 = .ok (.goto 4, 3) := by decide +kernel
theorem dX4_findReplica_33 : decode cX4_findReplica 33 = .ok (.aconst_null, 1) := by decide +kernel
theorem dX4_findReplica_34 : decode cX4_findReplica 34 = .ok (.areturn, 1) := by decide +kernel
theorem dX4_findSession_0 : decode cX4_findSession 0 = .ok (.iload_n 1, 1) := by decide +kernel
theorem dX4_findSession_1 : decode cX4_findSession 1 = .ok (.iconst 0, 1) := by decide +kernel
theorem dX4_findSession_2 : decode cX4_findSession 2 = .ok (.bipush 7, 2) := by decide +kernel
theorem dX4_findSession_4 : decode cX4_findSession 4 = .ok (.invokestatic 45, 3) := by decide +kernel
theorem dX4_findSession_7 : decode cX4_findSession 7 = .ok (.ifCond .ne 5, 3) := by decide +kernel
theorem dX4_findSession_10 : decode cX4_findSession 10 = .ok (.aconst_null, 1) := by decide +kernel
theorem dX4_findSession_11 : decode cX4_findSession 11 = .ok (.areturn, 1) := by decide +kernel
theorem dX4_findSession_12 : decode cX4_findSession 12 = .ok (.aload_n 0, 1) := by decide +kernel
theorem dX4_findSession_13 : decode cX4_findSession 13 = .ok (.getfield 26, 3) := by decide +kernel
theorem dX4_findSession_16 : decode cX4_findSession 16 = .ok (.iload_n 1, 1) := by decide +kernel
theorem dX4_findSession_17 : decode cX4_findSession 17 = .ok (.aaload, 1) := by decide +kernel
theorem dX4_findSession_18 : decode cX4_findSession 18 = .ok (.astore_n 2, 1) := by decide +kernel
theorem dX4_findSession_19 : decode cX4_findSession 19 = .ok (.aload_n 2, 1) := by decide +kernel
theorem dX4_findSession_20 : decode cX4_findSession 20 = .ok (.ifnull 14, 3) := by decide +kernel
theorem dX4_findSession_23 : decode cX4_findSession 23 = .ok (.aload_n 2, 1) := by decide +kernel
theorem dX4_findSession_24 : decode cX4_findSession 24 = .ok (.getfield 53, 3) := by decide +kernel
theorem dX4_findSession_27 : decode cX4_findSession 27 = .ok (.ifCond .eq 7, 3) := by decide +kernel
theorem dX4_findSession_30 : decode cX4_findSession 30 = .ok (.aload_n 2, 1) := by decide +kernel
theorem dX4_findSession_31 : decode cX4_findSession 31 = .ok (.goto 4, 3) := by decide +kernel
theorem dX4_findSession_34 : decode cX4_findSession 34 = .ok (.aconst_null, 1) := by decide +kernel
theorem dX4_findSession_35 : decode cX4_findSession 35 = .ok (.areturn, 1) := by decide +kernel
theorem dX4_takeFreeReplica_0 : decode cX4_takeFreeReplica 0 = .ok (.iconst 0, 1) := by decide +kernel
theorem dX4_takeFreeReplica_1 : decode cX4_takeFreeReplica 1 = .ok (.istore_n 3, 1) := by decide +kernel
theorem dX4_takeFreeReplica_2 : decode cX4_takeFreeReplica 2 = .ok (.iload_n 3, 1) := by decide +kernel
theorem dX4_takeFreeReplica_3 : decode cX4_takeFreeReplica 3 = .ok (.iconst 5, 1) := by decide +kernel
theorem dX4_takeFreeReplica_4 : decode cX4_takeFreeReplica 4 = .ok (.if_icmp .ge 39, 3) := by decide +kernel
theorem dX4_takeFreeReplica_7 : decode cX4_takeFreeReplica 7 = .ok (.aload_n 0, 1) := by decide +kernel
theorem dX4_takeFreeReplica_8 : decode cX4_takeFreeReplica 8 = .ok (.getfield 20, 3) := by decide +kernel
theorem dX4_takeFreeReplica_11 : decode cX4_takeFreeReplica 11 = .ok (.iload_n 3, 1) := by decide +kernel
theorem dX4_takeFreeReplica_12 : decode cX4_takeFreeReplica 12 = .ok (.aaload, 1) := by decide +kernel
theorem dX4_takeFreeReplica_13 : decode cX4_takeFreeReplica 13 = .ok (.astore 4, 2) := by decide +kernel
theorem dX4_takeFreeReplica_15 : decode cX4_takeFreeReplica 15 = .ok (.aload 4, 2) := by decide +kernel
theorem dX4_takeFreeReplica_17 : decode cX4_takeFreeReplica 17 = .ok (.ifnull 20, 3) := by decide +kernel
theorem dX4_takeFreeReplica_20 : decode cX4_takeFreeReplica 20 = .ok (.aload 4, 2) := by decide +kernel
theorem dX4_takeFreeReplica_22 : decode cX4_takeFreeReplica 22 = .ok (.getfield 49, 3) := by decide +kernel
theorem dX4_takeFreeReplica_25 : decode cX4_takeFreeReplica 25 = .ok (.ifCond .ne 12, 3) := by decide +kernel
theorem dX4_takeFreeReplica_28 : decode cX4_takeFreeReplica 28 = .ok (.aload 4, 2) := by decide +kernel
theorem dX4_takeFreeReplica_30 : decode cX4_takeFreeReplica 30 = .ok (.iload_n 1, 1) := by decide +kernel
theorem dX4_takeFreeReplica_31 : decode cX4_takeFreeReplica 31 = .ok (.iload_n 2, 1) := by decide +kernel
theorem dX4_takeFreeReplica_32 : decode cX4_takeFreeReplica 32 = .ok (.invokevirtual 56, 3) := by decide +kernel
theorem dX4_takeFreeReplica_35 : decode cX4_takeFreeReplica 35 = .ok (.iload_n 3, 1) := by decide +kernel
theorem dX4_takeFreeReplica_36 : decode cX4_takeFreeReplica 36 = .ok (.ireturn, 1) := by decide +kernel
theorem dX4_takeFreeReplica_37 : decode cX4_takeFreeReplica 37 = .ok (.iinc 3 1, 3) := by decide +kernel
theorem dX4_takeFreeReplica_40 : decode cX4_takeFreeReplica 40 = .ok (.goto (-38), 3) := by decide +kernel
theorem dX4_takeFreeReplica_43 : decode cX4_takeFreeReplica 43 = .ok (.bipush (-4), 2) := by decide +kernel
theorem dX4_takeFreeReplica_45 : decode cX4_takeFreeReplica 45 = .ok (.ireturn, 1) := by decide +kernel
theorem dX4_takeFreeSession_0 : decode cX4_takeFreeSession 0 = .ok (.iconst 0, 1) := by decide +kernel
theorem dX4_takeFreeSession_1 : decode cX4_takeFreeSession 1 = .ok (.istore 4, 2) := by decide +kernel
theorem dX4_takeFreeSession_3 : decode cX4_takeFreeSession 3 = .ok (.iload 4, 2) := by decide +kernel
theorem dX4_takeFreeSession_5 : decode cX4_takeFreeSession 5 = .ok (.bipush 8, 2) := by decide +kernel
theorem dX4_takeFreeSession_7 : decode cX4_takeFreeSession 7 = .ok (.if_icmp .ge 42, 3) := by decide +kernel
theorem dX4_takeFreeSession_10 : decode cX4_takeFreeSession 10 = .ok (.aload_n 0, 1) := by decide +kernel
theorem dX4_takeFreeSession_11 : decode cX4_takeFreeSession 11 = .ok (.getfield 26, 3) := by decide +kernel
theorem dX4_takeFreeSession_14 : decode cX4_takeFreeSession 14 = .ok (.iload 4, 2) := by decide +kernel
theorem dX4_takeFreeSession_16 : decode cX4_takeFreeSession 16 = .ok (.aaload, 1) := by decide +kernel
theorem dX4_takeFreeSession_17 : decode cX4_takeFreeSession 17 = .ok (.astore 5, 2) := by decide +kernel
theorem dX4_takeFreeSession_19 : decode cX4_takeFreeSession 19 = .ok (.aload 5, 2) := by decide +kernel
theorem dX4_takeFreeSession_21 : decode cX4_takeFreeSession 21 = .ok (.ifnull 22, 3) := by decide +kernel
theorem dX4_takeFreeSession_24 : decode cX4_takeFreeSession 24 = .ok (.aload 5, 2) := by decide +kernel
theorem dX4_takeFreeSession_26 : decode cX4_takeFreeSession 26 = .ok (.getfield 53, 3) := by decide +kernel
theorem dX4_takeFreeSession_29 : decode cX4_takeFreeSession 29 = .ok (.ifCond .ne 14, 3) := by decide +kernel
theorem dX4_takeFreeSession_32 : decode cX4_takeFreeSession 32 = .ok (.aload 5, 2) := by decide +kernel
theorem dX4_takeFreeSession_34 : decode cX4_takeFreeSession 34 = .ok (.iload_n 1, 1) := by decide +kernel
theorem dX4_takeFreeSession_35 : decode cX4_takeFreeSession 35 = .ok (.iload_n 2, 1) := by decide +kernel
theorem dX4_takeFreeSession_36 : decode cX4_takeFreeSession 36 = .ok (.iload_n 3, 1) := by decide +kernel
theorem dX4_takeFreeSession_37 : decode cX4_takeFreeSession 37 = .ok (.invokevirtual 60, 3) := by decide +kernel
theorem dX4_takeFreeSession_40 : decode cX4_takeFreeSession 40 = .ok (.iload 4, 2) := by decide +kernel
theorem dX4_takeFreeSession_42 : decode cX4_takeFreeSession 42 = .ok (.ireturn, 1) := by decide +kernel
theorem dX4_takeFreeSession_43 : decode cX4_takeFreeSession 43 = .ok (.iinc 4 1, 3) := by decide +kernel
theorem dX4_takeFreeSession_46 : decode cX4_takeFreeSession 46 = .ok (.goto (-43), 3) := by decide +kernel
theorem dX4_takeFreeSession_49 : decode cX4_takeFreeSession 49 = .ok (.bipush (-4), 2) := by decide +kernel
theorem dX4_takeFreeSession_51 : decode cX4_takeFreeSession 51 = .ok (.ireturn, 1) := by decide +kernel
theorem dX4_replicaMask_0 : decode cX4_replicaMask 0 = .ok (.iconst 0, 1) := by decide +kernel
theorem dX4_replicaMask_1 : decode cX4_replicaMask 1 = .ok (.istore_n 1, 1) := by decide +kernel
theorem dX4_replicaMask_2 : decode cX4_replicaMask 2 = .ok (.iconst 0, 1) := by decide +kernel
theorem dX4_replicaMask_3 : decode cX4_replicaMask 3 = .ok (.istore_n 2, 1) := by decide +kernel
theorem dX4_replicaMask_4 : decode cX4_replicaMask 4 = .ok (.iload_n 2, 1) := by decide +kernel
theorem dX4_replicaMask_5 : decode cX4_replicaMask 5 = .ok (.iconst 5, 1) := by decide +kernel
theorem dX4_replicaMask_6 : decode cX4_replicaMask 6 = .ok (.if_icmp .ge 23, 3) := by decide +kernel
theorem dX4_replicaMask_9 : decode cX4_replicaMask 9 = .ok (.aload_n 0, 1) := by decide +kernel
theorem dX4_replicaMask_10 : decode cX4_replicaMask 10 = .ok (.iload_n 2, 1) := by decide +kernel
theorem dX4_replicaMask_11 : decode cX4_replicaMask 11 = .ok (.invokevirtual 63, 3) := by decide +kernel
theorem dX4_replicaMask_14 : decode cX4_replicaMask 14 = .ok (.ifnull 9, 3) := by decide +kernel
theorem dX4_replicaMask_17 : decode cX4_replicaMask 17 = .ok (.iload_n 1, 1) := by decide +kernel
theorem dX4_replicaMask_18 : decode cX4_replicaMask 18 = .ok (.iconst 1, 1) := by decide +kernel
theorem dX4_replicaMask_19 : decode cX4_replicaMask 19 = .ok (.iload_n 2, 1) := by decide +kernel
theorem dX4_replicaMask_20 : decode cX4_replicaMask 20 = .ok (.ishl, 1) := by decide +kernel
theorem dX4_replicaMask_21 : decode cX4_replicaMask 21 = .ok (.ior, 1) := by decide +kernel
theorem dX4_replicaMask_22 : decode cX4_replicaMask 22 = .ok (.istore_n 1, 1) := by decide +kernel
theorem dX4_replicaMask_23 : decode cX4_replicaMask 23 = .ok (.iinc 2 1, 3) := by decide +kernel
theorem dX4_replicaMask_26 : decode cX4_replicaMask 26 = .ok (.goto (-22), 3) := by decide +kernel
theorem dX4_replicaMask_29 : decode cX4_replicaMask 29 = .ok (.iload_n 1, 1) := by decide +kernel
theorem dX4_replicaMask_30 : decode cX4_replicaMask 30 = .ok (.ireturn, 1) := by decide +kernel
theorem dX4_sessionMask_0 : decode cX4_sessionMask 0 = .ok (.iconst 0, 1) := by decide +kernel
theorem dX4_sessionMask_1 : decode cX4_sessionMask 1 = .ok (.istore_n 1, 1) := by decide +kernel
theorem dX4_sessionMask_2 : decode cX4_sessionMask 2 = .ok (.iconst 0, 1) := by decide +kernel
theorem dX4_sessionMask_3 : decode cX4_sessionMask 3 = .ok (.istore_n 2, 1) := by decide +kernel
theorem dX4_sessionMask_4 : decode cX4_sessionMask 4 = .ok (.iload_n 2, 1) := by decide +kernel
theorem dX4_sessionMask_5 : decode cX4_sessionMask 5 = .ok (.bipush 8, 2) := by decide +kernel
theorem dX4_sessionMask_7 : decode cX4_sessionMask 7 = .ok (.if_icmp .ge 23, 3) := by decide +kernel
theorem dX4_sessionMask_10 : decode cX4_sessionMask 10 = .ok (.aload_n 0, 1) := by decide +kernel
theorem dX4_sessionMask_11 : decode cX4_sessionMask 11 = .ok (.iload_n 2, 1) := by decide +kernel
theorem dX4_sessionMask_12 : decode cX4_sessionMask 12 = .ok (.invokevirtual 67, 3) := by decide +kernel
theorem dX4_sessionMask_15 : decode cX4_sessionMask 15 = .ok (.ifnull 9, 3) := by decide +kernel
theorem dX4_sessionMask_18 : decode cX4_sessionMask 18 = .ok (.iload_n 1, 1) := by decide +kernel
theorem dX4_sessionMask_19 : decode cX4_sessionMask 19 = .ok (.iconst 1, 1) := by decide +kernel
theorem dX4_sessionMask_20 : decode cX4_sessionMask 20 = .ok (.iload_n 2, 1) := by decide +kernel
theorem dX4_sessionMask_21 : decode cX4_sessionMask 21 = .ok (.ishl, 1) := by decide +kernel
theorem dX4_sessionMask_22 : decode cX4_sessionMask 22 = .ok (.ior, 1) := by decide +kernel
theorem dX4_sessionMask_23 : decode cX4_sessionMask 23 = .ok (.istore_n 1, 1) := by decide +kernel
theorem dX4_sessionMask_24 : decode cX4_sessionMask 24 = .ok (.iinc 2 1, 3) := by decide +kernel
theorem dX4_sessionMask_27 : decode cX4_sessionMask 27 = .ok (.goto (-23), 3) := by decide +kernel
theorem dX4_sessionMask_30 : decode cX4_sessionMask 30 = .ok (.iload_n 1, 1) := by decide +kernel
theorem dX4_sessionMask_31 : decode cX4_sessionMask 31 = .ok (.ireturn, 1) := by decide +kernel
theorem dX4_countSessionsAt_0 : decode cX4_countSessionsAt 0 = .ok (.iconst 0, 1) := by decide +kernel
theorem dX4_countSessionsAt_1 : decode cX4_countSessionsAt 1 = .ok (.istore_n 2, 1) := by decide +kernel
theorem dX4_countSessionsAt_2 : decode cX4_countSessionsAt 2 = .ok (.iconst 0, 1) := by decide +kernel
theorem dX4_countSessionsAt_3 : decode cX4_countSessionsAt 3 = .ok (.istore_n 3, 1) := by decide +kernel
theorem dX4_countSessionsAt_4 : decode cX4_countSessionsAt 4 = .ok (.iload_n 3, 1) := by decide +kernel
theorem dX4_countSessionsAt_5 : decode cX4_countSessionsAt 5 = .ok (.bipush 8, 2) := by decide +kernel
theorem dX4_countSessionsAt_7 : decode cX4_countSessionsAt 7 = .ok (.if_icmp .ge 33, 3) := by decide +kernel
theorem dX4_countSessionsAt_10 : decode cX4_countSessionsAt 10 = .ok (.aload_n 0, 1) := by decide +kernel
theorem dX4_countSessionsAt_11 : decode cX4_countSessionsAt 11 = .ok (.iload_n 3, 1) := by decide +kernel
theorem dX4_countSessionsAt_12 : decode cX4_countSessionsAt 12 = .ok (.invokevirtual 67, 3) := by decide +kernel
theorem dX4_countSessionsAt_15 : decode cX4_countSessionsAt 15 = .ok (.astore 4, 2) := by decide +kernel
theorem dX4_countSessionsAt_17 : decode cX4_countSessionsAt 17 = .ok (.aload 4, 2) := by decide +kernel
theorem dX4_countSessionsAt_19 : decode cX4_countSessionsAt 19 = .ok (.ifnull 15, 3) := by decide +kernel
theorem dX4_countSessionsAt_22 : decode cX4_countSessionsAt 22 = .ok (.aload 4, 2) := by decide +kernel
theorem dX4_countSessionsAt_24 : decode cX4_countSessionsAt 24 = .ok (.getfield 71, 3) := by decide +kernel
theorem dX4_countSessionsAt_27 : decode cX4_countSessionsAt 27 = .ok (.iload_n 1, 1) := by decide +kernel
theorem dX4_countSessionsAt_28 : decode cX4_countSessionsAt 28 = .ok (.if_icmp .ne 6, 3) := by decide +kernel
theorem dX4_countSessionsAt_31 : decode cX4_countSessionsAt 31 = .ok (.iinc 2 1, 3) := by decide +kernel
theorem dX4_countSessionsAt_34 : decode cX4_countSessionsAt 34 = .ok (.iinc 3 1, 3) := by decide +kernel
theorem dX4_countSessionsAt_37 : decode cX4_countSessionsAt 37 = .ok (.goto (-33), 3) := by decide +kernel
theorem dX4_countSessionsAt_40 : decode cX4_countSessionsAt 40 = .ok (.iload_n 2, 1) := by decide +kernel
theorem dX4_countSessionsAt_41 : decode cX4_countSessionsAt 41 = .ok (.ireturn, 1) := by decide +kernel
theorem dX4_sendSessionsToPrimary_0 : decode cX4_sendSessionsToPrimary 0 = .ok (.iconst 0, 1) := by decide +kernel
theorem dX4_sendSessionsToPrimary_1 : decode cX4_sendSessionsToPrimary 1 = .ok (.istore_n 2, 1) := by decide +kernel
theorem dX4_sendSessionsToPrimary_2 : decode cX4_sendSessionsToPrimary 2 = .ok (.iconst 0, 1) := by decide +kernel
theorem dX4_sendSessionsToPrimary_3 : decode cX4_sendSessionsToPrimary 3 = .ok (.istore_n 3, 1) := by decide +kernel
theorem dX4_sendSessionsToPrimary_4 : decode cX4_sendSessionsToPrimary 4 = .ok (.iload_n 3, 1) := by decide +kernel
theorem dX4_sendSessionsToPrimary_5 : decode cX4_sendSessionsToPrimary 5 = .ok (.bipush 8, 2) := by decide +kernel
theorem dX4_sendSessionsToPrimary_7 : decode cX4_sendSessionsToPrimary 7 = .ok (.if_icmp .ge 40, 3) := by decide +kernel
theorem dX4_sendSessionsToPrimary_10 : decode cX4_sendSessionsToPrimary 10 = .ok (.aload_n 0, 1) := by decide +kernel
theorem dX4_sendSessionsToPrimary_11 : decode cX4_sendSessionsToPrimary 11 = .ok (.iload_n 3, 1) := by decide +kernel
theorem dX4_sendSessionsToPrimary_12 : decode cX4_sendSessionsToPrimary 12 = .ok (.invokevirtual 67, 3) := by decide +kernel
theorem dX4_sendSessionsToPrimary_15 : decode cX4_sendSessionsToPrimary 15 = .ok (.astore 4, 2) := by decide +kernel
theorem dX4_sendSessionsToPrimary_17 : decode cX4_sendSessionsToPrimary 17 = .ok (.aload 4, 2) := by decide +kernel
theorem dX4_sendSessionsToPrimary_19 : decode cX4_sendSessionsToPrimary 19 = .ok (.ifnull 22, 3) := by decide +kernel
theorem dX4_sendSessionsToPrimary_22 : decode cX4_sendSessionsToPrimary 22 = .ok (.aload 4, 2) := by decide +kernel
theorem dX4_sendSessionsToPrimary_24 : decode cX4_sendSessionsToPrimary 24 = .ok (.getfield 71, 3) := by decide +kernel
theorem dX4_sendSessionsToPrimary_27 : decode cX4_sendSessionsToPrimary 27 = .ok (.iload_n 1, 1) := by decide +kernel
theorem dX4_sendSessionsToPrimary_28 : decode cX4_sendSessionsToPrimary 28 = .ok (.if_icmp .ne 13, 3) := by decide +kernel
theorem dX4_sendSessionsToPrimary_31 : decode cX4_sendSessionsToPrimary 31 = .ok (.aload 4, 2) := by decide +kernel
theorem dX4_sendSessionsToPrimary_33 : decode cX4_sendSessionsToPrimary 33 = .ok (.bipush 9, 2) := by decide +kernel
theorem dX4_sendSessionsToPrimary_35 : decode cX4_sendSessionsToPrimary 35 = .ok (.putfield 71, 3) := by decide +kernel
theorem dX4_sendSessionsToPrimary_38 : decode cX4_sendSessionsToPrimary 38 = .ok (.iinc 2 1, 3) := by decide +kernel
theorem dX4_sendSessionsToPrimary_41 : decode cX4_sendSessionsToPrimary 41 = .ok (.iinc 3 1, 3) := by decide +kernel
theorem dX4_sendSessionsToPrimary_44 : decode cX4_sendSessionsToPrimary 44 = .ok (.goto (-40), 3) := by decide +kernel
theorem dX4_sendSessionsToPrimary_47 : decode cX4_sendSessionsToPrimary 47 = .ok (.iload_n 2, 1) := by decide +kernel
theorem dX4_sendSessionsToPrimary_48 : decode cX4_sendSessionsToPrimary 48 = .ok (.ireturn, 1) := by decide +kernel
theorem dX4_hasPlace_0 : decode cX4_hasPlace 0 = .ok (.iload_n 1, 1) := by decide +kernel
theorem dX4_hasPlace_1 : decode cX4_hasPlace 1 = .ok (.bipush 9, 2) := by decide +kernel
theorem dX4_hasPlace_3 : decode cX4_hasPlace 3 = .ok (.if_icmp .eq 11, 3) := by decide +kernel
theorem dX4_hasPlace_6 : decode cX4_hasPlace 6 = .ok (.aload_n 0, 1) := by decide +kernel
theorem dX4_hasPlace_7 : decode cX4_hasPlace 7 = .ok (.iload_n 1, 1) := by decide +kernel
theorem dX4_hasPlace_8 : decode cX4_hasPlace 8 = .ok (.invokevirtual 63, 3) := by decide +kernel
theorem dX4_hasPlace_11 : decode cX4_hasPlace 11 = .ok (.ifnull 7, 3) := by decide +kernel
theorem dX4_hasPlace_14 : decode cX4_hasPlace 14 = .ok (.iconst 1, 1) := by decide +kernel
theorem dX4_hasPlace_15 : decode cX4_hasPlace 15 = .ok (.goto 4, 3) := by decide +kernel
theorem dX4_hasPlace_18 : decode cX4_hasPlace 18 = .ok (.iconst 0, 1) := by decide +kernel
theorem dX4_hasPlace_19 : decode cX4_hasPlace 19 = .ok (.ireturn, 1) := by decide +kernel
theorem dX4_positionOf_0 : decode cX4_positionOf 0 = .ok (.iload_n 1, 1) := by decide +kernel
theorem dX4_positionOf_1 : decode cX4_positionOf 1 = .ok (.bipush 9, 2) := by decide +kernel
theorem dX4_positionOf_3 : decode cX4_positionOf 3 = .ok (.if_icmp .ne 11, 3) := by decide +kernel
theorem dX4_positionOf_6 : decode cX4_positionOf 6 = .ok (.aload_n 0, 1) := by decide +kernel
theorem dX4_positionOf_7 : decode cX4_positionOf 7 = .ok (.getfield 12, 3) := by decide +kernel
theorem dX4_positionOf_10 : decode cX4_positionOf 10 = .ok (.getfield 74, 3) := by decide +kernel
theorem dX4_positionOf_13 : decode cX4_positionOf 13 = .ok (.ireturn, 1) := by decide +kernel
theorem dX4_positionOf_14 : decode cX4_positionOf 14 = .ok (.aload_n 0, 1) := by decide +kernel
theorem dX4_positionOf_15 : decode cX4_positionOf 15 = .ok (.iload_n 1, 1) := by decide +kernel
theorem dX4_positionOf_16 : decode cX4_positionOf 16 = .ok (.invokevirtual 63, 3) := by decide +kernel
theorem dX4_positionOf_19 : decode cX4_positionOf 19 = .ok (.astore_n 2, 1) := by decide +kernel
theorem dX4_positionOf_20 : decode cX4_positionOf 20 = .ok (.aload_n 2, 1) := by decide +kernel
theorem dX4_positionOf_21 : decode cX4_positionOf 21 = .ok (.ifnonnull 7, 3) := by decide +kernel
theorem dX4_positionOf_24 : decode cX4_positionOf 24 = .ok (.iconst (-1), 1) := by decide +kernel
theorem dX4_positionOf_25 : decode cX4_positionOf 25 = .ok (.goto 7, 3) := by decide +kernel
theorem dX4_positionOf_28 : decode cX4_positionOf 28 = .ok (.aload_n 2, 1) := by decide +kernel
theorem dX4_positionOf_29 : decode cX4_positionOf 29 = .ok (.getfield 77, 3) := by decide +kernel
theorem dX4_positionOf_32 : decode cX4_positionOf 32 = .ok (.ireturn, 1) := by decide +kernel
theorem dX4_passTicks_0 : decode cX4_passTicks 0 = .ok (.iconst 0, 1) := by decide +kernel
theorem dX4_passTicks_1 : decode cX4_passTicks 1 = .ok (.istore_n 2, 1) := by decide +kernel
theorem dX4_passTicks_2 : decode cX4_passTicks 2 = .ok (.iload_n 2, 1) := by decide +kernel
theorem dX4_passTicks_3 : decode cX4_passTicks 3 = .ok (.iconst 5, 1) := by decide +kernel
theorem dX4_passTicks_4 : decode cX4_passTicks 4 = .ok (.if_icmp .ge 31, 3) := by decide +kernel
theorem dX4_passTicks_7 : decode cX4_passTicks 7 = .ok (.aload_n 0, 1) := by decide +kernel
theorem dX4_passTicks_8 : decode cX4_passTicks 8 = .ok (.iload_n 2, 1) := by decide +kernel
theorem dX4_passTicks_9 : decode cX4_passTicks 9 = .ok (.invokevirtual 63, 3) := by decide +kernel
theorem dX4_passTicks_12 : decode cX4_passTicks 12 = .ok (.astore_n 3, 1) := by decide +kernel
theorem dX4_passTicks_13 : decode cX4_passTicks 13 = .ok (.aload_n 3, 1) := by decide +kernel
theorem dX4_passTicks_14 : decode cX4_passTicks 14 = .ok (.ifnull 15, 3) := by decide +kernel
theorem dX4_passTicks_17 : decode cX4_passTicks 17 = .ok (.aload_n 3, 1) := by decide +kernel
theorem dX4_passTicks_18 : decode cX4_passTicks 18 = .ok (.iload_n 1, 1) := by decide +kernel
theorem dX4_passTicks_19 : decode cX4_passTicks 19 = .ok (.aload_n 0, 1) := by decide +kernel
theorem dX4_passTicks_20 : decode cX4_passTicks 20 = .ok (.getfield 12, 3) := by decide +kernel
theorem dX4_passTicks_23 : decode cX4_passTicks 23 = .ok (.getfield 74, 3) := by decide +kernel
theorem dX4_passTicks_26 : decode cX4_passTicks 26 = .ok (.invokevirtual 80, 3) := by decide +kernel
theorem dX4_passTicks_29 : decode cX4_passTicks 29 = .ok (.iinc 2 1, 3) := by decide +kernel
theorem dX4_passTicks_32 : decode cX4_passTicks 32 = .ok (.goto (-30), 3) := by decide +kernel
theorem dX4_passTicks_35 : decode cX4_passTicks 35 = .ok (.return_, 1) := by decide +kernel
theorem dX4_countCaughtUp_0 : decode cX4_countCaughtUp 0 = .ok (.iconst 0, 1) := by decide +kernel
theorem dX4_countCaughtUp_1 : decode cX4_countCaughtUp 1 = .ok (.istore_n 1, 1) := by decide +kernel
theorem dX4_countCaughtUp_2 : decode cX4_countCaughtUp 2 = .ok (.iconst 0, 1) := by decide +kernel
theorem dX4_countCaughtUp_3 : decode cX4_countCaughtUp 3 = .ok (.istore_n 2, 1) := by decide +kernel
theorem dX4_countCaughtUp_4 : decode cX4_countCaughtUp 4 = .ok (.iload_n 2, 1) := by decide +kernel
theorem dX4_countCaughtUp_5 : decode cX4_countCaughtUp 5 = .ok (.iconst 5, 1) := by decide +kernel
theorem dX4_countCaughtUp_6 : decode cX4_countCaughtUp 6 = .ok (.if_icmp .ge 36, 3) := by decide +kernel
theorem dX4_countCaughtUp_9 : decode cX4_countCaughtUp 9 = .ok (.aload_n 0, 1) := by decide +kernel
theorem dX4_countCaughtUp_10 : decode cX4_countCaughtUp 10 = .ok (.iload_n 2, 1) := by decide +kernel
theorem dX4_countCaughtUp_11 : decode cX4_countCaughtUp 11 = .ok (.invokevirtual 63, 3) := by decide +kernel
theorem dX4_countCaughtUp_14 : decode cX4_countCaughtUp 14 = .ok (.astore_n 3, 1) := by decide +kernel
theorem dX4_countCaughtUp_15 : decode cX4_countCaughtUp 15 = .ok (.aload_n 3, 1) := by decide +kernel
theorem dX4_countCaughtUp_16 : decode cX4_countCaughtUp 16 = .ok (.ifnull 20, 3) := by decide +kernel
theorem dX4_countCaughtUp_19 : decode cX4_countCaughtUp 19 = .ok (.aload_n 3, 1) := by decide +kernel
theorem dX4_countCaughtUp_20 : decode cX4_countCaughtUp 20 = .ok (.getfield 77, 3) := by decide +kernel
theorem dX4_countCaughtUp_23 : decode cX4_countCaughtUp 23 = .ok (.aload_n 0, 1) := by decide +kernel
theorem dX4_countCaughtUp_24 : decode cX4_countCaughtUp 24 = .ok (.getfield 12, 3) := by decide +kernel
theorem dX4_countCaughtUp_27 : decode cX4_countCaughtUp 27 = .ok (.getfield 74, 3) := by decide +kernel
theorem dX4_countCaughtUp_30 : decode cX4_countCaughtUp 30 = .ok (.if_icmp .ne 6, 3) := by decide +kernel
theorem dX4_countCaughtUp_33 : decode cX4_countCaughtUp 33 = .ok (.iinc 1 1, 3) := by decide +kernel
theorem dX4_countCaughtUp_36 : decode cX4_countCaughtUp 36 = .ok (.iinc 2 1, 3) := by decide +kernel
theorem dX4_countCaughtUp_39 : decode cX4_countCaughtUp 39 = .ok (.goto (-35), 3) := by decide +kernel
theorem dX4_countCaughtUp_42 : decode cX4_countCaughtUp 42 = .ok (.iload_n 1, 1) := by decide +kernel
theorem dX4_countCaughtUp_43 : decode cX4_countCaughtUp 43 = .ok (.ireturn, 1) := by decide +kernel
theorem dX4_neededPosition_0 : decode cX4_neededPosition 0 = .ok (.aload_n 1, 1) := by decide +kernel
theorem dX4_neededPosition_1 : decode cX4_neededPosition 1 = .ok (.invokevirtual 83, 3) := by decide +kernel
theorem dX4_neededPosition_4 : decode cX4_neededPosition 4 = .ok (.istore_n 3, 1) := by decide +kernel
theorem dX4_neededPosition_5 : decode cX4_neededPosition 5 = .ok (.aload_n 1, 1) := by decide +kernel
theorem dX4_neededPosition_6 : decode cX4_neededPosition 6 = .ok (.iconst 4, 1) := by decide +kernel
theorem dX4_neededPosition_7 : decode cX4_neededPosition 7 = .ok (.invokevirtual 87, 3) := by decide +kernel
theorem dX4_neededPosition_10 : decode cX4_neededPosition 10 = .ok (.ifCond .eq 15, 3) := by decide +kernel
theorem dX4_neededPosition_13 : decode cX4_neededPosition 13 = .ok (.aload_n 0, 1) := by decide +kernel
theorem dX4_neededPosition_14 : decode cX4_neededPosition 14 = .ok (.getfield 12, 3) := by decide +kernel
theorem dX4_neededPosition_17 : decode cX4_neededPosition 17 = .ok (.iload_n 3, 1) := by decide +kernel
theorem dX4_neededPosition_18 : decode cX4_neededPosition 18 = .ok (.iload_n 2, 1) := by decide +kernel
theorem dX4_neededPosition_19 : decode cX4_neededPosition 19 = .ok (.invokevirtual 91, 3) := by decide +kernel
theorem dX4_neededPosition_22 : decode cX4_neededPosition 22 = .ok (.goto 4, 3) := by decide +kernel
theorem dX4_neededPosition_25 : decode cX4_neededPosition 25 = .ok (.iload_n 3, 1) := by decide +kernel
theorem dX4_neededPosition_26 : decode cX4_neededPosition 26 = .ok (.ireturn, 1) := by decide +kernel
theorem dX4_waitOf_0 : decode cX4_waitOf 0 = .ok (.iload_n 3, 1) := by decide +kernel
theorem dX4_waitOf_1 : decode cX4_waitOf 1 = .ok (.bipush 9, 2) := by decide +kernel
theorem dX4_waitOf_3 : decode cX4_waitOf 3 = .ok (.if_icmp .ne 5, 3) := by decide +kernel
theorem dX4_waitOf_6 : decode cX4_waitOf 6 = .ok (.iconst 0, 1) := by decide +kernel
theorem dX4_waitOf_7 : decode cX4_waitOf 7 = .ok (.ireturn, 1) := by decide +kernel
theorem dX4_waitOf_8 : decode cX4_waitOf 8 = .ok (.aload_n 0, 1) := by decide +kernel
theorem dX4_waitOf_9 : decode cX4_waitOf 9 = .ok (.iload_n 3, 1) := by decide +kernel
theorem dX4_waitOf_10 : decode cX4_waitOf 10 = .ok (.invokevirtual 63, 3) := by decide +kernel
theorem dX4_waitOf_13 : decode cX4_waitOf 13 = .ok (.astore 4, 2) := by decide +kernel
theorem dX4_waitOf_15 : decode cX4_waitOf 15 = .ok (.aload 4, 2) := by decide +kernel
theorem dX4_waitOf_17 : decode cX4_waitOf 17 = .ok (.ifnonnull 8, 3) := by decide +kernel
theorem dX4_waitOf_20 : decode cX4_waitOf 20 = .ok (.bipush (-6), 2) := by decide +kernel
theorem dX4_waitOf_22 : decode cX4_waitOf 22 = .ok (.goto 14, 3) := by decide +kernel
theorem dX4_waitOf_25 : decode cX4_waitOf 25 = .ok (.aload 4, 2) := by decide +kernel
theorem dX4_waitOf_27 : decode cX4_waitOf 27 = .ok (.aload_n 0, 1) := by decide +kernel
theorem dX4_waitOf_28 : decode cX4_waitOf 28 = .ok (.aload_n 1, 1) := by decide +kernel
theorem dX4_waitOf_29 : decode cX4_waitOf 29 = .ok (.iload_n 2, 1) := by decide +kernel
theorem dX4_waitOf_30 : decode cX4_waitOf 30 = .ok (.invokevirtual 95, 3) := by decide +kernel
theorem dX4_waitOf_33 : decode cX4_waitOf 33 = .ok (.invokevirtual 99, 3) := by decide +kernel
theorem dX4_waitOf_36 : decode cX4_waitOf 36 = .ok (.ireturn, 1) := by decide +kernel
theorem dX4_answer_0 : decode cX4_answer 0 = .ok (.aload_n 0, 1) := by decide +kernel
theorem dX4_answer_1 : decode cX4_answer 1 = .ok (.iload_n 3, 1) := by decide +kernel
theorem dX4_answer_2 : decode cX4_answer 2 = .ok (.invokevirtual 103, 3) := by decide +kernel
theorem dX4_answer_5 : decode cX4_answer 5 = .ok (.istore 5, 2) := by decide +kernel
theorem dX4_answer_7 : decode cX4_answer 7 = .ok (.aload_n 0, 1) := by decide +kernel
theorem dX4_answer_8 : decode cX4_answer 8 = .ok (.getfield 12, 3) := by decide +kernel
theorem dX4_answer_11 : decode cX4_answer 11 = .ok (.iload 5, 2) := by decide +kernel
theorem dX4_answer_13 : decode cX4_answer 13 = .ok (.iload_n 2, 1) := by decide +kernel
theorem dX4_answer_14 : decode cX4_answer 14 = .ok (.invokevirtual 91, 3) := by decide +kernel
theorem dX4_answer_17 : decode cX4_answer 17 = .ok (.istore 6, 2) := by decide +kernel
theorem dX4_answer_19 : decode cX4_answer 19 = .ok (.aload_n 1, 1) := by decide +kernel
theorem dX4_answer_20 : decode cX4_answer 20 = .ok (.iload_n 2, 1) := by decide +kernel
theorem dX4_answer_21 : decode cX4_answer 21 = .ok (.iload 6, 2) := by decide +kernel
theorem dX4_answer_23 : decode cX4_answer 23 = .ok (.iload 5, 2) := by decide +kernel
theorem dX4_answer_25 : decode cX4_answer 25 = .ok (.invokevirtual 106, 3) := by decide +kernel
theorem dX4_answer_28 : decode cX4_answer 28 = .ok (.aload_n 0, 1) := by decide +kernel
theorem dX4_answer_29 : decode cX4_answer 29 = .ok (.iload_n 3, 1) := by decide +kernel
theorem dX4_answer_30 : decode cX4_answer 30 = .ok (.invokevirtual 109, 3) := by decide +kernel
theorem dX4_answer_33 : decode cX4_answer 33 = .ok (.aload_n 0, 1) := by decide +kernel
theorem dX4_answer_34 : decode cX4_answer 34 = .ok (.iload_n 3, 1) := by decide +kernel
theorem dX4_answer_35 : decode cX4_answer 35 = .ok (.putfield 34, 3) := by decide +kernel
theorem dX4_answer_38 : decode cX4_answer 38 = .ok (.aload_n 0, 1) := by decide +kernel
theorem dX4_answer_39 : decode cX4_answer 39 = .ok (.iload 6, 2) := by decide +kernel
theorem dX4_answer_41 : decode cX4_answer 41 = .ok (.putfield 37, 3) := by decide +kernel
theorem dX4_answer_44 : decode cX4_answer 44 = .ok (.aload_n 0, 1) := by decide +kernel
theorem dX4_answer_45 : decode cX4_answer 45 = .ok (.iload 4, 2) := by decide +kernel
theorem dX4_answer_47 : decode cX4_answer 47 = .ok (.putfield 40, 3) := by decide +kernel
theorem dX4_answer_50 : decode cX4_answer 50 = .ok (.aload_n 0, 1) := by decide +kernel
theorem dX4_answer_51 : decode cX4_answer 51 = .ok (.getfield 12, 3) := by decide +kernel
theorem dX4_answer_54 : decode cX4_answer 54 = .ok (.iload 6, 2) := by decide +kernel
theorem dX4_answer_56 : decode cX4_answer 56 = .ok (.invokevirtual 113, 3) := by decide +kernel
theorem dX4_answer_59 : decode cX4_answer 59 = .ok (.ireturn, 1) := by decide +kernel
theorem dX4_countAnswer_0 : decode cX4_countAnswer 0 = .ok (.aload_n 0, 1) := by decide +kernel
theorem dX4_countAnswer_1 : decode cX4_countAnswer 1 = .ok (.iload_n 1, 1) := by decide +kernel
theorem dX4_countAnswer_2 : decode cX4_countAnswer 2 = .ok (.invokevirtual 63, 3) := by decide +kernel
theorem dX4_countAnswer_5 : decode cX4_countAnswer 5 = .ok (.astore_n 2, 1) := by decide +kernel
theorem dX4_countAnswer_6 : decode cX4_countAnswer 6 = .ok (.aload_n 2, 1) := by decide +kernel
theorem dX4_countAnswer_7 : decode cX4_countAnswer 7 = .ok (.ifnonnull 16, 3) := by decide +kernel
theorem dX4_countAnswer_10 : decode cX4_countAnswer 10 = .ok (.aload_n 0, 1) := by decide +kernel
theorem dX4_countAnswer_11 : decode cX4_countAnswer 11 = .ok (.dup, 1) := by decide +kernel
theorem dX4_countAnswer_12 : decode cX4_countAnswer 12 = .ok (.getfield 30, 3) := by decide +kernel
theorem dX4_countAnswer_15 : decode cX4_countAnswer 15 = .ok (.iconst 1, 1) := by decide +kernel
theorem dX4_countAnswer_16 : decode cX4_countAnswer 16 = .ok (.iadd, 1) := by decide +kernel
theorem dX4_countAnswer_17 : decode cX4_countAnswer 17 = .ok (.putfield 30, 3) := by decide +kernel
theorem dX4_countAnswer_20 : decode cX4_countAnswer 20 = .ok (.goto 13, 3) := by decide +kernel
theorem dX4_countAnswer_23 : decode cX4_countAnswer 23 = .ok (.aload_n 2, 1) := by decide +kernel
theorem dX4_countAnswer_24 : decode cX4_countAnswer 24 = .ok (.dup, 1) := by decide +kernel
theorem dX4_countAnswer_25 : decode cX4_countAnswer 25 = .ok (.getfield 116, 3) := by decide +kernel
theorem dX4_countAnswer_28 : decode cX4_countAnswer 28 = .ok (.iconst 1, 1) := by decide +kernel
theorem dX4_countAnswer_29 : decode cX4_countAnswer 29 = .ok (.iadd, 1) := by decide +kernel
theorem dX4_countAnswer_30 : decode cX4_countAnswer 30 = .ok (.putfield 116, 3) := by decide +kernel
theorem dX4_countAnswer_33 : decode cX4_countAnswer 33 = .ok (.return_, 1) := by decide +kernel
theorem dX4_copyFrom_0 : decode cX4_copyFrom 0 = .ok (.aload_n 0, 1) := by decide +kernel
theorem dX4_copyFrom_1 : decode cX4_copyFrom 1 = .ok (.getfield 12, 3) := by decide +kernel
theorem dX4_copyFrom_4 : decode cX4_copyFrom 4 = .ok (.aload_n 1, 1) := by decide +kernel
theorem dX4_copyFrom_5 : decode cX4_copyFrom 5 = .ok (.getfield 12, 3) := by decide +kernel
theorem dX4_copyFrom_8 : decode cX4_copyFrom 8 = .ok (.invokevirtual 119, 3) := by decide +kernel
theorem dX4_copyFrom_11 : decode cX4_copyFrom 11 = .ok (.iconst 0, 1) := by decide +kernel
theorem dX4_copyFrom_12 : decode cX4_copyFrom 12 = .ok (.istore_n 2, 1) := by decide +kernel
theorem dX4_copyFrom_13 : decode cX4_copyFrom 13 = .ok (.iload_n 2, 1) := by decide +kernel
theorem dX4_copyFrom_14 : decode cX4_copyFrom 14 = .ok (.iconst 5, 1) := by decide +kernel
theorem dX4_copyFrom_15 : decode cX4_copyFrom 15 = .ok (.if_icmp .ge 39, 3) := by decide +kernel
theorem dX4_copyFrom_18 : decode cX4_copyFrom 18 = .ok (.aload_n 1, 1) := by decide +kernel
theorem dX4_copyFrom_19 : decode cX4_copyFrom 19 = .ok (.getfield 20, 3) := by decide +kernel
theorem dX4_copyFrom_22 : decode cX4_copyFrom 22 = .ok (.iload_n 2, 1) := by decide +kernel
theorem dX4_copyFrom_23 : decode cX4_copyFrom 23 = .ok (.aaload, 1) := by decide +kernel
theorem dX4_copyFrom_24 : decode cX4_copyFrom 24 = .ok (.astore_n 3, 1) := by decide +kernel
theorem dX4_copyFrom_25 : decode cX4_copyFrom 25 = .ok (.aload_n 0, 1) := by decide +kernel
theorem dX4_copyFrom_26 : decode cX4_copyFrom 26 = .ok (.getfield 20, 3) := by decide +kernel
theorem dX4_copyFrom_29 : decode cX4_copyFrom 29 = .ok (.iload_n 2, 1) := by decide +kernel
theorem dX4_copyFrom_30 : decode cX4_copyFrom 30 = .ok (.aaload, 1) := by decide +kernel
theorem dX4_copyFrom_31 : decode cX4_copyFrom 31 = .ok (.astore 4, 2) := by decide +kernel
theorem dX4_copyFrom_33 : decode cX4_copyFrom 33 = .ok (.aload_n 3, 1) := by decide +kernel
theorem dX4_copyFrom_34 : decode cX4_copyFrom 34 = .ok (.ifnull 14, 3) := by decide +kernel
theorem dX4_copyFrom_37 : decode cX4_copyFrom 37 = .ok (.aload 4, 2) := by decide +kernel
theorem dX4_copyFrom_39 : decode cX4_copyFrom 39 = .ok (.ifnull 9, 3) := by decide +kernel
theorem dX4_copyFrom_42 : decode cX4_copyFrom 42 = .ok (.aload 4, 2) := by decide +kernel
theorem dX4_copyFrom_44 : decode cX4_copyFrom 44 = .ok (.aload_n 3, 1) := by decide +kernel
theorem dX4_copyFrom_45 : decode cX4_copyFrom 45 = .ok (.invokevirtual 123, 3) := by decide +kernel
theorem dX4_copyFrom_48 : decode cX4_copyFrom 48 = .ok (.iinc 2 1, 3) := by decide +kernel
theorem dX4_copyFrom_51 : decode cX4_copyFrom 51 = .ok (.goto (-38), 3) := by decide +kernel
theorem dX4_copyFrom_54 : decode cX4_copyFrom 54 = .ok (.iconst 0, 1) := by decide +kernel
theorem dX4_copyFrom_55 : decode cX4_copyFrom 55 = .ok (.istore_n 2, 1) := by decide +kernel
theorem dX4_copyFrom_56 : decode cX4_copyFrom 56 = .ok (.iload_n 2, 1) := by decide +kernel
theorem dX4_copyFrom_57 : decode cX4_copyFrom 57 = .ok (.bipush 8, 2) := by decide +kernel
theorem dX4_copyFrom_59 : decode cX4_copyFrom 59 = .ok (.if_icmp .ge 39, 3) := by decide +kernel
theorem dX4_copyFrom_62 : decode cX4_copyFrom 62 = .ok (.aload_n 1, 1) := by decide +kernel
theorem dX4_copyFrom_63 : decode cX4_copyFrom 63 = .ok (.getfield 26, 3) := by decide +kernel
theorem dX4_copyFrom_66 : decode cX4_copyFrom 66 = .ok (.iload_n 2, 1) := by decide +kernel
theorem dX4_copyFrom_67 : decode cX4_copyFrom 67 = .ok (.aaload, 1) := by decide +kernel
theorem dX4_copyFrom_68 : decode cX4_copyFrom 68 = .ok (.astore_n 3, 1) := by decide +kernel
theorem dX4_copyFrom_69 : decode cX4_copyFrom 69 = .ok (.aload_n 0, 1) := by decide +kernel
theorem dX4_copyFrom_70 : decode cX4_copyFrom 70 = .ok (.getfield 26, 3) := by decide +kernel
theorem dX4_copyFrom_73 : decode cX4_copyFrom 73 = .ok (.iload_n 2, 1) := by decide +kernel
theorem dX4_copyFrom_74 : decode cX4_copyFrom 74 = .ok (.aaload, 1) := by decide +kernel
theorem dX4_copyFrom_75 : decode cX4_copyFrom 75 = .ok (.astore 4, 2) := by decide +kernel
theorem dX4_copyFrom_77 : decode cX4_copyFrom 77 = .ok (.aload_n 3, 1) := by decide +kernel
theorem dX4_copyFrom_78 : decode cX4_copyFrom 78 = .ok (.ifnull 14, 3) := by decide +kernel
theorem dX4_copyFrom_81 : decode cX4_copyFrom 81 = .ok (.aload 4, 2) := by decide +kernel
theorem dX4_copyFrom_83 : decode cX4_copyFrom 83 = .ok (.ifnull 9, 3) := by decide +kernel
theorem dX4_copyFrom_86 : decode cX4_copyFrom 86 = .ok (.aload 4, 2) := by decide +kernel
theorem dX4_copyFrom_88 : decode cX4_copyFrom 88 = .ok (.aload_n 3, 1) := by decide +kernel
theorem dX4_copyFrom_89 : decode cX4_copyFrom 89 = .ok (.invokevirtual 126, 3) := by decide +kernel
theorem dX4_copyFrom_92 : decode cX4_copyFrom 92 = .ok (.iinc 2 1, 3) := by decide +kernel
theorem dX4_copyFrom_95 : decode cX4_copyFrom 95 = .ok (.goto (-39), 3) := by decide +kernel
theorem dX4_copyFrom_98 : decode cX4_copyFrom 98 = .ok (.aload_n 0, 1) := by decide +kernel
theorem dX4_copyFrom_99 : decode cX4_copyFrom 99 = .ok (.aload_n 1, 1) := by decide +kernel
theorem dX4_copyFrom_100 : decode cX4_copyFrom 100 = .ok (.getfield 30, 3) := by decide +kernel
theorem dX4_copyFrom_103 : decode cX4_copyFrom 103 = .ok (.putfield 30, 3) := by decide +kernel
theorem dX4_copyFrom_106 : decode cX4_copyFrom 106 = .ok (.aload_n 0, 1) := by decide +kernel
theorem dX4_copyFrom_107 : decode cX4_copyFrom 107 = .ok (.aload_n 1, 1) := by decide +kernel
theorem dX4_copyFrom_108 : decode cX4_copyFrom 108 = .ok (.getfield 34, 3) := by decide +kernel
theorem dX4_copyFrom_111 : decode cX4_copyFrom 111 = .ok (.putfield 34, 3) := by decide +kernel
theorem dX4_copyFrom_114 : decode cX4_copyFrom 114 = .ok (.aload_n 0, 1) := by decide +kernel
theorem dX4_copyFrom_115 : decode cX4_copyFrom 115 = .ok (.aload_n 1, 1) := by decide +kernel
theorem dX4_copyFrom_116 : decode cX4_copyFrom 116 = .ok (.getfield 37, 3) := by decide +kernel
theorem dX4_copyFrom_119 : decode cX4_copyFrom 119 = .ok (.putfield 37, 3) := by decide +kernel
theorem dX4_copyFrom_122 : decode cX4_copyFrom 122 = .ok (.aload_n 0, 1) := by decide +kernel
theorem dX4_copyFrom_123 : decode cX4_copyFrom 123 = .ok (.aload_n 1, 1) := by decide +kernel
theorem dX4_copyFrom_124 : decode cX4_copyFrom 124 = .ok (.getfield 40, 3) := by decide +kernel
theorem dX4_copyFrom_127 : decode cX4_copyFrom 127 = .ok (.putfield 40, 3) := by decide +kernel
theorem dX4_copyFrom_130 : decode cX4_copyFrom 130 = .ok (.return_, 1) := by decide +kernel
theorem dX5_init_0 : decode cX5_init 0 = .ok (.aload_n 0, 1) := by decide +kernel
theorem dX5_init_1 : decode cX5_init 1 = .ok (.invokespecial 3, 3) := by decide +kernel
theorem dX5_init_4 : decode cX5_init 4 = .ok (.aload_n 0, 1) := by decide +kernel
theorem dX5_init_5 : decode cX5_init 5 = .ok (.bipush 80, 2) := by decide +kernel
theorem dX5_init_7 : decode cX5_init 7 = .ok (.newarray .int, 2) := by decide +kernel
theorem dX5_init_9 : decode cX5_init 9 = .ok (.putfield 9, 3) := by decide +kernel
theorem dX5_init_12 : decode cX5_init 12 = .ok (.aload_n 0, 1) := by decide +kernel
theorem dX5_init_13 : decode cX5_init 13 = .ok (.iconst 0, 1) := by decide +kernel
theorem dX5_init_14 : decode cX5_init 14 = .ok (.putfield 15, 3) := by decide +kernel
theorem dX5_init_17 : decode cX5_init 17 = .ok (.aload_n 0, 1) := by decide +kernel
theorem dX5_init_18 : decode cX5_init 18 = .ok (.iconst 0, 1) := by decide +kernel
theorem dX5_init_19 : decode cX5_init 19 = .ok (.putfield 19, 3) := by decide +kernel
theorem dX5_init_22 : decode cX5_init 22 = .ok (.aload_n 0, 1) := by decide +kernel
theorem dX5_init_23 : decode cX5_init 23 = .ok (.iconst 0, 1) := by decide +kernel
theorem dX5_init_24 : decode cX5_init 24 = .ok (.putfield 22, 3) := by decide +kernel
theorem dX5_init_27 : decode cX5_init 27 = .ok (.aload_n 0, 1) := by decide +kernel
theorem dX5_init_28 : decode cX5_init 28 = .ok (.iconst 3, 1) := by decide +kernel
theorem dX5_init_29 : decode cX5_init 29 = .ok (.newarray .int, 2) := by decide +kernel
theorem dX5_init_31 : decode cX5_init 31 = .ok (.putfield 25, 3) := by decide +kernel
theorem dX5_init_34 : decode cX5_init 34 = .ok (.aload_n 0, 1) := by decide +kernel
theorem dX5_init_35 : decode cX5_init 35 = .ok (.iconst 0, 1) := by decide +kernel
theorem dX5_init_36 : decode cX5_init 36 = .ok (.putfield 28, 3) := by decide +kernel
theorem dX5_init_39 : decode cX5_init 39 = .ok (.return_, 1) := by decide +kernel
