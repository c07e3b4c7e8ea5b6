theorem dX6_init_0 : decode cX6_init 0 = .ok (.aload_n 0, 1) := by decide +kernel
theorem dX6_init_1 : decode cX6_init 1 = .ok (.invokespecial 3, 3) := by decide +kernel
theorem dX6_init_4 : decode cX6_init 4 = .ok (.aload_n 0, 1) := by decide +kernel
theorem dX6_init_5 : decode cX6_init 5 = .ok (.new 9, 3) := by decide +kernel
theorem dX6_init_8 : decode cX6_init 8 = .ok (.dup, 1) := by decide +kernel
theorem dX6_init_9 : decode cX6_init 9 = .ok (.invokespecial 11, 3) := by decide +kernel
theorem dX6_init_12 : decode cX6_init 12 = .ok (.putfield 12, 3) := by decide +kernel
theorem dX6_init_15 : decode cX6_init 15 = .ok (.aload_n 0, 1) := by decide +kernel
theorem dX6_init_16 : decode cX6_init 16 = .ok (.new 9, 3) := by decide +kernel
theorem dX6_init_19 : decode cX6_init 19 = .ok (.dup, 1) := by decide +kernel
theorem dX6_init_20 : decode cX6_init 20 = .ok (.invokespecial 11, 3) := by decide +kernel
theorem dX6_init_23 : decode cX6_init 23 = .ok (.putfield 16, 3) := by decide +kernel
theorem dX6_init_26 : decode cX6_init 26 = .ok (.aload_n 0, 1) := by decide +kernel
theorem dX6_init_27 : decode cX6_init 27 = .ok (.iconst 0, 1) := by decide +kernel
theorem dX6_init_28 : decode cX6_init 28 = .ok (.putfield 19, 3) := by decide +kernel
theorem dX6_init_31 : decode cX6_init 31 = .ok (.aload_n 0, 1) := by decide +kernel
theorem dX6_init_32 : decode cX6_init 32 = .ok (.new 23, 3) := by decide +kernel
theorem dX6_init_35 : decode cX6_init 35 = .ok (.dup, 1) := by decide +kernel
theorem dX6_init_36 : decode cX6_init 36 = .ok (.invokespecial 25, 3) := by decide +kernel
theorem dX6_init_39 : decode cX6_init 39 = .ok (.putfield 26, 3) := by decide +kernel
theorem dX6_init_42 : decode cX6_init 42 = .ok (.aload_n 0, 1) := by decide +kernel
theorem dX6_init_43 : decode cX6_init 43 = .ok (.new 30, 3) := by decide +kernel
theorem dX6_init_46 : decode cX6_init 46 = .ok (.dup, 1) := by decide +kernel
theorem dX6_init_47 : decode cX6_init 47 = .ok (.invokespecial 32, 3) := by decide +kernel
theorem dX6_init_50 : decode cX6_init 50 = .ok (.putfield 33, 3) := by decide +kernel
theorem dX6_init_53 : decode cX6_init 53 = .ok (.return_, 1) := by decide +kernel
theorem dX6_addReplica_0 : decode cX6_addReplica 0 = .ok (.aload_n 0, 1) := by decide +kernel
theorem dX6_addReplica_1 : decode cX6_addReplica 1 = .ok (.getfield 26, 3) := by decide +kernel
theorem dX6_addReplica_4 : decode cX6_addReplica 4 = .ok (.aload_n 0, 1) := by decide +kernel
theorem dX6_addReplica_5 : decode cX6_addReplica 5 = .ok (.getfield 12, 3) := by decide +kernel
theorem dX6_addReplica_8 : decode cX6_addReplica 8 = .ok (.invokevirtual 37, 3) := by decide +kernel
theorem dX6_addReplica_11 : decode cX6_addReplica 11 = .ok (.aload_n 0, 1) := by decide +kernel
theorem dX6_addReplica_12 : decode cX6_addReplica 12 = .ok (.getfield 26, 3) := by decide +kernel
theorem dX6_addReplica_15 : decode cX6_addReplica 15 = .ok (.aload_n 0, 1) := by decide +kernel
theorem dX6_addReplica_16 : decode cX6_addReplica 16 = .ok (.iload_n 1, 1) := by decide +kernel
theorem dX6_addReplica_17 : decode cX6_addReplica 17 = .ok (.iload_n 2, 1) := by decide +kernel
theorem dX6_addReplica_18 : decode cX6_addReplica 18 = .ok (.invokevirtual 41, 3) := by decide +kernel
theorem dX6_addReplica_21 : decode cX6_addReplica 21 = .ok (.invokevirtual 45, 3) := by decide +kernel
theorem dX6_addReplica_24 : decode cX6_addReplica 24 = .ok (.ireturn, 1) := by decide +kernel
theorem dX6_drop_0 : decode cX6_drop 0 = .ok (.aload_n 0, 1) := by decide +kernel
theorem dX6_drop_1 : decode cX6_drop 1 = .ok (.getfield 26, 3) := by decide +kernel
theorem dX6_drop_4 : decode cX6_drop 4 = .ok (.aload_n 0, 1) := by decide +kernel
theorem dX6_drop_5 : decode cX6_drop 5 = .ok (.getfield 12, 3) := by decide +kernel
theorem dX6_drop_8 : decode cX6_drop 8 = .ok (.invokevirtual 37, 3) := by decide +kernel
theorem dX6_drop_11 : decode cX6_drop 11 = .ok (.aload_n 0, 1) := by decide +kernel
theorem dX6_drop_12 : decode cX6_drop 12 = .ok (.getfield 26, 3) := by decide +kernel
theorem dX6_drop_15 : decode cX6_drop 15 = .ok (.aload_n 0, 1) := by decide +kernel
theorem dX6_drop_16 : decode cX6_drop 16 = .ok (.iload_n 1, 1) := by decide +kernel
theorem dX6_drop_17 : decode cX6_drop 17 = .ok (.invokevirtual 49, 3) := by decide +kernel
theorem dX6_drop_20 : decode cX6_drop 20 = .ok (.invokevirtual 45, 3) := by decide +kernel
theorem dX6_drop_23 : decode cX6_drop 23 = .ok (.ireturn, 1) := by decide +kernel
theorem dX6_setRate_0 : decode cX6_setRate 0 = .ok (.aload_n 0, 1) := by decide +kernel
theorem dX6_setRate_1 : decode cX6_setRate 1 = .ok (.getfield 26, 3) := by decide +kernel
theorem dX6_setRate_4 : decode cX6_setRate 4 = .ok (.aload_n 0, 1) := by decide +kernel
theorem dX6_setRate_5 : decode cX6_setRate 5 = .ok (.getfield 12, 3) := by decide +kernel
theorem dX6_setRate_8 : decode cX6_setRate 8 = .ok (.invokevirtual 37, 3) := by decide +kernel
theorem dX6_setRate_11 : decode cX6_setRate 11 = .ok (.aload_n 0, 1) := by decide +kernel
theorem dX6_setRate_12 : decode cX6_setRate 12 = .ok (.getfield 26, 3) := by decide +kernel
theorem dX6_setRate_15 : decode cX6_setRate 15 = .ok (.aload_n 0, 1) := by decide +kernel
theorem dX6_setRate_16 : decode cX6_setRate 16 = .ok (.iload_n 1, 1) := by decide +kernel
theorem dX6_setRate_17 : decode cX6_setRate 17 = .ok (.iload_n 2, 1) := by decide +kernel
theorem dX6_setRate_18 : decode cX6_setRate 18 = .ok (.invokevirtual 52, 3) := by decide +kernel
theorem dX6_setRate_21 : decode cX6_setRate 21 = .ok (.invokevirtual 45, 3) := by decide +kernel
theorem dX6_setRate_24 : decode cX6_setRate 24 = .ok (.ireturn, 1) := by decide +kernel
theorem dX6_stop_0 : decode cX6_stop 0 = .ok (.aload_n 0, 1) := by decide +kernel
theorem dX6_stop_1 : decode cX6_stop 1 = .ok (.getfield 26, 3) := by decide +kernel
theorem dX6_stop_4 : decode cX6_stop 4 = .ok (.aload_n 0, 1) := by decide +kernel
theorem dX6_stop_5 : decode cX6_stop 5 = .ok (.getfield 12, 3) := by decide +kernel
theorem dX6_stop_8 : decode cX6_stop 8 = .ok (.invokevirtual 37, 3) := by decide +kernel
theorem dX6_stop_11 : decode cX6_stop 11 = .ok (.aload_n 0, 1) := by decide +kernel
theorem dX6_stop_12 : decode cX6_stop 12 = .ok (.getfield 26, 3) := by decide +kernel
theorem dX6_stop_15 : decode cX6_stop 15 = .ok (.aload_n 0, 1) := by decide +kernel
theorem dX6_stop_16 : decode cX6_stop 16 = .ok (.iload_n 1, 1) := by decide +kernel
theorem dX6_stop_17 : decode cX6_stop 17 = .ok (.iload_n 2, 1) := by decide +kernel
theorem dX6_stop_18 : decode cX6_stop 18 = .ok (.invokevirtual 55, 3) := by decide +kernel
theorem dX6_stop_21 : decode cX6_stop 21 = .ok (.invokevirtual 45, 3) := by decide +kernel
theorem dX6_stop_24 : decode cX6_stop 24 = .ok (.ireturn, 1) := by decide +kernel
theorem dX6_jumpBack_0 : decode cX6_jumpBack 0 = .ok (.aload_n 0, 1) := by decide +kernel
theorem dX6_jumpBack_1 : decode cX6_jumpBack 1 = .ok (.getfield 26, 3) := by decide +kernel
theorem dX6_jumpBack_4 : decode cX6_jumpBack 4 = .ok (.aload_n 0, 1) := by decide +kernel
theorem dX6_jumpBack_5 : decode cX6_jumpBack 5 = .ok (.getfield 12, 3) := by decide +kernel
theorem dX6_jumpBack_8 : decode cX6_jumpBack 8 = .ok (.invokevirtual 37, 3) := by decide +kernel
theorem dX6_jumpBack_11 : decode cX6_jumpBack 11 = .ok (.aload_n 0, 1) := by decide +kernel
theorem dX6_jumpBack_12 : decode cX6_jumpBack 12 = .ok (.getfield 26, 3) := by decide +kernel
theorem dX6_jumpBack_15 : decode cX6_jumpBack 15 = .ok (.aload_n 0, 1) := by decide +kernel
theorem dX6_jumpBack_16 : decode cX6_jumpBack 16 = .ok (.iload_n 1, 1) := by decide +kernel
theorem dX6_jumpBack_17 : decode cX6_jumpBack 17 = .ok (.iload_n 2, 1) := by decide +kernel
theorem dX6_jumpBack_18 : decode cX6_jumpBack 18 = .ok (.invokevirtual 59, 3) := by decide +kernel
theorem dX6_jumpBack_21 : decode cX6_jumpBack 21 = .ok (.invokevirtual 45, 3) := by decide +kernel
theorem dX6_jumpBack_24 : decode cX6_jumpBack 24 = .ok (.ireturn, 1) := by decide +kernel
theorem dX6_tick_0 : decode cX6_tick 0 = .ok (.aload_n 0, 1) := by decide +kernel
theorem dX6_tick_1 : decode cX6_tick 1 = .ok (.getfield 26, 3) := by decide +kernel
theorem dX6_tick_4 : decode cX6_tick 4 = .ok (.aload_n 0, 1) := by decide +kernel
theorem dX6_tick_5 : decode cX6_tick 5 = .ok (.getfield 12, 3) := by decide +kernel
theorem dX6_tick_8 : decode cX6_tick 8 = .ok (.invokevirtual 37, 3) := by decide +kernel
theorem dX6_tick_11 : decode cX6_tick 11 = .ok (.aload_n 0, 1) := by decide +kernel
theorem dX6_tick_12 : decode cX6_tick 12 = .ok (.getfield 26, 3) := by decide +kernel
theorem dX6_tick_15 : decode cX6_tick 15 = .ok (.aload_n 0, 1) := by decide +kernel
theorem dX6_tick_16 : decode cX6_tick 16 = .ok (.iload_n 1, 1) := by decide +kernel
theorem dX6_tick_17 : decode cX6_tick 17 = .ok (.invokevirtual 62, 3) := by decide +kernel
theorem dX6_tick_20 : decode cX6_tick 20 = .ok (.invokevirtual 45, 3) := by decide +kernel
theorem dX6_tick_23 : decode cX6_tick 23 = .ok (.ireturn, 1) := by decide +kernel
theorem dX6_replicas_0 : decode cX6_replicas 0 = .ok (.aload_n 0, 1) := by decide +kernel
theorem dX6_replicas_1 : decode cX6_replicas 1 = .ok (.getfield 12, 3) := by decide +kernel
theorem dX6_replicas_4 : decode cX6_replicas 4 = .ok (.invokevirtual 65, 3) := by decide +kernel
theorem dX6_replicas_7 : decode cX6_replicas 7 = .ok (.ireturn, 1) := by decide +kernel
theorem dX6_replica_0 : decode cX6_replica 0 = .ok (.aload_n 0, 1) := by decide +kernel
theorem dX6_replica_1 : decode cX6_replica 1 = .ok (.getfield 12, 3) := by decide +kernel
theorem dX6_replica_4 : decode cX6_replica 4 = .ok (.iload_n 1, 1) := by decide +kernel
theorem dX6_replica_5 : decode cX6_replica 5 = .ok (.invokevirtual 69, 3) := by decide +kernel
theorem dX6_replica_8 : decode cX6_replica 8 = .ok (.astore_n 3, 1) := by decide +kernel
theorem dX6_replica_9 : decode cX6_replica 9 = .ok (.aload_n 3, 1) := by decide +kernel
theorem dX6_replica_10 : decode cX6_replica 10 = .ok (.ifnonnull 5, 3) := by decide +kernel
theorem dX6_replica_13 : decode cX6_replica 13 = .ok (.iconst (-1), 1) := by decide +kernel
theorem dX6_replica_14 : decode cX6_replica 14 = .ok (.ireturn, 1) := by decide +kernel
theorem dX6_replica_15 : decode cX6_replica 15 = .ok (.iload_n 2, 1) := by decide +kernel
theorem dX6_replica_16 : decode cX6_replica 16 = .ok (.tableswitch 55 0 2 #[28, 33, 46], 28) := by decide +kernel
theorem dX6_replica_44 : decode cX6_replica 44 = .ok (.aload_n 3, 1) := by decide +kernel
theorem dX6_replica_45 : decode cX6_replica 45 = .ok (.getfield 73, 3) := by decide +kernel
theorem dX6_replica_48 : decode cX6_replica 48 = .ok (.ireturn, 1) := by decide +kernel
theorem dX6_replica_49 : decode cX6_replica 49 = .ok (.aload_n 3, 1) := by decide +kernel
theorem dX6_replica_50 : decode cX6_replica 50 = .ok (.getfield 79, 3) := by decide +kernel
theorem dX6_replica_53 : decode cX6_replica 53 = .ok (.ifCond .eq 7, 3) := by decide +kernel
theorem dX6_replica_56 : decode cX6_replica 56 = .ok (.iconst 1, 1) := by decide +kernel
theorem dX6_replica_57 : decode cX6_replica 57 = .ok (.goto 4, 3) := by decide +kernel
theorem dX6_replica_60 : decode cX6_replica 60 = .ok (.iconst 0, 1) := by decide +kernel
theorem dX6_replica_61 : decode cX6_replica 61 = .ok (.ireturn, 1) := by decide +kernel
theorem dX6_replica_62 : decode cX6_replica 62 = .ok (.aload_n 0, 1) := by decide +kernel
theorem dX6_replica_63 : decode cX6_replica 63 = .ok (.getfield 12, 3) := by decide +kernel
theorem dX6_replica_66 : decode cX6_replica 66 = .ok (.iload_n 1, 1) := by decide +kernel
theorem dX6_replica_67 : decode cX6_replica 67 = .ok (.invokevirtual 82, 3) := by decide +kernel
theorem dX6_replica_70 : decode cX6_replica 70 = .ok (.ireturn, 1) := by decide +kernel
theorem dX6_replica_71 : decode cX6_replica 71 = .ok (.bipush (-2), 2) := by decide +kernel
theorem dX6_replica_73 : decode cX6_replica 73 = .ok (.ireturn, 1) := by decide +kernel
theorem dX6_length_0 : decode cX6_length 0 = .ok (.aload_n 0, 1) := by decide +kernel
theorem dX6_length_1 : decode cX6_length 1 = .ok (.getfield 12, 3) := by decide +kernel
theorem dX6_length_4 : decode cX6_length 4 = .ok (.getfield 85, 3) := by decide +kernel
theorem dX6_length_7 : decode cX6_length 7 = .ok (.getfield 89, 3) := by decide +kernel
theorem dX6_length_10 : decode cX6_length 10 = .ok (.ireturn, 1) := by decide +kernel
theorem dX6_position_0 : decode cX6_position 0 = .ok (.aload_n 0, 1) := by decide +kernel
theorem dX6_position_1 : decode cX6_position 1 = .ok (.getfield 12, 3) := by decide +kernel
theorem dX6_position_4 : decode cX6_position 4 = .ok (.iload_n 1, 1) := by decide +kernel
theorem dX6_position_5 : decode cX6_position 5 = .ok (.invokevirtual 107, 3) := by decide +kernel
theorem dX6_position_8 : decode cX6_position 8 = .ok (.ireturn, 1) := by decide +kernel
theorem dX6_version_0 : decode cX6_version 0 = .ok (.aload_n 0, 1) := by decide +kernel
theorem dX6_version_1 : decode cX6_version 1 = .ok (.getfield 12, 3) := by decide +kernel
theorem dX6_version_4 : decode cX6_version 4 = .ok (.iload_n 1, 1) := by decide +kernel
theorem dX6_version_5 : decode cX6_version 5 = .ok (.invokevirtual 110, 3) := by decide +kernel
theorem dX6_version_8 : decode cX6_version 8 = .ok (.ifCond .eq 10, 3) := by decide +kernel
theorem dX6_version_11 : decode cX6_version 11 = .ok (.iload_n 2, 1) := by decide +kernel
theorem dX6_version_12 : decode cX6_version 12 = .ok (.invokestatic 113, 3) := by decide +kernel
theorem dX6_version_15 : decode cX6_version 15 = .ok (.ifCond .ne 5, 3) := by decide +kernel
theorem dX6_version_18 : decode cX6_version 18 = .ok (.iconst (-1), 1) := by decide +kernel
theorem dX6_version_19 : decode cX6_version 19 = .ok (.ireturn, 1) := by decide +kernel
theorem dX6_version_20 : decode cX6_version 20 = .ok (.aload_n 0, 1) := by decide +kernel
theorem dX6_version_21 : decode cX6_version 21 = .ok (.getfield 12, 3) := by decide +kernel
theorem dX6_version_24 : decode cX6_version 24 = .ok (.getfield 85, 3) := by decide +kernel
theorem dX6_version_27 : decode cX6_version 27 = .ok (.aload_n 0, 1) := by decide +kernel
theorem dX6_version_28 : decode cX6_version 28 = .ok (.getfield 12, 3) := by decide +kernel
theorem dX6_version_31 : decode cX6_version 31 = .ok (.iload_n 1, 1) := by decide +kernel
theorem dX6_version_32 : decode cX6_version 32 = .ok (.invokevirtual 107, 3) := by decide +kernel
theorem dX6_version_35 : decode cX6_version 35 = .ok (.iload_n 2, 1) := by decide +kernel
theorem dX6_version_36 : decode cX6_version 36 = .ok (.invokevirtual 116, 3) := by decide +kernel
theorem dX6_version_39 : decode cX6_version 39 = .ok (.ireturn, 1) := by decide +kernel
theorem dX6_value_0 : decode cX6_value 0 = .ok (.aload_n 0, 1) := by decide +kernel
theorem dX6_value_1 : decode cX6_value 1 = .ok (.getfield 12, 3) := by decide +kernel
theorem dX6_value_4 : decode cX6_value 4 = .ok (.iload_n 1, 1) := by decide +kernel
theorem dX6_value_5 : decode cX6_value 5 = .ok (.invokevirtual 110, 3) := by decide +kernel
theorem dX6_value_8 : decode cX6_value 8 = .ok (.ifCond .eq 10, 3) := by decide +kernel
theorem dX6_value_11 : decode cX6_value 11 = .ok (.iload_n 2, 1) := by decide +kernel
theorem dX6_value_12 : decode cX6_value 12 = .ok (.invokestatic 113, 3) := by decide +kernel
theorem dX6_value_15 : decode cX6_value 15 = .ok (.ifCond .ne 5, 3) := by decide +kernel
theorem dX6_value_18 : decode cX6_value 18 = .ok (.iconst (-1), 1) := by decide +kernel
theorem dX6_value_19 : decode cX6_value 19 = .ok (.ireturn, 1) := by decide +kernel
theorem dX6_value_20 : decode cX6_value 20 = .ok (.aload_n 0, 1) := by decide +kernel
theorem dX6_value_21 : decode cX6_value 21 = .ok (.getfield 12, 3) := by decide +kernel
theorem dX6_value_24 : decode cX6_value 24 = .ok (.getfield 85, 3) := by decide +kernel
theorem dX6_value_27 : decode cX6_value 27 = .ok (.aload_n 0, 1) := by decide +kernel
theorem dX6_value_28 : decode cX6_value 28 = .ok (.getfield 12, 3) := by decide +kernel
theorem dX6_value_31 : decode cX6_value 31 = .ok (.getfield 85, 3) := by decide +kernel
theorem dX6_value_34 : decode cX6_value 34 = .ok (.aload_n 0, 1) := by decide +kernel
theorem dX6_value_35 : decode cX6_value 35 = .ok (.getfield 12, 3) := by decide +kernel
theorem dX6_value_38 : decode cX6_value 38 = .ok (.iload_n 1, 1) := by decide +kernel
theorem dX6_value_39 : decode cX6_value 39 = .ok (.invokevirtual 107, 3) := by decide +kernel
theorem dX6_value_42 : decode cX6_value 42 = .ok (.iload_n 2, 1) := by decide +kernel
theorem dX6_value_43 : decode cX6_value 43 = .ok (.invokevirtual 116, 3) := by decide +kernel
theorem dX6_value_46 : decode cX6_value 46 = .ok (.invokevirtual 101, 3) := by decide +kernel
theorem dX6_value_49 : decode cX6_value 49 = .ok (.ireturn, 1) := by decide +kernel
theorem dX6_missing_0 : decode cX6_missing 0 = .ok (.aload_n 0, 1) := by decide +kernel
theorem dX6_missing_1 : decode cX6_missing 1 = .ok (.getfield 12, 3) := by decide +kernel
theorem dX6_missing_4 : decode cX6_missing 4 = .ok (.iload_n 1, 1) := by decide +kernel
theorem dX6_missing_5 : decode cX6_missing 5 = .ok (.invokevirtual 110, 3) := by decide +kernel
theorem dX6_missing_8 : decode cX6_missing 8 = .ok (.ifCond .eq 10, 3) := by decide +kernel
theorem dX6_missing_11 : decode cX6_missing 11 = .ok (.iload_n 2, 1) := by decide +kernel
theorem dX6_missing_12 : decode cX6_missing 12 = .ok (.invokestatic 113, 3) := by decide +kernel
theorem dX6_missing_15 : decode cX6_missing 15 = .ok (.ifCond .ne 5, 3) := by decide +kernel
theorem dX6_missing_18 : decode cX6_missing 18 = .ok (.iconst (-1), 1) := by decide +kernel
theorem dX6_missing_19 : decode cX6_missing 19 = .ok (.ireturn, 1) := by decide +kernel
theorem dX6_missing_20 : decode cX6_missing 20 = .ok (.aload_n 0, 1) := by decide +kernel
theorem dX6_missing_21 : decode cX6_missing 21 = .ok (.getfield 12, 3) := by decide +kernel
theorem dX6_missing_24 : decode cX6_missing 24 = .ok (.getfield 85, 3) := by decide +kernel
theorem dX6_missing_27 : decode cX6_missing 27 = .ok (.aload_n 0, 1) := by decide +kernel
theorem dX6_missing_28 : decode cX6_missing 28 = .ok (.getfield 12, 3) := by decide +kernel
theorem dX6_missing_31 : decode cX6_missing 31 = .ok (.iload_n 1, 1) := by decide +kernel
theorem dX6_missing_32 : decode cX6_missing 32 = .ok (.invokevirtual 107, 3) := by decide +kernel
theorem dX6_missing_35 : decode cX6_missing 35 = .ok (.iload_n 2, 1) := by decide +kernel
theorem dX6_missing_36 : decode cX6_missing 36 = .ok (.invokevirtual 119, 3) := by decide +kernel
theorem dX6_missing_39 : decode cX6_missing 39 = .ok (.ireturn, 1) := by decide +kernel
theorem dX6_answers_0 : decode cX6_answers 0 = .ok (.iload_n 1, 1) := by decide +kernel
theorem dX6_answers_1 : decode cX6_answers 1 = .ok (.bipush 9, 2) := by decide +kernel
theorem dX6_answers_3 : decode cX6_answers 3 = .ok (.if_icmp .ne 11, 3) := by decide +kernel
theorem dX6_answers_6 : decode cX6_answers 6 = .ok (.aload_n 0, 1) := by decide +kernel
theorem dX6_answers_7 : decode cX6_answers 7 = .ok (.getfield 12, 3) := by decide +kernel
theorem dX6_answers_10 : decode cX6_answers 10 = .ok (.getfield 122, 3) := by decide +kernel
theorem dX6_answers_13 : decode cX6_answers 13 = .ok (.ireturn, 1) := by decide +kernel
theorem dX6_answers_14 : decode cX6_answers 14 = .ok (.aload_n 0, 1) := by decide +kernel
theorem dX6_answers_15 : decode cX6_answers 15 = .ok (.getfield 12, 3) := by decide +kernel
theorem dX6_answers_18 : decode cX6_answers 18 = .ok (.iload_n 1, 1) := by decide +kernel
theorem dX6_answers_19 : decode cX6_answers 19 = .ok (.invokevirtual 69, 3) := by decide +kernel
theorem dX6_answers_22 : decode cX6_answers 22 = .ok (.astore_n 2, 1) := by decide +kernel
theorem dX6_answers_23 : decode cX6_answers 23 = .ok (.aload_n 2, 1) := by decide +kernel
theorem dX6_answers_24 : decode cX6_answers 24 = .ok (.ifnonnull 7, 3) := by decide +kernel
theorem dX6_answers_27 : decode cX6_answers 27 = .ok (.iconst (-1), 1) := by decide +kernel
theorem dX6_answers_28 : decode cX6_answers 28 = .ok (.goto 7, 3) := by decide +kernel
theorem dX6_answers_31 : decode cX6_answers 31 = .ok (.aload_n 2, 1) := by decide +kernel
theorem dX6_answers_32 : decode cX6_answers 32 = .ok (.getfield 125, 3) := by decide +kernel
theorem dX6_answers_35 : decode cX6_answers 35 = .ok (.ireturn, 1) := by decide +kernel
theorem dX6_open_0 : decode cX6_open 0 = .ok (.aload_n 0, 1) := by decide +kernel
theorem dX6_open_1 : decode cX6_open 1 = .ok (.getfield 26, 3) := by decide +kernel
theorem dX6_open_4 : decode cX6_open 4 = .ok (.aload_n 0, 1) := by decide +kernel
theorem dX6_open_5 : decode cX6_open 5 = .ok (.getfield 12, 3) := by decide +kernel
theorem dX6_open_8 : decode cX6_open 8 = .ok (.invokevirtual 37, 3) := by decide +kernel
theorem dX6_open_11 : decode cX6_open 11 = .ok (.aload_n 0, 1) := by decide +kernel
theorem dX6_open_12 : decode cX6_open 12 = .ok (.getfield 26, 3) := by decide +kernel
theorem dX6_open_15 : decode cX6_open 15 = .ok (.aload_n 0, 1) := by decide +kernel
theorem dX6_open_16 : decode cX6_open 16 = .ok (.iload_n 1, 1) := by decide +kernel
theorem dX6_open_17 : decode cX6_open 17 = .ok (.iload_n 2, 1) := by decide +kernel
theorem dX6_open_18 : decode cX6_open 18 = .ok (.iload_n 3, 1) := by decide +kernel
theorem dX6_open_19 : decode cX6_open 19 = .ok (.invokevirtual 128, 3) := by decide +kernel
theorem dX6_open_22 : decode cX6_open 22 = .ok (.invokevirtual 45, 3) := by decide +kernel
theorem dX6_open_25 : decode cX6_open 25 = .ok (.ireturn, 1) := by decide +kernel
theorem dX6_close_0 : decode cX6_close 0 = .ok (.aload_n 0, 1) := by decide +kernel
theorem dX6_close_1 : decode cX6_close 1 = .ok (.getfield 26, 3) := by decide +kernel
theorem dX6_close_4 : decode cX6_close 4 = .ok (.aload_n 0, 1) := by decide +kernel
theorem dX6_close_5 : decode cX6_close 5 = .ok (.getfield 12, 3) := by decide +kernel
theorem dX6_close_8 : decode cX6_close 8 = .ok (.invokevirtual 37, 3) := by decide +kernel
theorem dX6_close_11 : decode cX6_close 11 = .ok (.aload_n 0, 1) := by decide +kernel
theorem dX6_close_12 : decode cX6_close 12 = .ok (.getfield 26, 3) := by decide +kernel
theorem dX6_close_15 : decode cX6_close 15 = .ok (.aload_n 0, 1) := by decide +kernel
theorem dX6_close_16 : decode cX6_close 16 = .ok (.iload_n 1, 1) := by decide +kernel
theorem dX6_close_17 : decode cX6_close 17 = .ok (.invokevirtual 132, 3) := by decide +kernel
theorem dX6_close_20 : decode cX6_close 20 = .ok (.invokevirtual 45, 3) := by decide +kernel
theorem dX6_close_23 : decode cX6_close 23 = .ok (.ireturn, 1) := by decide +kernel
theorem dX6_move_0 : decode cX6_move 0 = .ok (.aload_n 0, 1) := by decide +kernel
theorem dX6_move_1 : decode cX6_move 1 = .ok (.getfield 26, 3) := by decide +kernel
theorem dX6_move_4 : decode cX6_move 4 = .ok (.aload_n 0, 1) := by decide +kernel
theorem dX6_move_5 : decode cX6_move 5 = .ok (.getfield 12, 3) := by decide +kernel
theorem dX6_move_8 : decode cX6_move 8 = .ok (.invokevirtual 37, 3) := by decide +kernel
theorem dX6_move_11 : decode cX6_move 11 = .ok (.aload_n 0, 1) := by decide +kernel
theorem dX6_move_12 : decode cX6_move 12 = .ok (.getfield 26, 3) := by decide +kernel
theorem dX6_move_15 : decode cX6_move 15 = .ok (.aload_n 0, 1) := by decide +kernel
theorem dX6_move_16 : decode cX6_move 16 = .ok (.iload_n 1, 1) := by decide +kernel
theorem dX6_move_17 : decode cX6_move 17 = .ok (.iload_n 2, 1) := by decide +kernel
theorem dX6_move_18 : decode cX6_move 18 = .ok (.invokevirtual 135, 3) := by decide +kernel
theorem dX6_move_21 : decode cX6_move 21 = .ok (.invokevirtual 45, 3) := by decide +kernel
theorem dX6_move_24 : decode cX6_move 24 = .ok (.ireturn, 1) := by decide +kernel
theorem dX6_change_0 : decode cX6_change 0 = .ok (.aload_n 0, 1) := by decide +kernel
theorem dX6_change_1 : decode cX6_change 1 = .ok (.getfield 26, 3) := by decide +kernel
theorem dX6_change_4 : decode cX6_change 4 = .ok (.aload_n 0, 1) := by decide +kernel
theorem dX6_change_5 : decode cX6_change 5 = .ok (.getfield 12, 3) := by decide +kernel
theorem dX6_change_8 : decode cX6_change 8 = .ok (.invokevirtual 37, 3) := by decide +kernel
theorem dX6_change_11 : decode cX6_change 11 = .ok (.aload_n 0, 1) := by decide +kernel
theorem dX6_change_12 : decode cX6_change 12 = .ok (.getfield 26, 3) := by decide +kernel
theorem dX6_change_15 : decode cX6_change 15 = .ok (.aload_n 0, 1) := by decide +kernel
theorem dX6_change_16 : decode cX6_change 16 = .ok (.iload_n 1, 1) := by decide +kernel
theorem dX6_change_17 : decode cX6_change 17 = .ok (.iload_n 2, 1) := by decide +kernel
theorem dX6_change_18 : decode cX6_change 18 = .ok (.iload_n 3, 1) := by decide +kernel
theorem dX6_change_19 : decode cX6_change 19 = .ok (.invokevirtual 138, 3) := by decide +kernel
theorem dX6_change_22 : decode cX6_change 22 = .ok (.invokevirtual 45, 3) := by decide +kernel
theorem dX6_change_25 : decode cX6_change 25 = .ok (.ireturn, 1) := by decide +kernel
theorem dX6_hand_0 : decode cX6_hand 0 = .ok (.aload_n 0, 1) := by decide +kernel
theorem dX6_hand_1 : decode cX6_hand 1 = .ok (.getfield 26, 3) := by decide +kernel
theorem dX6_hand_4 : decode cX6_hand 4 = .ok (.aload_n 0, 1) := by decide +kernel
theorem dX6_hand_5 : decode cX6_hand 5 = .ok (.getfield 12, 3) := by decide +kernel
theorem dX6_hand_8 : decode cX6_hand 8 = .ok (.invokevirtual 37, 3) := by decide +kernel
theorem dX6_hand_11 : decode cX6_hand 11 = .ok (.aload_n 0, 1) := by decide +kernel
theorem dX6_hand_12 : decode cX6_hand 12 = .ok (.getfield 26, 3) := by decide +kernel
theorem dX6_hand_15 : decode cX6_hand 15 = .ok (.aload_n 0, 1) := by decide +kernel
theorem dX6_hand_16 : decode cX6_hand 16 = .ok (.iload_n 1, 1) := by decide +kernel
theorem dX6_hand_17 : decode cX6_hand 17 = .ok (.iload_n 2, 1) := by decide +kernel
theorem dX6_hand_18 : decode cX6_hand 18 = .ok (.invokevirtual 141, 3) := by decide +kernel
theorem dX6_hand_21 : decode cX6_hand 21 = .ok (.invokevirtual 45, 3) := by decide +kernel
theorem dX6_hand_24 : decode cX6_hand 24 = .ok (.ireturn, 1) := by decide +kernel
theorem dX6_sessions_0 : decode cX6_sessions 0 = .ok (.aload_n 0, 1) := by decide +kernel
theorem dX6_sessions_1 : decode cX6_sessions 1 = .ok (.getfield 12, 3) := by decide +kernel
theorem dX6_sessions_4 : decode cX6_sessions 4 = .ok (.invokevirtual 144, 3) := by decide +kernel
theorem dX6_sessions_7 : decode cX6_sessions 7 = .ok (.ireturn, 1) := by decide +kernel
theorem dX6_session_0 : decode cX6_session 0 = .ok (.aload_n 0, 1) := by decide +kernel
theorem dX6_session_1 : decode cX6_session 1 = .ok (.getfield 12, 3) := by decide +kernel
theorem dX6_session_4 : decode cX6_session 4 = .ok (.iload_n 1, 1) := by decide +kernel
theorem dX6_session_5 : decode cX6_session 5 = .ok (.invokevirtual 147, 3) := by decide +kernel
theorem dX6_session_8 : decode cX6_session 8 = .ok (.astore_n 3, 1) := by decide +kernel
theorem dX6_session_9 : decode cX6_session 9 = .ok (.aload_n 3, 1) := by decide +kernel
theorem dX6_session_10 : decode cX6_session 10 = .ok (.ifnonnull 5, 3) := by decide +kernel
theorem dX6_session_13 : decode cX6_session 13 = .ok (.iconst (-1), 1) := by decide +kernel
theorem dX6_session_14 : decode cX6_session 14 = .ok (.ireturn, 1) := by decide +kernel
theorem dX6_session_15 : decode cX6_session 15 = .ok (.iload_n 2, 1) := by decide +kernel
theorem dX6_session_16 : decode cX6_session 16 = .ok (.tableswitch 97 0 8 #[52, 57, 62, 67, 72, 77, 82, 87, 92], 52) := by decide +kernel
theorem dX6_session_68 : decode cX6_session 68 = .ok (.aload_n 3, 1) := by decide +kernel
theorem dX6_session_69 : decode cX6_session 69 = .ok (.getfield 151, 3) := by decide +kernel
theorem dX6_session_72 : decode cX6_session 72 = .ok (.ireturn, 1) := by decide +kernel
theorem dX6_session_73 : decode cX6_session 73 = .ok (.aload_n 3, 1) := by decide +kernel
theorem dX6_session_74 : decode cX6_session 74 = .ok (.getfield 156, 3) := by decide +kernel
theorem dX6_session_77 : decode cX6_session 77 = .ok (.ireturn, 1) := by decide +kernel
theorem dX6_session_78 : decode cX6_session 78 = .ok (.aload_n 3, 1) := by decide +kernel
theorem dX6_session_79 : decode cX6_session 79 = .ok (.getfield 159, 3) := by decide +kernel
theorem dX6_session_82 : decode cX6_session 82 = .ok (.ireturn, 1) := by decide +kernel
theorem dX6_session_83 : decode cX6_session 83 = .ok (.aload_n 3, 1) := by decide +kernel
theorem dX6_session_84 : decode cX6_session 84 = .ok (.getfield 162, 3) := by decide +kernel
theorem dX6_session_87 : decode cX6_session 87 = .ok (.ireturn, 1) := by decide +kernel
theorem dX6_session_88 : decode cX6_session 88 = .ok (.aload_n 3, 1) := by decide +kernel
theorem dX6_session_89 : decode cX6_session 89 = .ok (.getfield 165, 3) := by decide +kernel
theorem dX6_session_92 : decode cX6_session 92 = .ok (.ireturn, 1) := by decide +kernel
theorem dX6_session_93 : decode cX6_session 93 = .ok (.aload_n 3, 1) := by decide +kernel
theorem dX6_session_94 : decode cX6_session 94 = .ok (.invokevirtual 168, 3) := by decide +kernel
theorem dX6_session_97 : decode cX6_session 97 = .ok (.ireturn, 1) := by decide +kernel
theorem dX6_session_98 : decode cX6_session 98 = .ok (.aload_n 3, 1) := by decide +kernel
theorem dX6_session_99 : decode cX6_session 99 = .ok (.getfield 171, 3) := by decide +kernel
theorem dX6_session_102 : decode cX6_session 102 = .ok (.ireturn, 1) := by decide +kernel
theorem dX6_session_103 : decode cX6_session 103 = .ok (.aload_n 3, 1) := by decide +kernel
theorem dX6_session_104 : decode cX6_session 104 = .ok (.getfield 174, 3) := by decide +kernel
theorem dX6_session_107 : decode cX6_session 107 = .ok (.ireturn, 1) := by decide +kernel
theorem dX6_session_108 : decode cX6_session 108 = .ok (.aload_n 3, 1) := by decide +kernel
theorem dX6_session_109 : decode cX6_session 109 = .ok (.getfield 177, 3) := by decide +kernel
theorem dX6_session_112 : decode cX6_session 112 = .ok (.ireturn, 1) := by decide +kernel
theorem dX6_session_113 : decode cX6_session 113 = .ok (.bipush (-2), 2) := by decide +kernel
theorem dX6_session_115 : decode cX6_session 115 = .ok (.ireturn, 1) := by decide +kernel
theorem dX6_write_0 : decode cX6_write 0 = .ok (.aload_n 0, 1) := by decide +kernel
theorem dX6_write_1 : decode cX6_write 1 = .ok (.getfield 26, 3) := by decide +kernel
theorem dX6_write_4 : decode cX6_write 4 = .ok (.aload_n 0, 1) := by decide +kernel
theorem dX6_write_5 : decode cX6_write 5 = .ok (.getfield 12, 3) := by decide +kernel
theorem dX6_write_8 : decode cX6_write 8 = .ok (.invokevirtual 37, 3) := by decide +kernel
theorem dX6_write_11 : decode cX6_write 11 = .ok (.aload_n 0, 1) := by decide +kernel
theorem dX6_write_12 : decode cX6_write 12 = .ok (.getfield 26, 3) := by decide +kernel
theorem dX6_write_15 : decode cX6_write 15 = .ok (.aload_n 0, 1) := by decide +kernel
theorem dX6_write_16 : decode cX6_write 16 = .ok (.iload_n 1, 1) := by decide +kernel
theorem dX6_write_17 : decode cX6_write 17 = .ok (.iload_n 2, 1) := by decide +kernel
theorem dX6_write_18 : decode cX6_write 18 = .ok (.iload_n 3, 1) := by decide +kernel
theorem dX6_write_19 : decode cX6_write 19 = .ok (.invokevirtual 180, 3) := by decide +kernel
theorem dX6_write_22 : decode cX6_write 22 = .ok (.invokevirtual 45, 3) := by decide +kernel
theorem dX6_write_25 : decode cX6_write 25 = .ok (.ireturn, 1) := by decide +kernel
theorem dX6_read_0 : decode cX6_read 0 = .ok (.aload_n 0, 1) := by decide +kernel
theorem dX6_read_1 : decode cX6_read 1 = .ok (.getfield 26, 3) := by decide +kernel
theorem dX6_read_4 : decode cX6_read 4 = .ok (.aload_n 0, 1) := by decide +kernel
theorem dX6_read_5 : decode cX6_read 5 = .ok (.getfield 12, 3) := by decide +kernel
theorem dX6_read_8 : decode cX6_read 8 = .ok (.invokevirtual 37, 3) := by decide +kernel
theorem dX6_read_11 : decode cX6_read 11 = .ok (.aload_n 0, 1) := by decide +kernel
theorem dX6_read_12 : decode cX6_read 12 = .ok (.getfield 26, 3) := by decide +kernel
theorem dX6_read_15 : decode cX6_read 15 = .ok (.aload_n 0, 1) := by decide +kernel
theorem dX6_read_16 : decode cX6_read 16 = .ok (.iload_n 1, 1) := by decide +kernel
theorem dX6_read_17 : decode cX6_read 17 = .ok (.iload_n 2, 1) := by decide +kernel
theorem dX6_read_18 : decode cX6_read 18 = .ok (.invokevirtual 183, 3) := by decide +kernel
theorem dX6_read_21 : decode cX6_read 21 = .ok (.invokevirtual 45, 3) := by decide +kernel
theorem dX6_read_24 : decode cX6_read 24 = .ok (.ireturn, 1) := by decide +kernel
theorem dX6_readAt_0 : decode cX6_readAt 0 = .ok (.aload_n 0, 1) := by decide +kernel
theorem dX6_readAt_1 : decode cX6_readAt 1 = .ok (.getfield 26, 3) := by decide +kernel
theorem dX6_readAt_4 : decode cX6_readAt 4 = .ok (.aload_n 0, 1) := by decide +kernel
theorem dX6_readAt_5 : decode cX6_readAt 5 = .ok (.getfield 12, 3) := by decide +kernel
theorem dX6_readAt_8 : decode cX6_readAt 8 = .ok (.invokevirtual 37, 3) := by decide +kernel
theorem dX6_readAt_11 : decode cX6_readAt 11 = .ok (.aload_n 0, 1) := by decide +kernel
theorem dX6_readAt_12 : decode cX6_readAt 12 = .ok (.getfield 26, 3) := by decide +kernel
theorem dX6_readAt_15 : decode cX6_readAt 15 = .ok (.aload_n 0, 1) := by decide +kernel
theorem dX6_readAt_16 : decode cX6_readAt 16 = .ok (.iload_n 1, 1) := by decide +kernel
theorem dX6_readAt_17 : decode cX6_readAt 17 = .ok (.iload_n 2, 1) := by decide +kernel
theorem dX6_readAt_18 : decode cX6_readAt 18 = .ok (.iload_n 3, 1) := by decide +kernel
theorem dX6_readAt_19 : decode cX6_readAt 19 = .ok (.invokevirtual 186, 3) := by decide +kernel
theorem dX6_readAt_22 : decode cX6_readAt 22 = .ok (.invokevirtual 45, 3) := by decide +kernel
theorem dX6_readAt_25 : decode cX6_readAt 25 = .ok (.ireturn, 1) := by decide +kernel
theorem dX6_latest_0 : decode cX6_latest 0 = .ok (.iload_n 1, 1) := by decide +kernel
theorem dX6_latest_1 : decode cX6_latest 1 = .ok (.iconst 0, 1) := by decide +kernel
theorem dX6_latest_2 : decode cX6_latest 2 = .ok (.iconst 2, 1) := by decide +kernel
theorem dX6_latest_3 : decode cX6_latest 3 = .ok (.invokestatic 189, 3) := by decide +kernel
theorem dX6_latest_6 : decode cX6_latest 6 = .ok (.ifCond .ne 6, 3) := by decide +kernel
theorem dX6_latest_9 : decode cX6_latest 9 = .ok (.bipush (-2), 2) := by decide +kernel
theorem dX6_latest_11 : decode cX6_latest 11 = .ok (.ireturn, 1) := by decide +kernel
theorem dX6_latest_12 : decode cX6_latest 12 = .ok (.aload_n 0, 1) := by decide +kernel
theorem dX6_latest_13 : decode cX6_latest 13 = .ok (.getfield 12, 3) := by decide +kernel
theorem dX6_latest_16 : decode cX6_latest 16 = .ok (.getfield 193, 3) := by decide +kernel
theorem dX6_latest_19 : decode cX6_latest 19 = .ok (.bipush (-6), 2) := by decide +kernel
theorem dX6_latest_21 : decode cX6_latest 21 = .ok (.if_icmp .ne 6, 3) := by decide +kernel
theorem dX6_latest_24 : decode cX6_latest 24 = .ok (.bipush (-6), 2) := by decide +kernel
theorem dX6_latest_26 : decode cX6_latest 26 = .ok (.ireturn, 1) := by decide +kernel
theorem dX6_latest_27 : decode cX6_latest 27 = .ok (.iload_n 1, 1) := by decide +kernel
theorem dX6_latest_28 : decode cX6_latest 28 = .ok (.lookupswitch 44 #[(0, 28), (1, 36)], 28) := by decide +kernel
theorem dX6_latest_56 : decode cX6_latest 56 = .ok (.aload_n 0, 1) := by decide +kernel
theorem dX6_latest_57 : decode cX6_latest 57 = .ok (.getfield 12, 3) := by decide +kernel
theorem dX6_latest_60 : decode cX6_latest 60 = .ok (.getfield 193, 3) := by decide +kernel
theorem dX6_latest_63 : decode cX6_latest 63 = .ok (.ireturn, 1) := by decide +kernel
theorem dX6_latest_64 : decode cX6_latest 64 = .ok (.aload_n 0, 1) := by decide +kernel
theorem dX6_latest_65 : decode cX6_latest 65 = .ok (.getfield 12, 3) := by decide +kernel
theorem dX6_latest_68 : decode cX6_latest 68 = .ok (.getfield 196, 3) := by decide +kernel
theorem dX6_latest_71 : decode cX6_latest 71 = .ok (.ireturn, 1) := by decide +kernel
theorem dX6_latest_72 : decode cX6_latest 72 = .ok (.aload_n 0, 1) := by decide +kernel
theorem dX6_latest_73 : decode cX6_latest 73 = .ok (.getfield 12, 3) := by decide +kernel
theorem dX6_latest_76 : decode cX6_latest 76 = .ok (.getfield 199, 3) := by decide +kernel
theorem dX6_latest_79 : decode cX6_latest 79 = .ok (.ireturn, 1) := by decide +kernel
theorem dX6_waitFor_0 : decode cX6_waitFor 0 = .ok (.aload_n 0, 1) := by decide +kernel
theorem dX6_waitFor_1 : decode cX6_waitFor 1 = .ok (.getfield 12, 3) := by decide +kernel
theorem dX6_waitFor_4 : decode cX6_waitFor 4 = .ok (.iload_n 1, 1) := by decide +kernel
theorem dX6_waitFor_5 : decode cX6_waitFor 5 = .ok (.invokevirtual 147, 3) := by decide +kernel
theorem dX6_waitFor_8 : decode cX6_waitFor 8 = .ok (.astore 4, 2) := by decide +kernel
theorem dX6_waitFor_10 : decode cX6_waitFor 10 = .ok (.aload 4, 2) := by decide +kernel
theorem dX6_waitFor_12 : decode cX6_waitFor 12 = .ok (.ifnull 21, 3) := by decide +kernel
theorem dX6_waitFor_15 : decode cX6_waitFor 15 = .ok (.iload_n 2, 1) := by decide +kernel
theorem dX6_waitFor_16 : decode cX6_waitFor 16 = .ok (.invokestatic 113, 3) := by decide +kernel
theorem dX6_waitFor_19 : decode cX6_waitFor 19 = .ok (.ifCond .eq 14, 3) := by decide +kernel
theorem dX6_waitFor_22 : decode cX6_waitFor 22 = .ok (.aload_n 0, 1) := by decide +kernel
theorem dX6_waitFor_23 : decode cX6_waitFor 23 = .ok (.getfield 12, 3) := by decide +kernel
theorem dX6_waitFor_26 : decode cX6_waitFor 26 = .ok (.iload_n 3, 1) := by decide +kernel
theorem dX6_waitFor_27 : decode cX6_waitFor 27 = .ok (.invokevirtual 110, 3) := by decide +kernel
theorem dX6_waitFor_30 : decode cX6_waitFor 30 = .ok (.ifCond .ne 5, 3) := by decide +kernel
theorem dX6_waitFor_33 : decode cX6_waitFor 33 = .ok (.iconst (-1), 1) := by decide +kernel
theorem dX6_waitFor_34 : decode cX6_waitFor 34 = .ok (.ireturn, 1) := by decide +kernel
theorem dX6_waitFor_35 : decode cX6_waitFor 35 = .ok (.aload_n 0, 1) := by decide +kernel
theorem dX6_waitFor_36 : decode cX6_waitFor 36 = .ok (.getfield 12, 3) := by decide +kernel
theorem dX6_waitFor_39 : decode cX6_waitFor 39 = .ok (.aload 4, 2) := by decide +kernel
theorem dX6_waitFor_41 : decode cX6_waitFor 41 = .ok (.iload_n 2, 1) := by decide +kernel
theorem dX6_waitFor_42 : decode cX6_waitFor 42 = .ok (.iload_n 3, 1) := by decide +kernel
theorem dX6_waitFor_43 : decode cX6_waitFor 43 = .ok (.invokevirtual 202, 3) := by decide +kernel
theorem dX6_waitFor_46 : decode cX6_waitFor 46 = .ok (.ireturn, 1) := by decide +kernel
theorem dX6_bestReplica_0 : decode cX6_bestReplica 0 = .ok (.aload_n 0, 1) := by decide +kernel
theorem dX6_bestReplica_1 : decode cX6_bestReplica 1 = .ok (.getfield 12, 3) := by decide +kernel
theorem dX6_bestReplica_4 : decode cX6_bestReplica 4 = .ok (.iload_n 1, 1) := by decide +kernel
theorem dX6_bestReplica_5 : decode cX6_bestReplica 5 = .ok (.invokevirtual 147, 3) := by decide +kernel
theorem dX6_bestReplica_8 : decode cX6_bestReplica 8 = .ok (.astore_n 3, 1) := by decide +kernel
theorem dX6_bestReplica_9 : decode cX6_bestReplica 9 = .ok (.aload_n 3, 1) := by decide +kernel
theorem dX6_bestReplica_10 : decode cX6_bestReplica 10 = .ok (.ifnull 10, 3) := by decide +kernel
theorem dX6_bestReplica_13 : decode cX6_bestReplica 13 = .ok (.iload_n 2, 1) := by decide +kernel
theorem dX6_bestReplica_14 : decode cX6_bestReplica 14 = .ok (.invokestatic 113, 3) := by decide +kernel
theorem dX6_bestReplica_17 : decode cX6_bestReplica 17 = .ok (.ifCond .ne 5, 3) := by decide +kernel
theorem dX6_bestReplica_20 : decode cX6_bestReplica 20 = .ok (.iconst (-1), 1) := by decide +kernel
theorem dX6_bestReplica_21 : decode cX6_bestReplica 21 = .ok (.ireturn, 1) := by decide +kernel
theorem dX6_bestReplica_22 : decode cX6_bestReplica 22 = .ok (.bipush (-6), 2) := by decide +kernel
theorem dX6_bestReplica_24 : decode cX6_bestReplica 24 = .ok (.istore 4, 2) := by decide +kernel
theorem dX6_bestReplica_26 : decode cX6_bestReplica 26 = .ok (.iconst 0, 1) := by decide +kernel
theorem dX6_bestReplica_27 : decode cX6_bestReplica 27 = .ok (.istore 5, 2) := by decide +kernel
theorem dX6_bestReplica_29 : decode cX6_bestReplica 29 = .ok (.iconst 0, 1) := by decide +kernel
theorem dX6_bestReplica_30 : decode cX6_bestReplica 30 = .ok (.istore 6, 2) := by decide +kernel
theorem dX6_bestReplica_32 : decode cX6_bestReplica 32 = .ok (.iload 6, 2) := by decide +kernel
theorem dX6_bestReplica_34 : decode cX6_bestReplica 34 = .ok (.iconst 5, 1) := by decide +kernel
theorem dX6_bestReplica_35 : decode cX6_bestReplica 35 = .ok (.if_icmp .ge 51, 3) := by decide +kernel
theorem dX6_bestReplica_38 : decode cX6_bestReplica 38 = .ok (.aload_n 0, 1) := by decide +kernel
theorem dX6_bestReplica_39 : decode cX6_bestReplica 39 = .ok (.getfield 12, 3) := by decide +kernel
theorem dX6_bestReplica_42 : decode cX6_bestReplica 42 = .ok (.aload_n 3, 1) := by decide +kernel
theorem dX6_bestReplica_43 : decode cX6_bestReplica 43 = .ok (.iload_n 2, 1) := by decide +kernel
theorem dX6_bestReplica_44 : decode cX6_bestReplica 44 = .ok (.iload 6, 2) := by decide +kernel
theorem dX6_bestReplica_46 : decode cX6_bestReplica 46 = .ok (.invokevirtual 202, 3) := by decide +kernel
theorem dX6_bestReplica_49 : decode cX6_bestReplica 49 = .ok (.istore 7, 2) := by decide +kernel
theorem dX6_bestReplica_51 : decode cX6_bestReplica 51 = .ok (.iload 7, 2) := by decide +kernel
theorem dX6_bestReplica_53 : decode cX6_bestReplica 53 = .ok (.bipush (-6), 2) := by decide +kernel
theorem dX6_bestReplica_55 : decode cX6_bestReplica 55 = .ok (.if_icmp .eq 25, 3) := by decide +kernel
theorem dX6_bestReplica_58 : decode cX6_bestReplica 58 = .ok (.iload 4, 2) := by decide +kernel
theorem dX6_bestReplica_60 : decode cX6_bestReplica 60 = .ok (.bipush (-6), 2) := by decide +kernel
theorem dX6_bestReplica_62 : decode cX6_bestReplica 62 = .ok (.if_icmp .eq 10, 3) := by decide +kernel
theorem dX6_bestReplica_65 : decode cX6_bestReplica 65 = .ok (.iload 7, 2) := by decide +kernel
theorem dX6_bestReplica_67 : decode cX6_bestReplica 67 = .ok (.iload 5, 2) := by decide +kernel
theorem dX6_bestReplica_69 : decode cX6_bestReplica 69 = .ok (.if_icmp .ge 11, 3) := by decide +kernel
theorem dX6_bestReplica_72 : decode cX6_bestReplica 72 = .ok (.iload 6, 2) := by decide +kernel
theorem dX6_bestReplica_74 : decode cX6_bestReplica 74 = .ok (.istore 4, 2) := by decide +kernel
theorem dX6_bestReplica_76 : decode cX6_bestReplica 76 = .ok (.iload 7, 2) := by decide +kernel
theorem dX6_bestReplica_78 : decode cX6_bestReplica 78 = .ok (.istore 5, 2) := by decide +kernel
theorem dX6_bestReplica_80 : decode cX6_bestReplica 80 = .ok (.iinc 6 1, 3) := by decide +kernel
theorem dX6_bestReplica_83 : decode cX6_bestReplica 83 = .ok (.goto (-51), 3) := by decide +kernel
theorem dX6_bestReplica_86 : decode cX6_bestReplica 86 = .ok (.iload 4, 2) := by decide +kernel
theorem dX6_bestReplica_88 : decode cX6_bestReplica 88 = .ok (.ireturn, 1) := by decide +kernel
theorem dX6_keysAfter_0 : decode cX6_keysAfter 0 = .ok (.aload_n 0, 1) := by decide +kernel
theorem dX6_keysAfter_1 : decode cX6_keysAfter 1 = .ok (.getfield 12, 3) := by decide +kernel
theorem dX6_keysAfter_4 : decode cX6_keysAfter 4 = .ok (.iload_n 1, 1) := by decide +kernel
theorem dX6_keysAfter_5 : decode cX6_keysAfter 5 = .ok (.invokevirtual 147, 3) := by decide +kernel
theorem dX6_keysAfter_8 : decode cX6_keysAfter 8 = .ok (.astore 4, 2) := by decide +kernel
theorem dX6_keysAfter_10 : decode cX6_keysAfter 10 = .ok (.aload 4, 2) := by decide +kernel
theorem dX6_keysAfter_12 : decode cX6_keysAfter 12 = .ok (.ifnull 14, 3) := by decide +kernel
theorem dX6_keysAfter_15 : decode cX6_keysAfter 15 = .ok (.aload_n 0, 1) := by decide +kernel
theorem dX6_keysAfter_16 : decode cX6_keysAfter 16 = .ok (.getfield 12, 3) := by decide +kernel
theorem dX6_keysAfter_19 : decode cX6_keysAfter 19 = .ok (.iload_n 2, 1) := by decide +kernel
theorem dX6_keysAfter_20 : decode cX6_keysAfter 20 = .ok (.invokevirtual 110, 3) := by decide +kernel
theorem dX6_keysAfter_23 : decode cX6_keysAfter 23 = .ok (.ifCond .ne 5, 3) := by decide +kernel
theorem dX6_keysAfter_26 : decode cX6_keysAfter 26 = .ok (.iconst (-1), 1) := by decide +kernel
theorem dX6_keysAfter_27 : decode cX6_keysAfter 27 = .ok (.ireturn, 1) := by decide +kernel
theorem dX6_keysAfter_28 : decode cX6_keysAfter 28 = .ok (.iload_n 3, 1) := by decide +kernel
theorem dX6_keysAfter_29 : decode cX6_keysAfter 29 = .ok (.iconst 0, 1) := by decide +kernel
theorem dX6_keysAfter_30 : decode cX6_keysAfter 30 = .ok (.bipush 99, 2) := by decide +kernel
theorem dX6_keysAfter_32 : decode cX6_keysAfter 32 = .ok (.invokestatic 189, 3) := by decide +kernel
theorem dX6_keysAfter_35 : decode cX6_keysAfter 35 = .ok (.ifCond .ne 6, 3) := by decide +kernel
theorem dX6_keysAfter_38 : decode cX6_keysAfter 38 = .ok (.bipush (-2), 2) := by decide +kernel
theorem dX6_keysAfter_40 : decode cX6_keysAfter 40 = .ok (.ireturn, 1) := by decide +kernel
theorem dX6_keysAfter_41 : decode cX6_keysAfter 41 = .ok (.iconst 0, 1) := by decide +kernel
theorem dX6_keysAfter_42 : decode cX6_keysAfter 42 = .ok (.istore 5, 2) := by decide +kernel
theorem dX6_keysAfter_44 : decode cX6_keysAfter 44 = .ok (.iconst 0, 1) := by decide +kernel
theorem dX6_keysAfter_45 : decode cX6_keysAfter 45 = .ok (.istore 6, 2) := by decide +kernel
theorem dX6_keysAfter_47 : decode cX6_keysAfter 47 = .ok (.iload 6, 2) := by decide +kernel
theorem dX6_keysAfter_49 : decode cX6_keysAfter 49 = .ok (.bipush 12, 2) := by decide +kernel
theorem dX6_keysAfter_51 : decode cX6_keysAfter 51 = .ok (.if_icmp .ge 39, 3) := by decide +kernel
theorem dX6_keysAfter_54 : decode cX6_keysAfter 54 = .ok (.aload_n 0, 1) := by decide +kernel
theorem dX6_keysAfter_55 : decode cX6_keysAfter 55 = .ok (.getfield 12, 3) := by decide +kernel
theorem dX6_keysAfter_58 : decode cX6_keysAfter 58 = .ok (.aload 4, 2) := by decide +kernel
theorem dX6_keysAfter_60 : decode cX6_keysAfter 60 = .ok (.iload 6, 2) := by decide +kernel
theorem dX6_keysAfter_62 : decode cX6_keysAfter 62 = .ok (.iload_n 2, 1) := by decide +kernel
theorem dX6_keysAfter_63 : decode cX6_keysAfter 63 = .ok (.invokevirtual 202, 3) := by decide +kernel
theorem dX6_keysAfter_66 : decode cX6_keysAfter 66 = .ok (.istore 7, 2) := by decide +kernel
theorem dX6_keysAfter_68 : decode cX6_keysAfter 68 = .ok (.iload 7, 2) := by decide +kernel
theorem dX6_keysAfter_70 : decode cX6_keysAfter 70 = .ok (.bipush (-6), 2) := by decide +kernel
theorem dX6_keysAfter_72 : decode cX6_keysAfter 72 = .ok (.if_icmp .eq 12, 3) := by decide +kernel
theorem dX6_keysAfter_75 : decode cX6_keysAfter 75 = .ok (.iload 7, 2) := by decide +kernel
theorem dX6_keysAfter_77 : decode cX6_keysAfter 77 = .ok (.iload_n 3, 1) := by decide +kernel
theorem dX6_keysAfter_78 : decode cX6_keysAfter 78 = .ok (.if_icmp .gt 6, 3) := by decide +kernel
theorem dX6_keysAfter_81 : decode cX6_keysAfter 81 = .ok (.iinc 5 1, 3) := by decide +kernel
theorem dX6_keysAfter_84 : decode cX6_keysAfter 84 = .ok (.iinc 6 1, 3) := by decide +kernel
theorem dX6_keysAfter_87 : decode cX6_keysAfter 87 = .ok (.goto (-40), 3) := by decide +kernel
theorem dX6_keysAfter_90 : decode cX6_keysAfter 90 = .ok (.iload 5, 2) := by decide +kernel
theorem dX6_keysAfter_92 : decode cX6_keysAfter 92 = .ok (.ireturn, 1) := by decide +kernel
theorem dX6_catchUp_0 : decode cX6_catchUp 0 = .ok (.iconst 0, 1) := by decide +kernel
theorem dX6_catchUp_1 : decode cX6_catchUp 1 = .ok (.istore_n 1, 1) := by decide +kernel
theorem dX6_catchUp_2 : decode cX6_catchUp 2 = .ok (.iconst 0, 1) := by decide +kernel
theorem dX6_catchUp_3 : decode cX6_catchUp 3 = .ok (.istore_n 2, 1) := by decide +kernel
theorem dX6_catchUp_4 : decode cX6_catchUp 4 = .ok (.iload_n 2, 1) := by decide +kernel
theorem dX6_catchUp_5 : decode cX6_catchUp 5 = .ok (.iconst 5, 1) := by decide +kernel
theorem dX6_catchUp_6 : decode cX6_catchUp 6 = .ok (.if_icmp .ge 55, 3) := by decide +kernel
theorem dX6_catchUp_9 : decode cX6_catchUp 9 = .ok (.aload_n 0, 1) := by decide +kernel
theorem dX6_catchUp_10 : decode cX6_catchUp 10 = .ok (.getfield 12, 3) := by decide +kernel
theorem dX6_catchUp_13 : decode cX6_catchUp 13 = .ok (.iload_n 2, 1) := by decide +kernel
theorem dX6_catchUp_14 : decode cX6_catchUp 14 = .ok (.invokevirtual 69, 3) := by decide +kernel
theorem dX6_catchUp_17 : decode cX6_catchUp 17 = .ok (.astore_n 3, 1) := by decide +kernel
theorem dX6_catchUp_18 : decode cX6_catchUp 18 = .ok (.aload_n 3, 1) := by decide +kernel
theorem dX6_catchUp_19 : decode cX6_catchUp 19 = .ok (.ifnull 36, 3) := by decide +kernel
theorem dX6_catchUp_22 : decode cX6_catchUp 22 = .ok (.aload_n 3, 1) := by decide +kernel
theorem dX6_catchUp_23 : decode cX6_catchUp 23 = .ok (.aload_n 0, 1) := by decide +kernel
theorem dX6_catchUp_24 : decode cX6_catchUp 24 = .ok (.getfield 12, 3) := by decide +kernel
theorem dX6_catchUp_27 : decode cX6_catchUp 27 = .ok (.getfield 85, 3) := by decide +kernel
theorem dX6_catchUp_30 : decode cX6_catchUp 30 = .ok (.getfield 89, 3) := by decide +kernel
theorem dX6_catchUp_33 : decode cX6_catchUp 33 = .ok (.invokevirtual 206, 3) := by decide +kernel
theorem dX6_catchUp_36 : decode cX6_catchUp 36 = .ok (.istore 4, 2) := by decide +kernel
theorem dX6_catchUp_38 : decode cX6_catchUp 38 = .ok (.iload 4, 2) := by decide +kernel
theorem dX6_catchUp_40 : decode cX6_catchUp 40 = .ok (.bipush (-6), 2) := by decide +kernel
theorem dX6_catchUp_42 : decode cX6_catchUp 42 = .ok (.if_icmp .ne 6, 3) := by decide +kernel
theorem dX6_catchUp_45 : decode cX6_catchUp 45 = .ok (.bipush (-6), 2) := by decide +kernel
theorem dX6_catchUp_47 : decode cX6_catchUp 47 = .ok (.ireturn, 1) := by decide +kernel
theorem dX6_catchUp_48 : decode cX6_catchUp 48 = .ok (.iload_n 1, 1) := by decide +kernel
theorem dX6_catchUp_49 : decode cX6_catchUp 49 = .ok (.iload 4, 2) := by decide +kernel
theorem dX6_catchUp_51 : decode cX6_catchUp 51 = .ok (.invokestatic 209, 3) := by decide +kernel
theorem dX6_catchUp_54 : decode cX6_catchUp 54 = .ok (.istore_n 1, 1) := by decide +kernel
theorem dX6_catchUp_55 : decode cX6_catchUp 55 = .ok (.iinc 2 1, 3) := by decide +kernel
theorem dX6_catchUp_58 : decode cX6_catchUp 58 = .ok (.goto (-54), 3) := by decide +kernel
theorem dX6_catchUp_61 : decode cX6_catchUp 61 = .ok (.iload_n 1, 1) := by decide +kernel
theorem dX6_catchUp_62 : decode cX6_catchUp 62 = .ok (.ireturn, 1) := by decide +kernel
theorem dX6_startReplica_0 : decode cX6_startReplica 0 = .ok (.iload_n 2, 1) := by decide +kernel
theorem dX6_startReplica_1 : decode cX6_startReplica 1 = .ok (.bipush (-6), 2) := by decide +kernel
theorem dX6_startReplica_3 : decode cX6_startReplica 3 = .ok (.if_icmp .ne 7, 3) := by decide +kernel
theorem dX6_startReplica_6 : decode cX6_startReplica 6 = .ok (.iconst 0, 1) := by decide +kernel
theorem dX6_startReplica_7 : decode cX6_startReplica 7 = .ok (.goto 11, 3) := by decide +kernel
theorem dX6_startReplica_10 : decode cX6_startReplica 10 = .ok (.aload_n 0, 1) := by decide +kernel
theorem dX6_startReplica_11 : decode cX6_startReplica 11 = .ok (.getfield 12, 3) := by decide +kernel
theorem dX6_startReplica_14 : decode cX6_startReplica 14 = .ok (.iload_n 2, 1) := by decide +kernel
theorem dX6_startReplica_15 : decode cX6_startReplica 15 = .ok (.invokevirtual 107, 3) := by decide +kernel
theorem dX6_startReplica_18 : decode cX6_startReplica 18 = .ok (.istore_n 3, 1) := by decide +kernel
theorem dX6_startReplica_19 : decode cX6_startReplica 19 = .ok (.iload_n 3, 1) := by decide +kernel
theorem dX6_startReplica_20 : decode cX6_startReplica 20 = .ok (.iconst (-1), 1) := by decide +kernel
theorem dX6_startReplica_21 : decode cX6_startReplica 21 = .ok (.if_icmp .ne 5, 3) := by decide +kernel
theorem dX6_startReplica_24 : decode cX6_startReplica 24 = .ok (.iconst (-1), 1) := by decide +kernel
theorem dX6_startReplica_25 : decode cX6_startReplica 25 = .ok (.ireturn, 1) := by decide +kernel
theorem dX6_startReplica_26 : decode cX6_startReplica 26 = .ok (.iload_n 1, 1) := by decide +kernel
theorem dX6_startReplica_27 : decode cX6_startReplica 27 = .ok (.iconst 0, 1) := by decide +kernel
theorem dX6_startReplica_28 : decode cX6_startReplica 28 = .ok (.bipush 9, 2) := by decide +kernel
theorem dX6_startReplica_30 : decode cX6_startReplica 30 = .ok (.invokestatic 189, 3) := by decide +kernel
theorem dX6_startReplica_33 : decode cX6_startReplica 33 = .ok (.ifCond .ne 6, 3) := by decide +kernel
theorem dX6_startReplica_36 : decode cX6_startReplica 36 = .ok (.bipush (-2), 2) := by decide +kernel
theorem dX6_startReplica_38 : decode cX6_startReplica 38 = .ok (.ireturn, 1) := by decide +kernel
theorem dX6_startReplica_39 : decode cX6_startReplica 39 = .ok (.aload_n 0, 1) := by decide +kernel
theorem dX6_startReplica_40 : decode cX6_startReplica 40 = .ok (.getfield 12, 3) := by decide +kernel
theorem dX6_startReplica_43 : decode cX6_startReplica 43 = .ok (.iload_n 1, 1) := by decide +kernel
theorem dX6_startReplica_44 : decode cX6_startReplica 44 = .ok (.iload_n 3, 1) := by decide +kernel
theorem dX6_startReplica_45 : decode cX6_startReplica 45 = .ok (.invokevirtual 246, 3) := by decide +kernel
theorem dX6_startReplica_48 : decode cX6_startReplica 48 = .ok (.ireturn, 1) := by decide +kernel
theorem dX6_removeReplica_0 : decode cX6_removeReplica 0 = .ok (.aload_n 0, 1) := by decide +kernel
theorem dX6_removeReplica_1 : decode cX6_removeReplica 1 = .ok (.getfield 12, 3) := by decide +kernel
theorem dX6_removeReplica_4 : decode cX6_removeReplica 4 = .ok (.iload_n 1, 1) := by decide +kernel
theorem dX6_removeReplica_5 : decode cX6_removeReplica 5 = .ok (.invokevirtual 69, 3) := by decide +kernel
theorem dX6_removeReplica_8 : decode cX6_removeReplica 8 = .ok (.astore_n 2, 1) := by decide +kernel
theorem dX6_removeReplica_9 : decode cX6_removeReplica 9 = .ok (.aload_n 2, 1) := by decide +kernel
theorem dX6_removeReplica_10 : decode cX6_removeReplica 10 = .ok (.ifnonnull 5, 3) := by decide +kernel
theorem dX6_removeReplica_13 : decode cX6_removeReplica 13 = .ok (.iconst (-1), 1) := by decide +kernel
theorem dX6_removeReplica_14 : decode cX6_removeReplica 14 = .ok (.ireturn, 1) := by decide +kernel
theorem dX6_removeReplica_15 : decode cX6_removeReplica 15 = .ok (.aload_n 2, 1) := by decide +kernel
theorem dX6_removeReplica_16 : decode cX6_removeReplica 16 = .ok (.iconst 0, 1) := by decide +kernel
theorem dX6_removeReplica_17 : decode cX6_removeReplica 17 = .ok (.putfield 249, 3) := by decide +kernel
theorem dX6_removeReplica_20 : decode cX6_removeReplica 20 = .ok (.aload_n 0, 1) := by decide +kernel
theorem dX6_removeReplica_21 : decode cX6_removeReplica 21 = .ok (.getfield 12, 3) := by decide +kernel
theorem dX6_removeReplica_24 : decode cX6_removeReplica 24 = .ok (.iload_n 1, 1) := by decide +kernel
theorem dX6_removeReplica_25 : decode cX6_removeReplica 25 = .ok (.invokevirtual 252, 3) := by decide +kernel
theorem dX6_removeReplica_28 : decode cX6_removeReplica 28 = .ok (.ireturn, 1) := by decide +kernel
theorem dX6_changeRate_0 : decode cX6_changeRate 0 = .ok (.aload_n 0, 1) := by decide +kernel
theorem dX6_changeRate_1 : decode cX6_changeRate 1 = .ok (.getfield 12, 3) := by decide +kernel
theorem dX6_changeRate_4 : decode cX6_changeRate 4 = .ok (.iload_n 1, 1) := by decide +kernel
theorem dX6_changeRate_5 : decode cX6_changeRate 5 = .ok (.invokevirtual 69, 3) := by decide +kernel
theorem dX6_changeRate_8 : decode cX6_changeRate 8 = .ok (.astore_n 3, 1) := by decide +kernel
theorem dX6_changeRate_9 : decode cX6_changeRate 9 = .ok (.aload_n 3, 1) := by decide +kernel
theorem dX6_changeRate_10 : decode cX6_changeRate 10 = .ok (.ifnonnull 5, 3) := by decide +kernel
theorem dX6_changeRate_13 : decode cX6_changeRate 13 = .ok (.iconst (-1), 1) := by decide +kernel
theorem dX6_changeRate_14 : decode cX6_changeRate 14 = .ok (.ireturn, 1) := by decide +kernel
theorem dX6_changeRate_15 : decode cX6_changeRate 15 = .ok (.iload_n 2, 1) := by decide +kernel
theorem dX6_changeRate_16 : decode cX6_changeRate 16 = .ok (.iconst 0, 1) := by decide +kernel
theorem dX6_changeRate_17 : decode cX6_changeRate 17 = .ok (.bipush 9, 2) := by decide +kernel
theorem dX6_changeRate_19 : decode cX6_changeRate 19 = .ok (.invokestatic 189, 3) := by decide +kernel
theorem dX6_changeRate_22 : decode cX6_changeRate 22 = .ok (.ifCond .ne 6, 3) := by decide +kernel
theorem dX6_changeRate_25 : decode cX6_changeRate 25 = .ok (.bipush (-2), 2) := by decide +kernel
theorem dX6_changeRate_27 : decode cX6_changeRate 27 = .ok (.ireturn, 1) := by decide +kernel
theorem dX6_changeRate_28 : decode cX6_changeRate 28 = .ok (.aload_n 3, 1) := by decide +kernel
theorem dX6_changeRate_29 : decode cX6_changeRate 29 = .ok (.getfield 73, 3) := by decide +kernel
theorem dX6_changeRate_32 : decode cX6_changeRate 32 = .ok (.istore 4, 2) := by decide +kernel
theorem dX6_changeRate_34 : decode cX6_changeRate 34 = .ok (.aload_n 3, 1) := by decide +kernel
theorem dX6_changeRate_35 : decode cX6_changeRate 35 = .ok (.iload_n 2, 1) := by decide +kernel
theorem dX6_changeRate_36 : decode cX6_changeRate 36 = .ok (.putfield 73, 3) := by decide +kernel
theorem dX6_changeRate_39 : decode cX6_changeRate 39 = .ok (.iload 4, 2) := by decide +kernel
theorem dX6_changeRate_41 : decode cX6_changeRate 41 = .ok (.ireturn, 1) := by decide +kernel
theorem dX6_changeStopped_0 : decode cX6_changeStopped 0 = .ok (.aload_n 0, 1) := by decide +kernel
theorem dX6_changeStopped_1 : decode cX6_changeStopped 1 = .ok (.getfield 12, 3) := by decide +kernel
theorem dX6_changeStopped_4 : decode cX6_changeStopped 4 = .ok (.iload_n 1, 1) := by decide +kernel
theorem dX6_changeStopped_5 : decode cX6_changeStopped 5 = .ok (.invokevirtual 69, 3) := by decide +kernel
theorem dX6_changeStopped_8 : decode cX6_changeStopped 8 = .ok (.astore_n 3, 1) := by decide +kernel
theorem dX6_changeStopped_9 : decode cX6_changeStopped 9 = .ok (.aload_n 3, 1) := by decide +kernel
theorem dX6_changeStopped_10 : decode cX6_changeStopped 10 = .ok (.ifnonnull 5, 3) := by decide +kernel
theorem dX6_changeStopped_13 : decode cX6_changeStopped 13 = .ok (.iconst (-1), 1) := by decide +kernel
theorem dX6_changeStopped_14 : decode cX6_changeStopped 14 = .ok (.ireturn, 1) := by decide +kernel
theorem dX6_changeStopped_15 : decode cX6_changeStopped 15 = .ok (.aload_n 3, 1) := by decide +kernel
theorem dX6_changeStopped_16 : decode cX6_changeStopped 16 = .ok (.getfield 79, 3) := by decide +kernel
theorem dX6_changeStopped_19 : decode cX6_changeStopped 19 = .ok (.ifCond .eq 7, 3) := by decide +kernel
theorem dX6_changeStopped_22 : decode cX6_changeStopped 22 = .ok (.iconst 1, 1) := by decide +kernel
theorem dX6_changeStopped_23 : decode cX6_changeStopped 23 = .ok (.goto 4, 3) := by decide +kernel
theorem dX6_changeStopped_26 : decode cX6_changeStopped 26 = .ok (.iconst 0, 1) := by decide +kernel
theorem dX6_changeStopped_27 : decode cX6_changeStopped 27 = .ok (.istore 4, 2) := by decide +kernel
theorem dX6_changeStopped_29 : decode cX6_changeStopped 29 = .ok (.aload_n 3, 1) := by decide +kernel
theorem dX6_changeStopped_30 : decode cX6_changeStopped 30 = .ok (.iload_n 2, 1) := by decide +kernel
theorem dX6_changeStopped_31 : decode cX6_changeStopped 31 = .ok (.putfield 79, 3) := by decide +kernel
theorem dX6_changeStopped_34 : decode cX6_changeStopped 34 = .ok (.iload 4, 2) := by decide +kernel
theorem dX6_changeStopped_36 : decode cX6_changeStopped 36 = .ok (.ireturn, 1) := by decide +kernel
theorem dX6_setBack_0 : decode cX6_setBack 0 = .ok (.aload_n 0, 1) := by decide +kernel
theorem dX6_setBack_1 : decode cX6_setBack 1 = .ok (.getfield 12, 3) := by decide +kernel
theorem dX6_setBack_4 : decode cX6_setBack 4 = .ok (.iload_n 1, 1) := by decide +kernel
theorem dX6_setBack_5 : decode cX6_setBack 5 = .ok (.invokevirtual 69, 3) := by decide +kernel
theorem dX6_setBack_8 : decode cX6_setBack 8 = .ok (.astore_n 3, 1) := by decide +kernel
theorem dX6_setBack_9 : decode cX6_setBack 9 = .ok (.aload_n 3, 1) := by decide +kernel
theorem dX6_setBack_10 : decode cX6_setBack 10 = .ok (.ifnonnull 5, 3) := by decide +kernel
theorem dX6_setBack_13 : decode cX6_setBack 13 = .ok (.iconst (-1), 1) := by decide +kernel
theorem dX6_setBack_14 : decode cX6_setBack 14 = .ok (.ireturn, 1) := by decide +kernel
theorem dX6_setBack_15 : decode cX6_setBack 15 = .ok (.iload_n 2, 1) := by decide +kernel
theorem dX6_setBack_16 : decode cX6_setBack 16 = .ok (.iconst 0, 1) := by decide +kernel
theorem dX6_setBack_17 : decode cX6_setBack 17 = .ok (.aload_n 3, 1) := by decide +kernel
theorem dX6_setBack_18 : decode cX6_setBack 18 = .ok (.getfield 255, 3) := by decide +kernel
theorem dX6_setBack_21 : decode cX6_setBack 21 = .ok (.invokestatic 189, 3) := by decide +kernel
theorem dX6_setBack_24 : decode cX6_setBack 24 = .ok (.ifCond .ne 6, 3) := by decide +kernel
theorem dX6_setBack_27 : decode cX6_setBack 27 = .ok (.bipush (-2), 2) := by decide +kernel
theorem dX6_setBack_29 : decode cX6_setBack 29 = .ok (.ireturn, 1) := by decide +kernel
theorem dX6_setBack_30 : decode cX6_setBack 30 = .ok (.aload_n 3, 1) := by decide +kernel
theorem dX6_setBack_31 : decode cX6_setBack 31 = .ok (.getfield 255, 3) := by decide +kernel
theorem dX6_setBack_34 : decode cX6_setBack 34 = .ok (.istore 4, 2) := by decide +kernel
theorem dX6_setBack_36 : decode cX6_setBack 36 = .ok (.aload_n 3, 1) := by decide +kernel
theorem dX6_setBack_37 : decode cX6_setBack 37 = .ok (.iload_n 2, 1) := by decide +kernel
theorem dX6_setBack_38 : decode cX6_setBack 38 = .ok (.putfield 255, 3) := by decide +kernel
theorem dX6_setBack_41 : decode cX6_setBack 41 = .ok (.iload 4, 2) := by decide +kernel
theorem dX6_setBack_43 : decode cX6_setBack 43 = .ok (.ireturn, 1) := by decide +kernel
theorem dX6_letTicksPass_0 : decode cX6_letTicksPass 0 = .ok (.iload_n 1, 1) := by decide +kernel
theorem dX6_letTicksPass_1 : decode cX6_letTicksPass 1 = .ok (.iconst 1, 1) := by decide +kernel
theorem dX6_letTicksPass_2 : decode cX6_letTicksPass 2 = .ok (.bipush 99, 2) := by decide +kernel
theorem dX6_letTicksPass_4 : decode cX6_letTicksPass 4 = .ok (.invokestatic 189, 3) := by decide +kernel
theorem dX6_letTicksPass_7 : decode cX6_letTicksPass 7 = .ok (.ifCond .ne 6, 3) := by decide +kernel
theorem dX6_letTicksPass_10 : decode cX6_letTicksPass 10 = .ok (.bipush (-2), 2) := by decide +kernel
theorem dX6_letTicksPass_12 : decode cX6_letTicksPass 12 = .ok (.ireturn, 1) := by decide +kernel
theorem dX6_letTicksPass_13 : decode cX6_letTicksPass 13 = .ok (.aload_n 0, 1) := by decide +kernel
theorem dX6_letTicksPass_14 : decode cX6_letTicksPass 14 = .ok (.getfield 12, 3) := by decide +kernel
theorem dX6_letTicksPass_17 : decode cX6_letTicksPass 17 = .ok (.iload_n 1, 1) := by decide +kernel
theorem dX6_letTicksPass_18 : decode cX6_letTicksPass 18 = .ok (.invokevirtual 258, 3) := by decide +kernel
theorem dX6_letTicksPass_21 : decode cX6_letTicksPass 21 = .ok (.aload_n 0, 1) := by decide +kernel
theorem dX6_letTicksPass_22 : decode cX6_letTicksPass 22 = .ok (.getfield 12, 3) := by decide +kernel
theorem dX6_letTicksPass_25 : decode cX6_letTicksPass 25 = .ok (.invokevirtual 262, 3) := by decide +kernel
theorem dX6_letTicksPass_28 : decode cX6_letTicksPass 28 = .ok (.ireturn, 1) := by decide +kernel
theorem dX6_startSession_0 : decode cX6_startSession 0 = .ok (.aload_n 0, 1) := by decide +kernel
theorem dX6_startSession_1 : decode cX6_startSession 1 = .ok (.getfield 12, 3) := by decide +kernel
theorem dX6_startSession_4 : decode cX6_startSession 4 = .ok (.iload_n 1, 1) := by decide +kernel
theorem dX6_startSession_5 : decode cX6_startSession 5 = .ok (.invokevirtual 110, 3) := by decide +kernel
theorem dX6_startSession_8 : decode cX6_startSession 8 = .ok (.ifCond .ne 5, 3) := by decide +kernel
theorem dX6_startSession_11 : decode cX6_startSession 11 = .ok (.iconst (-1), 1) := by decide +kernel
theorem dX6_startSession_12 : decode cX6_startSession 12 = .ok (.ireturn, 1) := by decide +kernel
theorem dX6_startSession_13 : decode cX6_startSession 13 = .ok (.iload_n 2, 1) := by decide +kernel
theorem dX6_startSession_14 : decode cX6_startSession 14 = .ok (.iconst 0, 1) := by decide +kernel
theorem dX6_startSession_15 : decode cX6_startSession 15 = .ok (.bipush 15, 2) := by decide +kernel
theorem dX6_startSession_17 : decode cX6_startSession 17 = .ok (.invokestatic 189, 3) := by decide +kernel
theorem dX6_startSession_20 : decode cX6_startSession 20 = .ok (.ifCond .eq 13, 3) := by decide +kernel
theorem dX6_startSession_23 : decode cX6_startSession 23 = .ok (.iload_n 3, 1) := by decide +kernel
theorem dX6_startSession_24 : decode cX6_startSession 24 = .ok (.iconst 0, 1) := by decide +kernel
theorem dX6_startSession_25 : decode cX6_startSession 25 = .ok (.bipush 20, 2) := by decide +kernel
theorem dX6_startSession_27 : decode cX6_startSession 27 = .ok (.invokestatic 189, 3) := by decide +kernel
theorem dX6_startSession_30 : decode cX6_startSession 30 = .ok (.ifCond .ne 6, 3) := by decide +kernel
theorem dX6_startSession_33 : decode cX6_startSession 33 = .ok (.bipush (-2), 2) := by decide +kernel
theorem dX6_startSession_35 : decode cX6_startSession 35 = .ok (.ireturn, 1) := by decide +kernel
theorem dX6_startSession_36 : decode cX6_startSession 36 = .ok (.aload_n 0, 1) := by decide +kernel
theorem dX6_startSession_37 : decode cX6_startSession 37 = .ok (.getfield 12, 3) := by decide +kernel
theorem dX6_startSession_40 : decode cX6_startSession 40 = .ok (.iload_n 1, 1) := by decide +kernel
theorem dX6_startSession_41 : decode cX6_startSession 41 = .ok (.iload_n 2, 1) := by decide +kernel
theorem dX6_startSession_42 : decode cX6_startSession 42 = .ok (.iload_n 3, 1) := by decide +kernel
theorem dX6_startSession_43 : decode cX6_startSession 43 = .ok (.invokevirtual 265, 3) := by decide +kernel
theorem dX6_startSession_46 : decode cX6_startSession 46 = .ok (.ireturn, 1) := by decide +kernel
theorem dX6_endSession_0 : decode cX6_endSession 0 = .ok (.aload_n 0, 1) := by decide +kernel
theorem dX6_endSession_1 : decode cX6_endSession 1 = .ok (.getfield 12, 3) := by decide +kernel
theorem dX6_endSession_4 : decode cX6_endSession 4 = .ok (.iload_n 1, 1) := by decide +kernel
theorem dX6_endSession_5 : decode cX6_endSession 5 = .ok (.invokevirtual 147, 3) := by decide +kernel
theorem dX6_endSession_8 : decode cX6_endSession 8 = .ok (.astore_n 2, 1) := by decide +kernel
theorem dX6_endSession_9 : decode cX6_endSession 9 = .ok (.aload_n 2, 1) := by decide +kernel
theorem dX6_endSession_10 : decode cX6_endSession 10 = .ok (.ifnonnull 5, 3) := by decide +kernel
theorem dX6_endSession_13 : decode cX6_endSession 13 = .ok (.iconst (-1), 1) := by decide +kernel
theorem dX6_endSession_14 : decode cX6_endSession 14 = .ok (.ireturn, 1) := by decide +kernel
theorem dX6_endSession_15 : decode cX6_endSession 15 = .ok (.aload_n 2, 1) := by decide +kernel
theorem dX6_endSession_16 : decode cX6_endSession 16 = .ok (.iconst 0, 1) := by decide +kernel
theorem dX6_endSession_17 : decode cX6_endSession 17 = .ok (.putfield 268, 3) := by decide +kernel
theorem dX6_endSession_20 : decode cX6_endSession 20 = .ok (.aload_n 2, 1) := by decide +kernel
theorem dX6_endSession_21 : decode cX6_endSession 21 = .ok (.getfield 165, 3) := by decide +kernel
theorem dX6_endSession_24 : decode cX6_endSession 24 = .ok (.ireturn, 1) := by decide +kernel
theorem dX6_changeHome_0 : decode cX6_changeHome 0 = .ok (.aload_n 0, 1) := by decide +kernel
theorem dX6_changeHome_1 : decode cX6_changeHome 1 = .ok (.getfield 12, 3) := by decide +kernel
theorem dX6_changeHome_4 : decode cX6_changeHome 4 = .ok (.iload_n 1, 1) := by decide +kernel
theorem dX6_changeHome_5 : decode cX6_changeHome 5 = .ok (.invokevirtual 147, 3) := by decide +kernel
theorem dX6_changeHome_8 : decode cX6_changeHome 8 = .ok (.astore_n 3, 1) := by decide +kernel
theorem dX6_changeHome_9 : decode cX6_changeHome 9 = .ok (.aload_n 3, 1) := by decide +kernel
theorem dX6_changeHome_10 : decode cX6_changeHome 10 = .ok (.ifnull 14, 3) := by decide +kernel
theorem dX6_changeHome_13 : decode cX6_changeHome 13 = .ok (.aload_n 0, 1) := by decide +kernel
theorem dX6_changeHome_14 : decode cX6_changeHome 14 = .ok (.getfield 12, 3) := by decide +kernel
theorem dX6_changeHome_17 : decode cX6_changeHome 17 = .ok (.iload_n 2, 1) := by decide +kernel
theorem dX6_changeHome_18 : decode cX6_changeHome 18 = .ok (.invokevirtual 110, 3) := by decide +kernel
theorem dX6_changeHome_21 : decode cX6_changeHome 21 = .ok (.ifCond .ne 5, 3) := by decide +kernel
theorem dX6_changeHome_24 : decode cX6_changeHome 24 = .ok (.iconst (-1), 1) := by decide +kernel
theorem dX6_changeHome_25 : decode cX6_changeHome 25 = .ok (.ireturn, 1) := by decide +kernel
theorem dX6_changeHome_26 : decode cX6_changeHome 26 = .ok (.aload_n 3, 1) := by decide +kernel
theorem dX6_changeHome_27 : decode cX6_changeHome 27 = .ok (.getfield 151, 3) := by decide +kernel
theorem dX6_changeHome_30 : decode cX6_changeHome 30 = .ok (.istore 4, 2) := by decide +kernel
theorem dX6_changeHome_32 : decode cX6_changeHome 32 = .ok (.aload_n 3, 1) := by decide +kernel
theorem dX6_changeHome_33 : decode cX6_changeHome 33 = .ok (.iload_n 2, 1) := by decide +kernel
theorem dX6_changeHome_34 : decode cX6_changeHome 34 = .ok (.putfield 151, 3) := by decide +kernel
theorem dX6_changeHome_37 : decode cX6_changeHome 37 = .ok (.iload 4, 2) := by decide +kernel
theorem dX6_changeHome_39 : decode cX6_changeHome 39 = .ok (.ireturn, 1) := by decide +kernel
theorem dX6_changeOptions_0 : decode cX6_changeOptions 0 = .ok (.aload_n 0, 1) := by decide +kernel
theorem dX6_changeOptions_1 : decode cX6_changeOptions 1 = .ok (.getfield 12, 3) := by decide +kernel
theorem dX6_changeOptions_4 : decode cX6_changeOptions 4 = .ok (.iload_n 1, 1) := by decide +kernel
theorem dX6_changeOptions_5 : decode cX6_changeOptions 5 = .ok (.invokevirtual 147, 3) := by decide +kernel
theorem dX6_changeOptions_8 : decode cX6_changeOptions 8 = .ok (.astore 4, 2) := by decide +kernel
theorem dX6_changeOptions_10 : decode cX6_changeOptions 10 = .ok (.aload 4, 2) := by decide +kernel
theorem dX6_changeOptions_12 : decode cX6_changeOptions 12 = .ok (.ifnonnull 5, 3) := by decide +kernel
theorem dX6_changeOptions_15 : decode cX6_changeOptions 15 = .ok (.iconst (-1), 1) := by decide +kernel
theorem dX6_changeOptions_16 : decode cX6_changeOptions 16 = .ok (.ireturn, 1) := by decide +kernel
theorem dX6_changeOptions_17 : decode cX6_changeOptions 17 = .ok (.iload_n 2, 1) := by decide +kernel
theorem dX6_changeOptions_18 : decode cX6_changeOptions 18 = .ok (.iconst 0, 1) := by decide +kernel
theorem dX6_changeOptions_19 : decode cX6_changeOptions 19 = .ok (.bipush 15, 2) := by decide +kernel
theorem dX6_changeOptions_21 : decode cX6_changeOptions 21 = .ok (.invokestatic 189, 3) := by decide +kernel
theorem dX6_changeOptions_24 : decode cX6_changeOptions 24 = .ok (.ifCond .eq 13, 3) := by decide +kernel
theorem dX6_changeOptions_27 : decode cX6_changeOptions 27 = .ok (.iload_n 3, 1) := by decide +kernel
theorem dX6_changeOptions_28 : decode cX6_changeOptions 28 = .ok (.iconst 0, 1) := by decide +kernel
theorem dX6_changeOptions_29 : decode cX6_changeOptions 29 = .ok (.bipush 20, 2) := by decide +kernel
theorem dX6_changeOptions_31 : decode cX6_changeOptions 31 = .ok (.invokestatic 189, 3) := by decide +kernel
theorem dX6_changeOptions_34 : decode cX6_changeOptions 34 = .ok (.ifCond .ne 6, 3) := by decide +kernel
theorem dX6_changeOptions_37 : decode cX6_changeOptions 37 = .ok (.bipush (-2), 2) := by decide +kernel
theorem dX6_changeOptions_39 : decode cX6_changeOptions 39 = .ok (.ireturn, 1) := by decide +kernel
theorem dX6_changeOptions_40 : decode cX6_changeOptions 40 = .ok (.aload 4, 2) := by decide +kernel
theorem dX6_changeOptions_42 : decode cX6_changeOptions 42 = .ok (.getfield 156, 3) := by decide +kernel
theorem dX6_changeOptions_45 : decode cX6_changeOptions 45 = .ok (.istore 5, 2) := by decide +kernel
theorem dX6_changeOptions_47 : decode cX6_changeOptions 47 = .ok (.aload 4, 2) := by decide +kernel
theorem dX6_changeOptions_49 : decode cX6_changeOptions 49 = .ok (.iload_n 2, 1) := by decide +kernel
theorem dX6_changeOptions_50 : decode cX6_changeOptions 50 = .ok (.putfield 156, 3) := by decide +kernel
theorem dX6_changeOptions_53 : decode cX6_changeOptions 53 = .ok (.aload 4, 2) := by decide +kernel
theorem dX6_changeOptions_55 : decode cX6_changeOptions 55 = .ok (.iload_n 3, 1) := by decide +kernel
theorem dX6_changeOptions_56 : decode cX6_changeOptions 56 = .ok (.putfield 159, 3) := by decide +kernel
theorem dX6_changeOptions_59 : decode cX6_changeOptions 59 = .ok (.iload 5, 2) := by decide +kernel
theorem dX6_changeOptions_61 : decode cX6_changeOptions 61 = .ok (.ireturn, 1) := by decide +kernel
theorem dX6_handMarks_0 : decode cX6_handMarks 0 = .ok (.aload_n 0, 1) := by decide +kernel
theorem dX6_handMarks_1 : decode cX6_handMarks 1 = .ok (.getfield 12, 3) := by decide +kernel
theorem dX6_handMarks_4 : decode cX6_handMarks 4 = .ok (.iload_n 1, 1) := by decide +kernel
theorem dX6_handMarks_5 : decode cX6_handMarks 5 = .ok (.invokevirtual 147, 3) := by decide +kernel
theorem dX6_handMarks_8 : decode cX6_handMarks 8 = .ok (.astore_n 3, 1) := by decide +kernel
theorem dX6_handMarks_9 : decode cX6_handMarks 9 = .ok (.aload_n 0, 1) := by decide +kernel
theorem dX6_handMarks_10 : decode cX6_handMarks 10 = .ok (.getfield 12, 3) := by decide +kernel
theorem dX6_handMarks_13 : decode cX6_handMarks 13 = .ok (.iload_n 2, 1) := by decide +kernel
theorem dX6_handMarks_14 : decode cX6_handMarks 14 = .ok (.invokevirtual 147, 3) := by decide +kernel
theorem dX6_handMarks_17 : decode cX6_handMarks 17 = .ok (.astore 4, 2) := by decide +kernel
theorem dX6_handMarks_19 : decode cX6_handMarks 19 = .ok (.aload_n 3, 1) := by decide +kernel
theorem dX6_handMarks_20 : decode cX6_handMarks 20 = .ok (.ifnull 8, 3) := by decide +kernel
theorem dX6_handMarks_23 : decode cX6_handMarks 23 = .ok (.aload 4, 2) := by decide +kernel
theorem dX6_handMarks_25 : decode cX6_handMarks 25 = .ok (.ifnonnull 5, 3) := by decide +kernel
theorem dX6_handMarks_28 : decode cX6_handMarks 28 = .ok (.iconst (-1), 1) := by decide +kernel
theorem dX6_handMarks_29 : decode cX6_handMarks 29 = .ok (.ireturn, 1) := by decide +kernel
theorem dX6_handMarks_30 : decode cX6_handMarks 30 = .ok (.iload_n 1, 1) := by decide +kernel
theorem dX6_handMarks_31 : decode cX6_handMarks 31 = .ok (.iload_n 2, 1) := by decide +kernel
theorem dX6_handMarks_32 : decode cX6_handMarks 32 = .ok (.if_icmp .ne 6, 3) := by decide +kernel
theorem dX6_handMarks_35 : decode cX6_handMarks 35 = .ok (.bipush (-2), 2) := by decide +kernel
theorem dX6_handMarks_37 : decode cX6_handMarks 37 = .ok (.ireturn, 1) := by decide +kernel
theorem dX6_handMarks_38 : decode cX6_handMarks 38 = .ok (.aload 4, 2) := by decide +kernel
theorem dX6_handMarks_40 : decode cX6_handMarks 40 = .ok (.aload 4, 2) := by decide +kernel
theorem dX6_handMarks_42 : decode cX6_handMarks 42 = .ok (.getfield 165, 3) := by decide +kernel
theorem dX6_handMarks_45 : decode cX6_handMarks 45 = .ok (.aload_n 3, 1) := by decide +kernel
theorem dX6_handMarks_46 : decode cX6_handMarks 46 = .ok (.getfield 162, 3) := by decide +kernel
theorem dX6_handMarks_49 : decode cX6_handMarks 49 = .ok (.aload_n 3, 1) := by decide +kernel
theorem dX6_handMarks_50 : decode cX6_handMarks 50 = .ok (.getfield 165, 3) := by decide +kernel
theorem dX6_handMarks_53 : decode cX6_handMarks 53 = .ok (.invokestatic 209, 3) := by decide +kernel
theorem dX6_handMarks_56 : decode cX6_handMarks 56 = .ok (.invokestatic 209, 3) := by decide +kernel
theorem dX6_handMarks_59 : decode cX6_handMarks 59 = .ok (.putfield 165, 3) := by decide +kernel
theorem dX6_handMarks_62 : decode cX6_handMarks 62 = .ok (.aload 4, 2) := by decide +kernel
theorem dX6_handMarks_64 : decode cX6_handMarks 64 = .ok (.getfield 165, 3) := by decide +kernel
theorem dX6_handMarks_67 : decode cX6_handMarks 67 = .ok (.ireturn, 1) := by decide +kernel
theorem dX6_addWrite_0 : decode cX6_addWrite 0 = .ok (.aload_n 0, 1) := by decide +kernel
theorem dX6_addWrite_1 : decode cX6_addWrite 1 = .ok (.getfield 12, 3) := by decide +kernel
theorem dX6_addWrite_4 : decode cX6_addWrite 4 = .ok (.iload_n 1, 1) := by decide +kernel
theorem dX6_addWrite_5 : decode cX6_addWrite 5 = .ok (.invokevirtual 147, 3) := by decide +kernel
theorem dX6_addWrite_8 : decode cX6_addWrite 8 = .ok (.astore 4, 2) := by decide +kernel
theorem dX6_addWrite_10 : decode cX6_addWrite 10 = .ok (.aload 4, 2) := by decide +kernel
theorem dX6_addWrite_12 : decode cX6_addWrite 12 = .ok (.ifnull 10, 3) := by decide +kernel
theorem dX6_addWrite_15 : decode cX6_addWrite 15 = .ok (.iload_n 2, 1) := by decide +kernel
theorem dX6_addWrite_16 : decode cX6_addWrite 16 = .ok (.invokestatic 113, 3) := by decide +kernel
theorem dX6_addWrite_19 : decode cX6_addWrite 19 = .ok (.ifCond .ne 5, 3) := by decide +kernel
theorem dX6_addWrite_22 : decode cX6_addWrite 22 = .ok (.iconst (-1), 1) := by decide +kernel
theorem dX6_addWrite_23 : decode cX6_addWrite 23 = .ok (.ireturn, 1) := by decide +kernel
theorem dX6_addWrite_24 : decode cX6_addWrite 24 = .ok (.iload_n 3, 1) := by decide +kernel
theorem dX6_addWrite_25 : decode cX6_addWrite 25 = .ok (.iconst 0, 1) := by decide +kernel
theorem dX6_addWrite_26 : decode cX6_addWrite 26 = .ok (.sipush 999, 3) := by decide +kernel
theorem dX6_addWrite_29 : decode cX6_addWrite 29 = .ok (.invokestatic 189, 3) := by decide +kernel
theorem dX6_addWrite_32 : decode cX6_addWrite 32 = .ok (.ifCond .ne 6, 3) := by decide +kernel
theorem dX6_addWrite_35 : decode cX6_addWrite 35 = .ok (.bipush (-2), 2) := by decide +kernel
theorem dX6_addWrite_37 : decode cX6_addWrite 37 = .ok (.ireturn, 1) := by decide +kernel
theorem dX6_addWrite_38 : decode cX6_addWrite 38 = .ok (.aload_n 0, 1) := by decide +kernel
theorem dX6_addWrite_39 : decode cX6_addWrite 39 = .ok (.getfield 12, 3) := by decide +kernel
theorem dX6_addWrite_42 : decode cX6_addWrite 42 = .ok (.getfield 85, 3) := by decide +kernel
theorem dX6_addWrite_45 : decode cX6_addWrite 45 = .ok (.iload_n 2, 1) := by decide +kernel
theorem dX6_addWrite_46 : decode cX6_addWrite 46 = .ok (.iload_n 3, 1) := by decide +kernel
theorem dX6_addWrite_47 : decode cX6_addWrite 47 = .ok (.iload_n 1, 1) := by decide +kernel
theorem dX6_addWrite_48 : decode cX6_addWrite 48 = .ok (.invokevirtual 271, 3) := by decide +kernel
theorem dX6_addWrite_51 : decode cX6_addWrite 51 = .ok (.istore 5, 2) := by decide +kernel
theorem dX6_addWrite_53 : decode cX6_addWrite 53 = .ok (.iload 5, 2) := by decide +kernel
theorem dX6_addWrite_55 : decode cX6_addWrite 55 = .ok (.bipush (-4), 2) := by decide +kernel
theorem dX6_addWrite_57 : decode cX6_addWrite 57 = .ok (.if_icmp .eq 11, 3) := by decide +kernel
theorem dX6_addWrite_60 : decode cX6_addWrite 60 = .ok (.aload 4, 2) := by decide +kernel
theorem dX6_addWrite_62 : decode cX6_addWrite 62 = .ok (.iload_n 2, 1) := by decide +kernel
theorem dX6_addWrite_63 : decode cX6_addWrite 63 = .ok (.iload 5, 2) := by decide +kernel
theorem dX6_addWrite_65 : decode cX6_addWrite 65 = .ok (.invokevirtual 273, 3) := by decide +kernel
theorem dX6_addWrite_68 : decode cX6_addWrite 68 = .ok (.iload 5, 2) := by decide +kernel
theorem dX6_addWrite_70 : decode cX6_addWrite 70 = .ok (.ireturn, 1) := by decide +kernel
theorem dX6_readAtHome_0 : decode cX6_readAtHome 0 = .ok (.aload_n 0, 1) := by decide +kernel
theorem dX6_readAtHome_1 : decode cX6_readAtHome 1 = .ok (.getfield 12, 3) := by decide +kernel
theorem dX6_readAtHome_4 : decode cX6_readAtHome 4 = .ok (.iload_n 1, 1) := by decide +kernel
theorem dX6_readAtHome_5 : decode cX6_readAtHome 5 = .ok (.invokevirtual 147, 3) := by decide +kernel
theorem dX6_readAtHome_8 : decode cX6_readAtHome 8 = .ok (.astore_n 3, 1) := by decide +kernel
theorem dX6_readAtHome_9 : decode cX6_readAtHome 9 = .ok (.aload_n 3, 1) := by decide +kernel
theorem dX6_readAtHome_10 : decode cX6_readAtHome 10 = .ok (.ifnull 10, 3) := by decide +kernel
theorem dX6_readAtHome_13 : decode cX6_readAtHome 13 = .ok (.iload_n 2, 1) := by decide +kernel
theorem dX6_readAtHome_14 : decode cX6_readAtHome 14 = .ok (.invokestatic 113, 3) := by decide +kernel
theorem dX6_readAtHome_17 : decode cX6_readAtHome 17 = .ok (.ifCond .ne 5, 3) := by decide +kernel
theorem dX6_readAtHome_20 : decode cX6_readAtHome 20 = .ok (.iconst (-1), 1) := by decide +kernel
theorem dX6_readAtHome_21 : decode cX6_readAtHome 21 = .ok (.ireturn, 1) := by decide +kernel
theorem dX6_readAtHome_22 : decode cX6_readAtHome 22 = .ok (.aload_n 0, 1) := by decide +kernel
theorem dX6_readAtHome_23 : decode cX6_readAtHome 23 = .ok (.getfield 12, 3) := by decide +kernel
theorem dX6_readAtHome_26 : decode cX6_readAtHome 26 = .ok (.aload_n 3, 1) := by decide +kernel
theorem dX6_readAtHome_27 : decode cX6_readAtHome 27 = .ok (.iload_n 2, 1) := by decide +kernel
theorem dX6_readAtHome_28 : decode cX6_readAtHome 28 = .ok (.aload_n 3, 1) := by decide +kernel
theorem dX6_readAtHome_29 : decode cX6_readAtHome 29 = .ok (.getfield 151, 3) := by decide +kernel
theorem dX6_readAtHome_32 : decode cX6_readAtHome 32 = .ok (.invokevirtual 202, 3) := by decide +kernel
theorem dX6_readAtHome_35 : decode cX6_readAtHome 35 = .ok (.istore 4, 2) := by decide +kernel
theorem dX6_readAtHome_37 : decode cX6_readAtHome 37 = .ok (.iload 4, 2) := by decide +kernel
theorem dX6_readAtHome_39 : decode cX6_readAtHome 39 = .ok (.bipush (-6), 2) := by decide +kernel
theorem dX6_readAtHome_41 : decode cX6_readAtHome 41 = .ok (.if_icmp .eq 37, 3) := by decide +kernel
theorem dX6_readAtHome_44 : decode cX6_readAtHome 44 = .ok (.iload 4, 2) := by decide +kernel
theorem dX6_readAtHome_46 : decode cX6_readAtHome 46 = .ok (.aload_n 3, 1) := by decide +kernel
theorem dX6_readAtHome_47 : decode cX6_readAtHome 47 = .ok (.getfield 159, 3) := by decide +kernel
theorem dX6_readAtHome_50 : decode cX6_readAtHome 50 = .ok (.if_icmp .gt 28, 3) := by decide +kernel
theorem dX6_readAtHome_53 : decode cX6_readAtHome 53 = .ok (.aload_n 0, 1) := by decide +kernel
theorem dX6_readAtHome_54 : decode cX6_readAtHome 54 = .ok (.getfield 12, 3) := by decide +kernel
theorem dX6_readAtHome_57 : decode cX6_readAtHome 57 = .ok (.iload 4, 2) := by decide +kernel
theorem dX6_readAtHome_59 : decode cX6_readAtHome 59 = .ok (.invokevirtual 258, 3) := by decide +kernel
theorem dX6_readAtHome_62 : decode cX6_readAtHome 62 = .ok (.aload_n 0, 1) := by decide +kernel
theorem dX6_readAtHome_63 : decode cX6_readAtHome 63 = .ok (.getfield 12, 3) := by decide +kernel
theorem dX6_readAtHome_66 : decode cX6_readAtHome 66 = .ok (.aload_n 3, 1) := by decide +kernel
theorem dX6_readAtHome_67 : decode cX6_readAtHome 67 = .ok (.iload_n 2, 1) := by decide +kernel
theorem dX6_readAtHome_68 : decode cX6_readAtHome 68 = .ok (.aload_n 3, 1) := by decide +kernel
theorem dX6_readAtHome_69 : decode cX6_readAtHome 69 = .ok (.getfield 151, 3) := by decide +kernel
theorem dX6_readAtHome_72 : decode cX6_readAtHome 72 = .ok (.iload 4, 2) := by decide +kernel
theorem dX6_readAtHome_74 : decode cX6_readAtHome 74 = .ok (.invokevirtual 277, 3) := by decide +kernel
theorem dX6_readAtHome_77 : decode cX6_readAtHome 77 = .ok (.ireturn, 1) := by decide +kernel
theorem dX6_readAtHome_78 : decode cX6_readAtHome 78 = .ok (.aload_n 3, 1) := by decide +kernel
theorem dX6_readAtHome_79 : decode cX6_readAtHome 79 = .ok (.bipush 8, 2) := by decide +kernel
theorem dX6_readAtHome_81 : decode cX6_readAtHome 81 = .ok (.invokevirtual 281, 3) := by decide +kernel
theorem dX6_readAtHome_84 : decode cX6_readAtHome 84 = .ok (.ifCond .eq 18, 3) := by decide +kernel
theorem dX6_readAtHome_87 : decode cX6_readAtHome 87 = .ok (.aload_n 0, 1) := by decide +kernel
theorem dX6_readAtHome_88 : decode cX6_readAtHome 88 = .ok (.getfield 12, 3) := by decide +kernel
theorem dX6_readAtHome_91 : decode cX6_readAtHome 91 = .ok (.aload_n 3, 1) := by decide +kernel
theorem dX6_readAtHome_92 : decode cX6_readAtHome 92 = .ok (.iload_n 2, 1) := by decide +kernel
theorem dX6_readAtHome_93 : decode cX6_readAtHome 93 = .ok (.bipush 9, 2) := by decide +kernel
theorem dX6_readAtHome_95 : decode cX6_readAtHome 95 = .ok (.iconst 0, 1) := by decide +kernel
theorem dX6_readAtHome_96 : decode cX6_readAtHome 96 = .ok (.invokevirtual 277, 3) := by decide +kernel
theorem dX6_readAtHome_99 : decode cX6_readAtHome 99 = .ok (.goto 5, 3) := by decide +kernel
theorem dX6_readAtHome_102 : decode cX6_readAtHome 102 = .ok (.bipush (-3), 2) := by decide +kernel
theorem dX6_readAtHome_104 : decode cX6_readAtHome 104 = .ok (.ireturn, 1) := by decide +kernel
theorem dX6_readAtPlace_0 : decode cX6_readAtPlace 0 = .ok (.aload_n 0, 1) := by decide +kernel
theorem dX6_readAtPlace_1 : decode cX6_readAtPlace 1 = .ok (.getfield 12, 3) := by decide +kernel
theorem dX6_readAtPlace_4 : decode cX6_readAtPlace 4 = .ok (.iload_n 1, 1) := by decide +kernel
theorem dX6_readAtPlace_5 : decode cX6_readAtPlace 5 = .ok (.invokevirtual 147, 3) := by decide +kernel
theorem dX6_readAtPlace_8 : decode cX6_readAtPlace 8 = .ok (.astore 4, 2) := by decide +kernel
theorem dX6_readAtPlace_10 : decode cX6_readAtPlace 10 = .ok (.aload 4, 2) := by decide +kernel
theorem dX6_readAtPlace_12 : decode cX6_readAtPlace 12 = .ok (.ifnull 21, 3) := by decide +kernel
theorem dX6_readAtPlace_15 : decode cX6_readAtPlace 15 = .ok (.iload_n 2, 1) := by decide +kernel
theorem dX6_readAtPlace_16 : decode cX6_readAtPlace 16 = .ok (.invokestatic 113, 3) := by decide +kernel
theorem dX6_readAtPlace_19 : decode cX6_readAtPlace 19 = .ok (.ifCond .eq 14, 3) := by decide +kernel
theorem dX6_readAtPlace_22 : decode cX6_readAtPlace 22 = .ok (.aload_n 0, 1) := by decide +kernel
theorem dX6_readAtPlace_23 : decode cX6_readAtPlace 23 = .ok (.getfield 12, 3) := by decide +kernel
theorem dX6_readAtPlace_26 : decode cX6_readAtPlace 26 = .ok (.iload_n 3, 1) := by decide +kernel
theorem dX6_readAtPlace_27 : decode cX6_readAtPlace 27 = .ok (.invokevirtual 110, 3) := by decide +kernel
theorem dX6_readAtPlace_30 : decode cX6_readAtPlace 30 = .ok (.ifCond .ne 5, 3) := by decide +kernel
theorem dX6_readAtPlace_33 : decode cX6_readAtPlace 33 = .ok (.iconst (-1), 1) := by decide +kernel
theorem dX6_readAtPlace_34 : decode cX6_readAtPlace 34 = .ok (.ireturn, 1) := by decide +kernel
theorem dX6_readAtPlace_35 : decode cX6_readAtPlace 35 = .ok (.aload_n 0, 1) := by decide +kernel
theorem dX6_readAtPlace_36 : decode cX6_readAtPlace 36 = .ok (.getfield 12, 3) := by decide +kernel
theorem dX6_readAtPlace_39 : decode cX6_readAtPlace 39 = .ok (.aload 4, 2) := by decide +kernel
theorem dX6_readAtPlace_41 : decode cX6_readAtPlace 41 = .ok (.iload_n 2, 1) := by decide +kernel
theorem dX6_readAtPlace_42 : decode cX6_readAtPlace 42 = .ok (.iload_n 3, 1) := by decide +kernel
theorem dX6_readAtPlace_43 : decode cX6_readAtPlace 43 = .ok (.invokevirtual 202, 3) := by decide +kernel
theorem dX6_readAtPlace_46 : decode cX6_readAtPlace 46 = .ok (.ifCond .ne 18, 3) := by decide +kernel
theorem dX6_readAtPlace_49 : decode cX6_readAtPlace 49 = .ok (.aload_n 0, 1) := by decide +kernel
theorem dX6_readAtPlace_50 : decode cX6_readAtPlace 50 = .ok (.getfield 12, 3) := by decide +kernel
theorem dX6_readAtPlace_53 : decode cX6_readAtPlace 53 = .ok (.aload 4, 2) := by decide +kernel
theorem dX6_readAtPlace_55 : decode cX6_readAtPlace 55 = .ok (.iload_n 2, 1) := by decide +kernel
theorem dX6_readAtPlace_56 : decode cX6_readAtPlace 56 = .ok (.iload_n 3, 1) := by decide +kernel
theorem dX6_readAtPlace_57 : decode cX6_readAtPlace 57 = .ok (.iconst 0, 1) := by decide +kernel
theorem dX6_readAtPlace_58 : decode cX6_readAtPlace 58 = .ok (.invokevirtual 277, 3) := by decide +kernel
theorem dX6_readAtPlace_61 : decode cX6_readAtPlace 61 = .ok (.goto 5, 3) := by decide +kernel
theorem dX6_readAtPlace_64 : decode cX6_readAtPlace 64 = .ok (.bipush (-3), 2) := by decide +kernel
theorem dX6_readAtPlace_66 : decode cX6_readAtPlace 66 = .ok (.ireturn, 1) := by decide +kernel
theorem dX6_isWithin_0 : decode cX6_isWithin 0 = .ok (.iload_n 0, 1) := by decide +kernel
theorem dX6_isWithin_1 : decode cX6_isWithin 1 = .ok (.iload_n 1, 1) := by decide +kernel
theorem dX6_isWithin_2 : decode cX6_isWithin 2 = .ok (.if_icmp .lt 12, 3) := by decide +kernel
theorem dX6_isWithin_5 : decode cX6_isWithin 5 = .ok (.iload_n 0, 1) := by decide +kernel
theorem dX6_isWithin_6 : decode cX6_isWithin 6 = .ok (.iload_n 2, 1) := by decide +kernel
theorem dX6_isWithin_7 : decode cX6_isWithin 7 = .ok (.if_icmp .gt 7, 3) := by decide +kernel
theorem dX6_isWithin_10 : decode cX6_isWithin 10 = .ok (.iconst 1, 1) := by decide +kernel
theorem dX6_isWithin_11 : decode cX6_isWithin 11 = .ok (.goto 4, 3) := by decide +kernel
theorem dX6_isWithin_14 : decode cX6_isWithin 14 = .ok (.iconst 0, 1) := by decide +kernel
theorem dX6_isWithin_15 : decode cX6_isWithin 15 = .ok (.ireturn, 1) := by decide +kernel
theorem dX6_isKey_0 : decode cX6_isKey 0 = .ok (.iload_n 0, 1) := by decide +kernel
theorem dX6_isKey_1 : decode cX6_isKey 1 = .ok (.iconst 0, 1) := by decide +kernel
theorem dX6_isKey_2 : decode cX6_isKey 2 = .ok (.bipush 11, 2) := by decide +kernel
theorem dX6_isKey_4 : decode cX6_isKey 4 = .ok (.invokestatic 189, 3) := by decide +kernel
theorem dX6_isKey_7 : decode cX6_isKey 7 = .ok (.ireturn, 1) := by decide +kernel
theorem dX6_isError_0 : decode cX6_isError 0 = .ok (.iload_n 0, 1) := by decide +kernel
theorem dX6_isError_1 : decode cX6_isError 1 = .ok (.bipush (-5), 2) := by decide +kernel
theorem dX6_isError_3 : decode cX6_isError 3 = .ok (.iconst (-1), 1) := by decide +kernel
theorem dX6_isError_4 : decode cX6_isError 4 = .ok (.invokestatic 189, 3) := by decide +kernel
theorem dX6_isError_7 : decode cX6_isError 7 = .ok (.ireturn, 1) := by decide +kernel
