theorem dJ7_fill_53178_0 : decode cJ7_fill_53178 0 = .ok (.iconst 0, 1) := by decide +kernel
theorem dJ7_fill_53178_1 : decode cJ7_fill_53178 1 = .ok (.istore_n 2, 1) := by decide +kernel
theorem dJ7_fill_53178_2 : decode cJ7_fill_53178 2 = .ok (.aload_n 0, 1) := by decide +kernel
theorem dJ7_fill_53178_3 : decode cJ7_fill_53178 3 = .ok (.arraylength, 1) := by decide +kernel
theorem dJ7_fill_53178_4 : decode cJ7_fill_53178 4 = .ok (.istore_n 3, 1) := by decide +kernel
theorem dJ7_fill_53178_5 : decode cJ7_fill_53178 5 = .ok (.iload_n 2, 1) := by decide +kernel
theorem dJ7_fill_53178_6 : decode cJ7_fill_53178 6 = .ok (.iload_n 3, 1) := by decide +kernel
theorem dJ7_fill_53178_7 : decode cJ7_fill_53178 7 = .ok (.if_icmp .ge 13, 3) := by decide +kernel
theorem dJ7_fill_53178_10 : decode cJ7_fill_53178 10 = .ok (.aload_n 0, 1) := by decide +kernel
theorem dJ7_fill_53178_11 : decode cJ7_fill_53178 11 = .ok (.iload_n 2, 1) := by decide +kernel
theorem dJ7_fill_53178_12 : decode cJ7_fill_53178 12 = .ok (.iload_n 1, 1) := by decide +kernel
theorem dJ7_fill_53178_13 : decode cJ7_fill_53178 13 = .ok (.iastore, 1) := by decide +kernel
theorem dJ7_fill_53178_14 : decode cJ7_fill_53178 14 = .ok (.iinc 2 1, 3) := by decide +kernel
theorem dJ7_fill_53178_17 : decode cJ7_fill_53178 17 = .ok (.goto (-12), 3) := by decide +kernel
theorem dJ7_fill_53178_20 : decode cJ7_fill_53178 20 = .ok (.return_, 1) := by decide +kernel
theorem dJ9_floorMod_7cf53_0 : decode cJ9_floorMod_7cf53 0 = .ok (.iload_n 0, 1) := by decide +kernel
theorem dJ9_floorMod_7cf53_1 : decode cJ9_floorMod_7cf53 1 = .ok (.iload_n 1, 1) := by decide +kernel
theorem dJ9_floorMod_7cf53_2 : decode cJ9_floorMod_7cf53 2 = .ok (.irem, 1) := by decide +kernel
theorem dJ9_floorMod_7cf53_3 : decode cJ9_floorMod_7cf53 3 = .ok (.istore_n 2, 1) := by decide +kernel
theorem dJ9_floorMod_7cf53_4 : decode cJ9_floorMod_7cf53 4 = .ok (.iload_n 0, 1) := by decide +kernel
theorem dJ9_floorMod_7cf53_5 : decode cJ9_floorMod_7cf53 5 = .ok (.iload_n 1, 1) := by decide +kernel
theorem dJ9_floorMod_7cf53_6 : decode cJ9_floorMod_7cf53 6 = .ok (.ixor, 1) := by decide +kernel
theorem dJ9_floorMod_7cf53_7 : decode cJ9_floorMod_7cf53 7 = .ok (.ifCond .ge 11, 3) := by decide +kernel
theorem dJ9_floorMod_7cf53_10 : decode cJ9_floorMod_7cf53 10 = .ok (.iload_n 2, 1) := by decide +kernel
theorem dJ9_floorMod_7cf53_11 : decode cJ9_floorMod_7cf53 11 = .ok (.ifCond .eq 7, 3) := by decide +kernel
theorem dJ9_floorMod_7cf53_14 : decode cJ9_floorMod_7cf53 14 = .ok (.iload_n 2, 1) := by decide +kernel
theorem dJ9_floorMod_7cf53_15 : decode cJ9_floorMod_7cf53 15 = .ok (.iload_n 1, 1) := by decide +kernel
theorem dJ9_floorMod_7cf53_16 : decode cJ9_floorMod_7cf53 16 = .ok (.iadd, 1) := by decide +kernel
theorem dJ9_floorMod_7cf53_17 : decode cJ9_floorMod_7cf53 17 = .ok (.ireturn, 1) := by decide +kernel
theorem dJ9_floorMod_7cf53_18 : decode cJ9_floorMod_7cf53 18 = .ok (.iload_n 2, 1) := by decide +kernel
theorem dJ9_floorMod_7cf53_19 : decode cJ9_floorMod_7cf53 19 = .ok (.ireturn, 1) := by decide +kernel
theorem dJ9_max_7cf53_0 : decode cJ9_max_7cf53 0 = .ok (.iload_n 0, 1) := by decide +kernel
theorem dJ9_max_7cf53_1 : decode cJ9_max_7cf53 1 = .ok (.iload_n 1, 1) := by decide +kernel
theorem dJ9_max_7cf53_2 : decode cJ9_max_7cf53 2 = .ok (.if_icmp .lt 7, 3) := by decide +kernel
theorem dJ9_max_7cf53_5 : decode cJ9_max_7cf53 5 = .ok (.iload_n 0, 1) := by decide +kernel
theorem dJ9_max_7cf53_6 : decode cJ9_max_7cf53 6 = .ok (.goto 4, 3) := by decide +kernel
theorem dJ9_max_7cf53_9 : decode cJ9_max_7cf53 9 = .ok (.iload_n 1, 1) := by decide +kernel
theorem dJ9_max_7cf53_10 : decode cJ9_max_7cf53 10 = .ok (.ireturn, 1) := by decide +kernel
theorem dJ9_min_7cf53_0 : decode cJ9_min_7cf53 0 = .ok (.iload_n 0, 1) := by decide +kernel
theorem dJ9_min_7cf53_1 : decode cJ9_min_7cf53 1 = .ok (.iload_n 1, 1) := by decide +kernel
theorem dJ9_min_7cf53_2 : decode cJ9_min_7cf53 2 = .ok (.if_icmp .gt 7, 3) := by decide +kernel
theorem dJ9_min_7cf53_5 : decode cJ9_min_7cf53 5 = .ok (.iload_n 0, 1) := by decide +kernel
theorem dJ9_min_7cf53_6 : decode cJ9_min_7cf53 6 = .ok (.goto 4, 3) := by decide +kernel
theorem dJ9_min_7cf53_9 : decode cJ9_min_7cf53 9 = .ok (.iload_n 1, 1) := by decide +kernel
theorem dJ9_min_7cf53_10 : decode cJ9_min_7cf53 10 = .ok (.ireturn, 1) := by decide +kernel
theorem dL_cell_0 : decode cL_cell 0 = .ok (.iload_n 1, 1) := by decide +kernel
theorem dL_cell_1 : decode cL_cell 1 = .ok (.aload_n 0, 1) := by decide +kernel
theorem dL_cell_2 : decode cL_cell 2 = .ok (.arraylength, 1) := by decide +kernel
theorem dL_cell_3 : decode cL_cell 3 = .ok (.if_icmp .ge 9, 3) := by decide +kernel
theorem dL_cell_6 : decode cL_cell 6 = .ok (.aload_n 0, 1) := by decide +kernel
theorem dL_cell_7 : decode cL_cell 7 = .ok (.iload_n 1, 1) := by decide +kernel
theorem dL_cell_8 : decode cL_cell 8 = .ok (.iaload, 1) := by decide +kernel
theorem dL_cell_9 : decode cL_cell 9 = .ok (.goto 10, 3) := by decide +kernel
theorem dL_cell_12 : decode cL_cell 12 = .ok (.ldc 7, 2) := by decide +kernel
theorem dL_cell_14 : decode cL_cell 14 = .ok (.iload_n 1, 1) := by decide +kernel
theorem dL_cell_15 : decode cL_cell 15 = .ok (.imul, 1) := by decide +kernel
theorem dL_cell_16 : decode cL_cell 16 = .ok (.ldc 8, 2) := by decide +kernel
theorem dL_cell_18 : decode cL_cell 18 = .ok (.iadd, 1) := by decide +kernel
theorem dL_cell_19 : decode cL_cell 19 = .ok (.ireturn, 1) := by decide +kernel
theorem dL_low_0 : decode cL_low 0 = .ok (.iload_n 0, 1) := by decide +kernel
theorem dL_low_1 : decode cL_low 1 = .ok (.ldc 9, 2) := by decide +kernel
theorem dL_low_3 : decode cL_low 3 = .ok (.iand, 1) := by decide +kernel
theorem dL_low_4 : decode cL_low 4 = .ok (.iload_n 1, 1) := by decide +kernel
theorem dL_low_5 : decode cL_low 5 = .ok (.irem, 1) := by decide +kernel
theorem dL_low_6 : decode cL_low 6 = .ok (.ireturn, 1) := by decide +kernel
theorem dL_at_0 : decode cL_at 0 = .ok (.iload_n 2, 1) := by decide +kernel
theorem dL_at_1 : decode cL_at 1 = .ok (.bipush 9, 2) := by decide +kernel
theorem dL_at_3 : decode cL_at 3 = .ok (.if_icmp .ne 9, 3) := by decide +kernel
theorem dL_at_6 : decode cL_at 6 = .ok (.aload_n 1, 1) := by decide +kernel
theorem dL_at_7 : decode cL_at 7 = .ok (.iconst 0, 1) := by decide +kernel
theorem dL_at_8 : decode cL_at 8 = .ok (.iaload, 1) := by decide +kernel
theorem dL_at_9 : decode cL_at 9 = .ok (.goto 6, 3) := by decide +kernel
theorem dL_at_12 : decode cL_at 12 = .ok (.aload_n 0, 1) := by decide +kernel
theorem dL_at_13 : decode cL_at 13 = .ok (.iload_n 2, 1) := by decide +kernel
theorem dL_at_14 : decode cL_at 14 = .ok (.iaload, 1) := by decide +kernel
theorem dL_at_15 : decode cL_at 15 = .ok (.ireturn, 1) := by decide +kernel
theorem dL_version_0 : decode cL_version 0 = .ok (.iconst 0, 1) := by decide +kernel
theorem dL_version_1 : decode cL_version 1 = .ok (.istore_n 3, 1) := by decide +kernel
theorem dL_version_2 : decode cL_version 2 = .ok (.iconst 0, 1) := by decide +kernel
theorem dL_version_3 : decode cL_version 3 = .ok (.istore 4, 2) := by decide +kernel
theorem dL_version_5 : decode cL_version 5 = .ok (.iload 4, 2) := by decide +kernel
theorem dL_version_7 : decode cL_version 7 = .ok (.iload_n 1, 1) := by decide +kernel
theorem dL_version_8 : decode cL_version 8 = .ok (.if_icmp .ge 29, 3) := by decide +kernel
theorem dL_version_11 : decode cL_version 11 = .ok (.aload_n 0, 1) := by decide +kernel
theorem dL_version_12 : decode cL_version 12 = .ok (.iload 4, 2) := by decide +kernel
theorem dL_version_14 : decode cL_version 14 = .ok (.iaload, 1) := by decide +kernel
theorem dL_version_15 : decode cL_version 15 = .ok (.bipush 12, 2) := by decide +kernel
theorem dL_version_17 : decode cL_version 17 = .ok (.irem, 1) := by decide +kernel
theorem dL_version_18 : decode cL_version 18 = .ok (.iload_n 2, 1) := by decide +kernel
theorem dL_version_19 : decode cL_version 19 = .ok (.if_icmp .ne 10, 3) := by decide +kernel
theorem dL_version_22 : decode cL_version 22 = .ok (.iload 4, 2) := by decide +kernel
theorem dL_version_24 : decode cL_version 24 = .ok (.iconst 1, 1) := by decide +kernel
theorem dL_version_25 : decode cL_version 25 = .ok (.iadd, 1) := by decide +kernel
theorem dL_version_26 : decode cL_version 26 = .ok (.goto 4, 3) := by decide +kernel
theorem dL_version_29 : decode cL_version 29 = .ok (.iload_n 3, 1) := by decide +kernel
theorem dL_version_30 : decode cL_version 30 = .ok (.istore_n 3, 1) := by decide +kernel
theorem dL_version_31 : decode cL_version 31 = .ok (.iinc 4 1, 3) := by decide +kernel
theorem dL_version_34 : decode cL_version 34 = .ok (.goto (-29), 3) := by decide +kernel
theorem dL_version_37 : decode cL_version 37 = .ok (.iload_n 3, 1) := by decide +kernel
theorem dL_version_38 : decode cL_version 38 = .ok (.ireturn, 1) := by decide +kernel
theorem dL_value_0 : decode cL_value 0 = .ok (.iload_n 1, 1) := by decide +kernel
theorem dL_value_1 : decode cL_value 1 = .ok (.ifCond .ne 8, 3) := by decide +kernel
theorem dL_value_4 : decode cL_value 4 = .ok (.bipush (-6), 2) := by decide +kernel
theorem dL_value_6 : decode cL_value 6 = .ok (.goto 15, 3) := by decide +kernel
theorem dL_value_9 : decode cL_value 9 = .ok (.aload_n 0, 1) := by decide +kernel
theorem dL_value_10 : decode cL_value 10 = .ok (.iload_n 1, 1) := by decide +kernel
theorem dL_value_11 : decode cL_value 11 = .ok (.iconst 1, 1) := by decide +kernel
theorem dL_value_12 : decode cL_value 12 = .ok (.isub, 1) := by decide +kernel
theorem dL_value_13 : decode cL_value 13 = .ok (.iaload, 1) := by decide +kernel
theorem dL_value_14 : decode cL_value 14 = .ok (.bipush 12, 2) := by decide +kernel
theorem dL_value_16 : decode cL_value 16 = .ok (.idiv, 1) := by decide +kernel
theorem dL_value_17 : decode cL_value 17 = .ok (.sipush 1000, 3) := by decide +kernel
theorem dL_value_20 : decode cL_value 20 = .ok (.irem, 1) := by decide +kernel
theorem dL_value_21 : decode cL_value 21 = .ok (.ireturn, 1) := by decide +kernel
theorem dL_need_0 : decode cL_need 0 = .ok (.aload_n 0, 1) := by decide +kernel
theorem dL_need_1 : decode cL_need 1 = .ok (.iconst 4, 1) := by decide +kernel
theorem dL_need_2 : decode cL_need 2 = .ok (.iload_n 1, 1) := by decide +kernel
theorem dL_need_3 : decode cL_need 3 = .ok (.iadd, 1) := by decide +kernel
theorem dL_need_4 : decode cL_need 4 = .ok (.iaload, 1) := by decide +kernel
theorem dL_need_5 : decode cL_need 5 = .ok (.iconst 1, 1) := by decide +kernel
theorem dL_need_6 : decode cL_need 6 = .ok (.iand, 1) := by decide +kernel
theorem dL_need_7 : decode cL_need 7 = .ok (.iconst 1, 1) := by decide +kernel
theorem dL_need_8 : decode cL_need 8 = .ok (.if_icmp .ne 12, 3) := by decide +kernel
theorem dL_need_11 : decode cL_need 11 = .ok (.aload_n 0, 1) := by decide +kernel
theorem dL_need_12 : decode cL_need 12 = .ok (.bipush 12, 2) := by decide +kernel
theorem dL_need_14 : decode cL_need 14 = .ok (.iload_n 1, 1) := by decide +kernel
theorem dL_need_15 : decode cL_need 15 = .ok (.iadd, 1) := by decide +kernel
theorem dL_need_16 : decode cL_need 16 = .ok (.iaload, 1) := by decide +kernel
theorem dL_need_17 : decode cL_need 17 = .ok (.goto 4, 3) := by decide +kernel
theorem dL_need_20 : decode cL_need 20 = .ok (.iconst 0, 1) := by decide +kernel
theorem dL_need_21 : decode cL_need 21 = .ok (.istore_n 2, 1) := by decide +kernel
theorem dL_need_22 : decode cL_need 22 = .ok (.aload_n 0, 1) := by decide +kernel
theorem dL_need_23 : decode cL_need 23 = .ok (.iconst 4, 1) := by decide +kernel
theorem dL_need_24 : decode cL_need 24 = .ok (.iload_n 1, 1) := by decide +kernel
theorem dL_need_25 : decode cL_need 25 = .ok (.iadd, 1) := by decide +kernel
theorem dL_need_26 : decode cL_need 26 = .ok (.iaload, 1) := by decide +kernel
theorem dL_need_27 : decode cL_need 27 = .ok (.iconst 2, 1) := by decide +kernel
theorem dL_need_28 : decode cL_need 28 = .ok (.iand, 1) := by decide +kernel
theorem dL_need_29 : decode cL_need 29 = .ok (.iconst 2, 1) := by decide +kernel
theorem dL_need_30 : decode cL_need 30 = .ok (.if_icmp .ne 12, 3) := by decide +kernel
theorem dL_need_33 : decode cL_need 33 = .ok (.aload_n 0, 1) := by decide +kernel
theorem dL_need_34 : decode cL_need 34 = .ok (.bipush 16, 2) := by decide +kernel
theorem dL_need_36 : decode cL_need 36 = .ok (.iload_n 1, 1) := by decide +kernel
theorem dL_need_37 : decode cL_need 37 = .ok (.iadd, 1) := by decide +kernel
theorem dL_need_38 : decode cL_need 38 = .ok (.iaload, 1) := by decide +kernel
theorem dL_need_39 : decode cL_need 39 = .ok (.goto 4, 3) := by decide +kernel
theorem dL_need_42 : decode cL_need 42 = .ok (.iconst 0, 1) := by decide +kernel
theorem dL_need_43 : decode cL_need 43 = .ok (.istore_n 3, 1) := by decide +kernel
theorem dL_need_44 : decode cL_need 44 = .ok (.iload_n 2, 1) := by decide +kernel
theorem dL_need_45 : decode cL_need 45 = .ok (.iload_n 3, 1) := by decide +kernel
theorem dL_need_46 : decode cL_need 46 = .ok (.if_icmp .ge 7, 3) := by decide +kernel
theorem dL_need_49 : decode cL_need 49 = .ok (.iload_n 3, 1) := by decide +kernel
theorem dL_need_50 : decode cL_need 50 = .ok (.goto 4, 3) := by decide +kernel
theorem dL_need_53 : decode cL_need 53 = .ok (.iload_n 2, 1) := by decide +kernel
theorem dL_need_54 : decode cL_need 54 = .ok (.ireturn, 1) := by decide +kernel
theorem dL_can_0 : decode cL_can 0 = .ok (.iload 4, 2) := by decide +kernel
theorem dL_can_2 : decode cL_can 2 = .ok (.aload_n 1, 1) := by decide +kernel
theorem dL_can_3 : decode cL_can 3 = .ok (.iload_n 2, 1) := by decide +kernel
theorem dL_can_4 : decode cL_can 4 = .ok (.invokestatic 12, 3) := by decide +kernel
theorem dL_can_7 : decode cL_can 7 = .ok (.if_icmp .ge 29, 3) := by decide +kernel
theorem dL_can_10 : decode cL_can 10 = .ok (.aload_n 1, 1) := by decide +kernel
theorem dL_can_11 : decode cL_can 11 = .ok (.iconst 4, 1) := by decide +kernel
theorem dL_can_12 : decode cL_can 12 = .ok (.iload_n 2, 1) := by decide +kernel
theorem dL_can_13 : decode cL_can 13 = .ok (.iadd, 1) := by decide +kernel
theorem dL_can_14 : decode cL_can 14 = .ok (.iaload, 1) := by decide +kernel
theorem dL_can_15 : decode cL_can 15 = .ok (.iconst 4, 1) := by decide +kernel
theorem dL_can_16 : decode cL_can 16 = .ok (.iand, 1) := by decide +kernel
theorem dL_can_17 : decode cL_can 17 = .ok (.iconst 4, 1) := by decide +kernel
theorem dL_can_18 : decode cL_can 18 = .ok (.if_icmp .ne 22, 3) := by decide +kernel
theorem dL_can_21 : decode cL_can 21 = .ok (.aload_n 0, 1) := by decide +kernel
theorem dL_can_22 : decode cL_can 22 = .ok (.aload_n 1, 1) := by decide +kernel
theorem dL_can_23 : decode cL_can 23 = .ok (.iload_n 2, 1) := by decide +kernel
theorem dL_can_24 : decode cL_can 24 = .ok (.invokestatic 12, 3) := by decide +kernel
theorem dL_can_27 : decode cL_can 27 = .ok (.iload_n 3, 1) := by decide +kernel
theorem dL_can_28 : decode cL_can 28 = .ok (.invokestatic 18, 3) := by decide +kernel
theorem dL_can_31 : decode cL_can 31 = .ok (.iload 4, 2) := by decide +kernel
theorem dL_can_33 : decode cL_can 33 = .ok (.if_icmp .gt 7, 3) := by decide +kernel
theorem dL_can_36 : decode cL_can 36 = .ok (.iconst 1, 1) := by decide +kernel
theorem dL_can_37 : decode cL_can 37 = .ok (.goto 4, 3) := by decide +kernel
theorem dL_can_40 : decode cL_can 40 = .ok (.iconst 0, 1) := by decide +kernel
theorem dL_can_41 : decode cL_can 41 = .ok (.ireturn, 1) := by decide +kernel
theorem dL_step_0 : decode cL_step 0 = .ok (.iload_n 2, 1) := by decide +kernel
theorem dL_step_1 : decode cL_step 1 = .ok (.bipush 9, 2) := by decide +kernel
theorem dL_step_3 : decode cL_step 3 = .ok (.if_icmp .eq 13, 3) := by decide +kernel
theorem dL_step_6 : decode cL_step 6 = .ok (.aload_n 0, 1) := by decide +kernel
theorem dL_step_7 : decode cL_step 7 = .ok (.bipush 10, 2) := by decide +kernel
theorem dL_step_9 : decode cL_step 9 = .ok (.iload_n 2, 1) := by decide +kernel
theorem dL_step_10 : decode cL_step 10 = .ok (.iadd, 1) := by decide +kernel
theorem dL_step_11 : decode cL_step 11 = .ok (.iaload, 1) := by decide +kernel
theorem dL_step_12 : decode cL_step 12 = .ok (.iconst 1, 1) := by decide +kernel
theorem dL_step_13 : decode cL_step 13 = .ok (.if_icmp .ne 7, 3) := by decide +kernel
theorem dL_step_16 : decode cL_step 16 = .ok (.iload_n 3, 1) := by decide +kernel
theorem dL_step_17 : decode cL_step 17 = .ok (.goto 10, 3) := by decide +kernel
theorem dL_step_20 : decode cL_step 20 = .ok (.iload_n 3, 1) := by decide +kernel
theorem dL_step_21 : decode cL_step 21 = .ok (.aload_n 0, 1) := by decide +kernel
theorem dL_step_22 : decode cL_step 22 = .ok (.iconst 5, 1) := by decide +kernel
theorem dL_step_23 : decode cL_step 23 = .ok (.iload_n 2, 1) := by decide +kernel
theorem dL_step_24 : decode cL_step 24 = .ok (.iadd, 1) := by decide +kernel
theorem dL_step_25 : decode cL_step 25 = .ok (.iaload, 1) := by decide +kernel
theorem dL_step_26 : decode cL_step 26 = .ok (.iadd, 1) := by decide +kernel
theorem dL_step_27 : decode cL_step 27 = .ok (.istore 4, 2) := by decide +kernel
theorem dL_step_29 : decode cL_step 29 = .ok (.iload 4, 2) := by decide +kernel
theorem dL_step_31 : decode cL_step 31 = .ok (.aload_n 1, 1) := by decide +kernel
theorem dL_step_32 : decode cL_step 32 = .ok (.iconst 0, 1) := by decide +kernel
theorem dL_step_33 : decode cL_step 33 = .ok (.iaload, 1) := by decide +kernel
theorem dL_step_34 : decode cL_step 34 = .ok (.if_icmp .le 9, 3) := by decide +kernel
theorem dL_step_37 : decode cL_step 37 = .ok (.aload_n 1, 1) := by decide +kernel
theorem dL_step_38 : decode cL_step 38 = .ok (.iconst 0, 1) := by decide +kernel
theorem dL_step_39 : decode cL_step 39 = .ok (.iaload, 1) := by decide +kernel
theorem dL_step_40 : decode cL_step 40 = .ok (.goto 5, 3) := by decide +kernel
theorem dL_step_43 : decode cL_step 43 = .ok (.iload 4, 2) := by decide +kernel
theorem dL_step_45 : decode cL_step 45 = .ok (.ireturn, 1) := by decide +kernel
theorem dL_wait_0 : decode cL_wait 0 = .ok (.aload_n 1, 1) := by decide +kernel
theorem dL_wait_1 : decode cL_wait 1 = .ok (.aload_n 3, 1) := by decide +kernel
theorem dL_wait_2 : decode cL_wait 2 = .ok (.iload 6, 2) := by decide +kernel
theorem dL_wait_4 : decode cL_wait 4 = .ok (.invokestatic 22, 3) := by decide +kernel
theorem dL_wait_7 : decode cL_wait 7 = .ok (.istore 7, 2) := by decide +kernel
theorem dL_wait_9 : decode cL_wait 9 = .ok (.iconst 0, 1) := by decide +kernel
theorem dL_wait_10 : decode cL_wait 10 = .ok (.istore 8, 2) := by decide +kernel
theorem dL_wait_12 : decode cL_wait 12 = .ok (.iload 8, 2) := by decide +kernel
theorem dL_wait_14 : decode cL_wait 14 = .ok (.bipush 66, 2) := by decide +kernel
theorem dL_wait_16 : decode cL_wait 16 = .ok (.if_icmp .ge 37, 3) := by decide +kernel
theorem dL_wait_19 : decode cL_wait 19 = .ok (.aload_n 0, 1) := by decide +kernel
theorem dL_wait_20 : decode cL_wait 20 = .ok (.aload_n 2, 1) := by decide +kernel
theorem dL_wait_21 : decode cL_wait 21 = .ok (.iload 4, 2) := by decide +kernel
theorem dL_wait_23 : decode cL_wait 23 = .ok (.iload 5, 2) := by decide +kernel
theorem dL_wait_25 : decode cL_wait 25 = .ok (.iload 7, 2) := by decide +kernel
theorem dL_wait_27 : decode cL_wait 27 = .ok (.invokestatic 26, 3) := by decide +kernel
theorem dL_wait_30 : decode cL_wait 30 = .ok (.ifCond .eq 6, 3) := by decide +kernel
theorem dL_wait_33 : decode cL_wait 33 = .ok (.iload 8, 2) := by decide +kernel
theorem dL_wait_35 : decode cL_wait 35 = .ok (.ireturn, 1) := by decide +kernel
theorem dL_wait_36 : decode cL_wait 36 = .ok (.aload_n 1, 1) := by decide +kernel
theorem dL_wait_37 : decode cL_wait 37 = .ok (.aload_n 3, 1) := by decide +kernel
theorem dL_wait_38 : decode cL_wait 38 = .ok (.iload 6, 2) := by decide +kernel
theorem dL_wait_40 : decode cL_wait 40 = .ok (.iload 7, 2) := by decide +kernel
theorem dL_wait_42 : decode cL_wait 42 = .ok (.invokestatic 30, 3) := by decide +kernel
theorem dL_wait_45 : decode cL_wait 45 = .ok (.istore 7, 2) := by decide +kernel
theorem dL_wait_47 : decode cL_wait 47 = .ok (.iinc 8 1, 3) := by decide +kernel
theorem dL_wait_50 : decode cL_wait 50 = .ok (.goto (-38), 3) := by decide +kernel
theorem dL_wait_53 : decode cL_wait 53 = .ok (.bipush (-6), 2) := by decide +kernel
theorem dL_wait_55 : decode cL_wait 55 = .ok (.ireturn, 1) := by decide +kernel
theorem dL_pass_0 : decode cL_pass 0 = .ok (.iconst 0, 1) := by decide +kernel
theorem dL_pass_1 : decode cL_pass 1 = .ok (.istore_n 3, 1) := by decide +kernel
theorem dL_pass_2 : decode cL_pass 2 = .ok (.iload_n 3, 1) := by decide +kernel
theorem dL_pass_3 : decode cL_pass 3 = .ok (.iload_n 2, 1) := by decide +kernel
theorem dL_pass_4 : decode cL_pass 4 = .ok (.if_icmp .ge 53, 3) := by decide +kernel
theorem dL_pass_7 : decode cL_pass 7 = .ok (.iconst 0, 1) := by decide +kernel
theorem dL_pass_8 : decode cL_pass 8 = .ok (.istore 4, 2) := by decide +kernel
theorem dL_pass_10 : decode cL_pass 10 = .ok (.iload 4, 2) := by decide +kernel
theorem dL_pass_12 : decode cL_pass 12 = .ok (.iconst 5, 1) := by decide +kernel
theorem dL_pass_13 : decode cL_pass 13 = .ok (.if_icmp .ge 38, 3) := by decide +kernel
theorem dL_pass_16 : decode cL_pass 16 = .ok (.aload_n 0, 1) := by decide +kernel
theorem dL_pass_17 : decode cL_pass 17 = .ok (.iload 4, 2) := by decide +kernel
theorem dL_pass_19 : decode cL_pass 19 = .ok (.aload_n 0, 1) := by decide +kernel
theorem dL_pass_20 : decode cL_pass 20 = .ok (.iload 4, 2) := by decide +kernel
theorem dL_pass_22 : decode cL_pass 22 = .ok (.iaload, 1) := by decide +kernel
theorem dL_pass_23 : decode cL_pass 23 = .ok (.ifCond .ge 10, 3) := by decide +kernel
theorem dL_pass_26 : decode cL_pass 26 = .ok (.aload_n 0, 1) := by decide +kernel
theorem dL_pass_27 : decode cL_pass 27 = .ok (.iload 4, 2) := by decide +kernel
theorem dL_pass_29 : decode cL_pass 29 = .ok (.iaload, 1) := by decide +kernel
theorem dL_pass_30 : decode cL_pass 30 = .ok (.goto 14, 3) := by decide +kernel
theorem dL_pass_33 : decode cL_pass 33 = .ok (.aload_n 0, 1) := by decide +kernel
theorem dL_pass_34 : decode cL_pass 34 = .ok (.aload_n 1, 1) := by decide +kernel
theorem dL_pass_35 : decode cL_pass 35 = .ok (.iload 4, 2) := by decide +kernel
theorem dL_pass_37 : decode cL_pass 37 = .ok (.aload_n 0, 1) := by decide +kernel
theorem dL_pass_38 : decode cL_pass 38 = .ok (.iload 4, 2) := by decide +kernel
theorem dL_pass_40 : decode cL_pass 40 = .ok (.iaload, 1) := by decide +kernel
theorem dL_pass_41 : decode cL_pass 41 = .ok (.invokestatic 30, 3) := by decide +kernel
theorem dL_pass_44 : decode cL_pass 44 = .ok (.iastore, 1) := by decide +kernel
theorem dL_pass_45 : decode cL_pass 45 = .ok (.iinc 4 1, 3) := by decide +kernel
theorem dL_pass_48 : decode cL_pass 48 = .ok (.goto (-38), 3) := by decide +kernel
theorem dL_pass_51 : decode cL_pass 51 = .ok (.iinc 3 1, 3) := by decide +kernel
theorem dL_pass_54 : decode cL_pass 54 = .ok (.goto (-52), 3) := by decide +kernel
theorem dL_pass_57 : decode cL_pass 57 = .ok (.return_, 1) := by decide +kernel
theorem dL_wrote_0 : decode cL_wrote 0 = .ok (.iconst 0, 1) := by decide +kernel
theorem dL_wrote_1 : decode cL_wrote 1 = .ok (.istore 5, 2) := by decide +kernel
theorem dL_wrote_3 : decode cL_wrote 3 = .ok (.aload_n 1, 1) := by decide +kernel
theorem dL_wrote_4 : decode cL_wrote 4 = .ok (.bipush 32, 2) := by decide +kernel
theorem dL_wrote_6 : decode cL_wrote 6 = .ok (.iload_n 3, 1) := by decide +kernel
theorem dL_wrote_7 : decode cL_wrote 7 = .ok (.iadd, 1) := by decide +kernel
theorem dL_wrote_8 : decode cL_wrote 8 = .ok (.iaload, 1) := by decide +kernel
theorem dL_wrote_9 : decode cL_wrote 9 = .ok (.istore 6, 2) := by decide +kernel
theorem dL_wrote_11 : decode cL_wrote 11 = .ok (.iload 6, 2) := by decide +kernel
theorem dL_wrote_13 : decode cL_wrote 13 = .ok (.aload_n 2, 1) := by decide +kernel
theorem dL_wrote_14 : decode cL_wrote 14 = .ok (.iconst 0, 1) := by decide +kernel
theorem dL_wrote_15 : decode cL_wrote 15 = .ok (.iaload, 1) := by decide +kernel
theorem dL_wrote_16 : decode cL_wrote 16 = .ok (.if_icmp .ge 44, 3) := by decide +kernel
theorem dL_wrote_19 : decode cL_wrote 19 = .ok (.aload_n 0, 1) := by decide +kernel
theorem dL_wrote_20 : decode cL_wrote 20 = .ok (.iload 6, 2) := by decide +kernel
theorem dL_wrote_22 : decode cL_wrote 22 = .ok (.iaload, 1) := by decide +kernel
theorem dL_wrote_23 : decode cL_wrote 23 = .ok (.bipush 12, 2) := by decide +kernel
theorem dL_wrote_25 : decode cL_wrote 25 = .ok (.irem, 1) := by decide +kernel
theorem dL_wrote_26 : decode cL_wrote 26 = .ok (.iload 4, 2) := by decide +kernel
theorem dL_wrote_28 : decode cL_wrote 28 = .ok (.if_icmp .ne 22, 3) := by decide +kernel
theorem dL_wrote_31 : decode cL_wrote 31 = .ok (.aload_n 0, 1) := by decide +kernel
theorem dL_wrote_32 : decode cL_wrote 32 = .ok (.iload 6, 2) := by decide +kernel
theorem dL_wrote_34 : decode cL_wrote 34 = .ok (.iaload, 1) := by decide +kernel
theorem dL_wrote_35 : decode cL_wrote 35 = .ok (.sipush 12000, 3) := by decide +kernel
theorem dL_wrote_38 : decode cL_wrote 38 = .ok (.idiv, 1) := by decide +kernel
theorem dL_wrote_39 : decode cL_wrote 39 = .ok (.iload_n 3, 1) := by decide +kernel
theorem dL_wrote_40 : decode cL_wrote 40 = .ok (.if_icmp .ne 10, 3) := by decide +kernel
theorem dL_wrote_43 : decode cL_wrote 43 = .ok (.iload 6, 2) := by decide +kernel
theorem dL_wrote_45 : decode cL_wrote 45 = .ok (.iconst 1, 1) := by decide +kernel
theorem dL_wrote_46 : decode cL_wrote 46 = .ok (.iadd, 1) := by decide +kernel
theorem dL_wrote_47 : decode cL_wrote 47 = .ok (.goto 5, 3) := by decide +kernel
theorem dL_wrote_50 : decode cL_wrote 50 = .ok (.iload 5, 2) := by decide +kernel
theorem dL_wrote_52 : decode cL_wrote 52 = .ok (.istore 5, 2) := by decide +kernel
theorem dL_wrote_54 : decode cL_wrote 54 = .ok (.iinc 6 1, 3) := by decide +kernel
theorem dL_wrote_57 : decode cL_wrote 57 = .ok (.goto (-46), 3) := by decide +kernel
theorem dL_wrote_60 : decode cL_wrote 60 = .ok (.iload 5, 2) := by decide +kernel
theorem dL_wrote_62 : decode cL_wrote 62 = .ok (.ireturn, 1) := by decide +kernel
theorem dL_answer_0 : decode cL_answer 0 = .ok (.aload_n 0, 1) := by decide +kernel
theorem dL_answer_1 : decode cL_answer 1 = .ok (.aload_n 1, 1) := by decide +kernel
theorem dL_answer_2 : decode cL_answer 2 = .ok (.aload 4, 2) := by decide +kernel
theorem dL_answer_4 : decode cL_answer 4 = .ok (.iload 7, 2) := by decide +kernel
theorem dL_answer_6 : decode cL_answer 6 = .ok (.invokestatic 22, 3) := by decide +kernel
theorem dL_answer_9 : decode cL_answer 9 = .ok (.iload 6, 2) := by decide +kernel
theorem dL_answer_11 : decode cL_answer 11 = .ok (.invokestatic 18, 3) := by decide +kernel
theorem dL_answer_14 : decode cL_answer 14 = .ok (.istore 9, 2) := by decide +kernel
theorem dL_answer_16 : decode cL_answer 16 = .ok (.aload_n 2, 1) := by decide +kernel
theorem dL_answer_17 : decode cL_answer 17 = .ok (.bipush 20, 2) := by decide +kernel
theorem dL_answer_19 : decode cL_answer 19 = .ok (.iload 5, 2) := by decide +kernel
theorem dL_answer_21 : decode cL_answer 21 = .ok (.iadd, 1) := by decide +kernel
theorem dL_answer_22 : decode cL_answer 22 = .ok (.dup2, 1) := by decide +kernel
theorem dL_answer_23 : decode cL_answer 23 = .ok (.iaload, 1) := by decide +kernel
theorem dL_answer_24 : decode cL_answer 24 = .ok (.iconst 1, 1) := by decide +kernel
theorem dL_answer_25 : decode cL_answer 25 = .ok (.iadd, 1) := by decide +kernel
theorem dL_answer_26 : decode cL_answer 26 = .ok (.iastore, 1) := by decide +kernel
theorem dL_answer_27 : decode cL_answer 27 = .ok (.aload_n 2, 1) := by decide +kernel
theorem dL_answer_28 : decode cL_answer 28 = .ok (.bipush 24, 2) := by decide +kernel
theorem dL_answer_30 : decode cL_answer 30 = .ok (.iload 5, 2) := by decide +kernel
theorem dL_answer_32 : decode cL_answer 32 = .ok (.iadd, 1) := by decide +kernel
theorem dL_answer_33 : decode cL_answer 33 = .ok (.dup2, 1) := by decide +kernel
theorem dL_answer_34 : decode cL_answer 34 = .ok (.iaload, 1) := by decide +kernel
theorem dL_answer_35 : decode cL_answer 35 = .ok (.aload_n 0, 1) := by decide +kernel
theorem dL_answer_36 : decode cL_answer 36 = .ok (.aload_n 2, 1) := by decide +kernel
theorem dL_answer_37 : decode cL_answer 37 = .ok (.aload 4, 2) := by decide +kernel
theorem dL_answer_39 : decode cL_answer 39 = .ok (.iload 5, 2) := by decide +kernel
theorem dL_answer_41 : decode cL_answer 41 = .ok (.iload 6, 2) := by decide +kernel
theorem dL_answer_43 : decode cL_answer 43 = .ok (.invokestatic 34, 3) := by decide +kernel
theorem dL_answer_46 : decode cL_answer 46 = .ok (.iload 9, 2) := by decide +kernel
theorem dL_answer_48 : decode cL_answer 48 = .ok (.if_icmp .le 7, 3) := by decide +kernel
theorem dL_answer_51 : decode cL_answer 51 = .ok (.iconst 1, 1) := by decide +kernel
theorem dL_answer_52 : decode cL_answer 52 = .ok (.goto 4, 3) := by decide +kernel
theorem dL_answer_55 : decode cL_answer 55 = .ok (.iconst 0, 1) := by decide +kernel
theorem dL_answer_56 : decode cL_answer 56 = .ok (.iadd, 1) := by decide +kernel
theorem dL_answer_57 : decode cL_answer 57 = .ok (.iastore, 1) := by decide +kernel
theorem dL_answer_58 : decode cL_answer 58 = .ok (.aload_n 2, 1) := by decide +kernel
theorem dL_answer_59 : decode cL_answer 59 = .ok (.bipush 28, 2) := by decide +kernel
theorem dL_answer_61 : decode cL_answer 61 = .ok (.iload 5, 2) := by decide +kernel
theorem dL_answer_63 : decode cL_answer 63 = .ok (.iadd, 1) := by decide +kernel
theorem dL_answer_64 : decode cL_answer 64 = .ok (.dup2, 1) := by decide +kernel
theorem dL_answer_65 : decode cL_answer 65 = .ok (.iaload, 1) := by decide +kernel
theorem dL_answer_66 : decode cL_answer 66 = .ok (.aload_n 3, 1) := by decide +kernel
theorem dL_answer_67 : decode cL_answer 67 = .ok (.bipush 12, 2) := by decide +kernel
theorem dL_answer_69 : decode cL_answer 69 = .ok (.iload 5, 2) := by decide +kernel
theorem dL_answer_71 : decode cL_answer 71 = .ok (.imul, 1) := by decide +kernel
theorem dL_answer_72 : decode cL_answer 72 = .ok (.iload 6, 2) := by decide +kernel
theorem dL_answer_74 : decode cL_answer 74 = .ok (.iadd, 1) := by decide +kernel
theorem dL_answer_75 : decode cL_answer 75 = .ok (.iaload, 1) := by decide +kernel
theorem dL_answer_76 : decode cL_answer 76 = .ok (.iload 9, 2) := by decide +kernel
theorem dL_answer_78 : decode cL_answer 78 = .ok (.if_icmp .le 7, 3) := by decide +kernel
theorem dL_answer_81 : decode cL_answer 81 = .ok (.iconst 1, 1) := by decide +kernel
theorem dL_answer_82 : decode cL_answer 82 = .ok (.goto 4, 3) := by decide +kernel
theorem dL_answer_85 : decode cL_answer 85 = .ok (.iconst 0, 1) := by decide +kernel
theorem dL_answer_86 : decode cL_answer 86 = .ok (.iadd, 1) := by decide +kernel
theorem dL_answer_87 : decode cL_answer 87 = .ok (.iastore, 1) := by decide +kernel
theorem dL_answer_88 : decode cL_answer 88 = .ok (.aload_n 3, 1) := by decide +kernel
theorem dL_answer_89 : decode cL_answer 89 = .ok (.bipush 12, 2) := by decide +kernel
theorem dL_answer_91 : decode cL_answer 91 = .ok (.iload 5, 2) := by decide +kernel
theorem dL_answer_93 : decode cL_answer 93 = .ok (.imul, 1) := by decide +kernel
theorem dL_answer_94 : decode cL_answer 94 = .ok (.iload 6, 2) := by decide +kernel
theorem dL_answer_96 : decode cL_answer 96 = .ok (.iadd, 1) := by decide +kernel
theorem dL_answer_97 : decode cL_answer 97 = .ok (.aload_n 3, 1) := by decide +kernel
theorem dL_answer_98 : decode cL_answer 98 = .ok (.bipush 12, 2) := by decide +kernel
theorem dL_answer_100 : decode cL_answer 100 = .ok (.iload 5, 2) := by decide +kernel
theorem dL_answer_102 : decode cL_answer 102 = .ok (.imul, 1) := by decide +kernel
theorem dL_answer_103 : decode cL_answer 103 = .ok (.iload 6, 2) := by decide +kernel
theorem dL_answer_105 : decode cL_answer 105 = .ok (.iadd, 1) := by decide +kernel
theorem dL_answer_106 : decode cL_answer 106 = .ok (.iaload, 1) := by decide +kernel
theorem dL_answer_107 : decode cL_answer 107 = .ok (.iload 9, 2) := by decide +kernel
theorem dL_answer_109 : decode cL_answer 109 = .ok (.if_icmp .le 16, 3) := by decide +kernel
theorem dL_answer_112 : decode cL_answer 112 = .ok (.aload_n 3, 1) := by decide +kernel
theorem dL_answer_113 : decode cL_answer 113 = .ok (.bipush 12, 2) := by decide +kernel
theorem dL_answer_115 : decode cL_answer 115 = .ok (.iload 5, 2) := by decide +kernel
theorem dL_answer_117 : decode cL_answer 117 = .ok (.imul, 1) := by decide +kernel
theorem dL_answer_118 : decode cL_answer 118 = .ok (.iload 6, 2) := by decide +kernel
theorem dL_answer_120 : decode cL_answer 120 = .ok (.iadd, 1) := by decide +kernel
theorem dL_answer_121 : decode cL_answer 121 = .ok (.iaload, 1) := by decide +kernel
theorem dL_answer_122 : decode cL_answer 122 = .ok (.goto 5, 3) := by decide +kernel
theorem dL_answer_125 : decode cL_answer 125 = .ok (.iload 9, 2) := by decide +kernel
theorem dL_answer_127 : decode cL_answer 127 = .ok (.iastore, 1) := by decide +kernel
theorem dL_answer_128 : decode cL_answer 128 = .ok (.aload_n 2, 1) := by decide +kernel
theorem dL_answer_129 : decode cL_answer 129 = .ok (.bipush 16, 2) := by decide +kernel
theorem dL_answer_131 : decode cL_answer 131 = .ok (.iload 5, 2) := by decide +kernel
theorem dL_answer_133 : decode cL_answer 133 = .ok (.iadd, 1) := by decide +kernel
theorem dL_answer_134 : decode cL_answer 134 = .ok (.aload_n 2, 1) := by decide +kernel
theorem dL_answer_135 : decode cL_answer 135 = .ok (.bipush 16, 2) := by decide +kernel
theorem dL_answer_137 : decode cL_answer 137 = .ok (.iload 5, 2) := by decide +kernel
theorem dL_answer_139 : decode cL_answer 139 = .ok (.iadd, 1) := by decide +kernel
theorem dL_answer_140 : decode cL_answer 140 = .ok (.iaload, 1) := by decide +kernel
theorem dL_answer_141 : decode cL_answer 141 = .ok (.aload_n 1, 1) := by decide +kernel
theorem dL_answer_142 : decode cL_answer 142 = .ok (.aload 4, 2) := by decide +kernel
theorem dL_answer_144 : decode cL_answer 144 = .ok (.iload 7, 2) := by decide +kernel
theorem dL_answer_146 : decode cL_answer 146 = .ok (.invokestatic 22, 3) := by decide +kernel
theorem dL_answer_149 : decode cL_answer 149 = .ok (.if_icmp .le 13, 3) := by decide +kernel
theorem dL_answer_152 : decode cL_answer 152 = .ok (.aload_n 2, 1) := by decide +kernel
theorem dL_answer_153 : decode cL_answer 153 = .ok (.bipush 16, 2) := by decide +kernel
theorem dL_answer_155 : decode cL_answer 155 = .ok (.iload 5, 2) := by decide +kernel
theorem dL_answer_157 : decode cL_answer 157 = .ok (.iadd, 1) := by decide +kernel
theorem dL_answer_158 : decode cL_answer 158 = .ok (.iaload, 1) := by decide +kernel
theorem dL_answer_159 : decode cL_answer 159 = .ok (.goto 11, 3) := by decide +kernel
theorem dL_answer_162 : decode cL_answer 162 = .ok (.aload_n 1, 1) := by decide +kernel
theorem dL_answer_163 : decode cL_answer 163 = .ok (.aload 4, 2) := by decide +kernel
theorem dL_answer_165 : decode cL_answer 165 = .ok (.iload 7, 2) := by decide +kernel
theorem dL_answer_167 : decode cL_answer 167 = .ok (.invokestatic 22, 3) := by decide +kernel
theorem dL_answer_170 : decode cL_answer 170 = .ok (.iastore, 1) := by decide +kernel
theorem dL_answer_171 : decode cL_answer 171 = .ok (.aload 4, 2) := by decide +kernel
theorem dL_answer_173 : decode cL_answer 173 = .ok (.iconst 1, 1) := by decide +kernel
theorem dL_answer_174 : decode cL_answer 174 = .ok (.dup2, 1) := by decide +kernel
theorem dL_answer_175 : decode cL_answer 175 = .ok (.iaload, 1) := by decide +kernel
theorem dL_answer_176 : decode cL_answer 176 = .ok (.iload 7, 2) := by decide +kernel
theorem dL_answer_178 : decode cL_answer 178 = .ok (.bipush 9, 2) := by decide +kernel
theorem dL_answer_180 : decode cL_answer 180 = .ok (.if_icmp .ne 7, 3) := by decide +kernel
theorem dL_answer_183 : decode cL_answer 183 = .ok (.iconst 1, 1) := by decide +kernel
theorem dL_answer_184 : decode cL_answer 184 = .ok (.goto 4, 3) := by decide +kernel
theorem dL_answer_187 : decode cL_answer 187 = .ok (.iconst 0, 1) := by decide +kernel
theorem dL_answer_188 : decode cL_answer 188 = .ok (.iadd, 1) := by decide +kernel
theorem dL_answer_189 : decode cL_answer 189 = .ok (.iastore, 1) := by decide +kernel
theorem dL_answer_190 : decode cL_answer 190 = .ok (.iload 7, 2) := by decide +kernel
theorem dL_answer_192 : decode cL_answer 192 = .ok (.bipush 9, 2) := by decide +kernel
theorem dL_answer_194 : decode cL_answer 194 = .ok (.if_icmp .ge 14, 3) := by decide +kernel
theorem dL_answer_197 : decode cL_answer 197 = .ok (.aload_n 1, 1) := by decide +kernel
theorem dL_answer_198 : decode cL_answer 198 = .ok (.bipush 15, 2) := by decide +kernel
theorem dL_answer_200 : decode cL_answer 200 = .ok (.iload 7, 2) := by decide +kernel
theorem dL_answer_202 : decode cL_answer 202 = .ok (.iadd, 1) := by decide +kernel
theorem dL_answer_203 : decode cL_answer 203 = .ok (.dup2, 1) := by decide +kernel
theorem dL_answer_204 : decode cL_answer 204 = .ok (.iaload, 1) := by decide +kernel
theorem dL_answer_205 : decode cL_answer 205 = .ok (.iconst 1, 1) := by decide +kernel
theorem dL_answer_206 : decode cL_answer 206 = .ok (.iadd, 1) := by decide +kernel
theorem dL_answer_207 : decode cL_answer 207 = .ok (.iastore, 1) := by decide +kernel
theorem dL_answer_208 : decode cL_answer 208 = .ok (.aload 4, 2) := by decide +kernel
theorem dL_answer_210 : decode cL_answer 210 = .ok (.iconst 2, 1) := by decide +kernel
theorem dL_answer_211 : decode cL_answer 211 = .ok (.iload 7, 2) := by decide +kernel
theorem dL_answer_213 : decode cL_answer 213 = .ok (.iastore, 1) := by decide +kernel
theorem dL_answer_214 : decode cL_answer 214 = .ok (.aload 4, 2) := by decide +kernel
theorem dL_answer_216 : decode cL_answer 216 = .ok (.iconst 3, 1) := by decide +kernel
theorem dL_answer_217 : decode cL_answer 217 = .ok (.iload 9, 2) := by decide +kernel
theorem dL_answer_219 : decode cL_answer 219 = .ok (.iastore, 1) := by decide +kernel
theorem dL_answer_220 : decode cL_answer 220 = .ok (.aload 4, 2) := by decide +kernel
theorem dL_answer_222 : decode cL_answer 222 = .ok (.iconst 4, 1) := by decide +kernel
theorem dL_answer_223 : decode cL_answer 223 = .ok (.iload 8, 2) := by decide +kernel
theorem dL_answer_225 : decode cL_answer 225 = .ok (.iastore, 1) := by decide +kernel
theorem dL_answer_226 : decode cL_answer 226 = .ok (.aload_n 0, 1) := by decide +kernel
theorem dL_answer_227 : decode cL_answer 227 = .ok (.iload 9, 2) := by decide +kernel
theorem dL_answer_229 : decode cL_answer 229 = .ok (.invokestatic 38, 3) := by decide +kernel
theorem dL_answer_232 : decode cL_answer 232 = .ok (.ireturn, 1) := by decide +kernel
theorem dL_isPlace_0 : decode cL_isPlace 0 = .ok (.iload_n 1, 1) := by decide +kernel
theorem dL_isPlace_1 : decode cL_isPlace 1 = .ok (.bipush 9, 2) := by decide +kernel
theorem dL_isPlace_3 : decode cL_isPlace 3 = .ok (.if_icmp .eq 14, 3) := by decide +kernel
theorem dL_isPlace_6 : decode cL_isPlace 6 = .ok (.iload_n 1, 1) := by decide +kernel
theorem dL_isPlace_7 : decode cL_isPlace 7 = .ok (.iconst 5, 1) := by decide +kernel
theorem dL_isPlace_8 : decode cL_isPlace 8 = .ok (.if_icmp .ge 13, 3) := by decide +kernel
theorem dL_isPlace_11 : decode cL_isPlace 11 = .ok (.aload_n 0, 1) := by decide +kernel
theorem dL_isPlace_12 : decode cL_isPlace 12 = .ok (.iload_n 1, 1) := by decide +kernel
theorem dL_isPlace_13 : decode cL_isPlace 13 = .ok (.iaload, 1) := by decide +kernel
theorem dL_isPlace_14 : decode cL_isPlace 14 = .ok (.ifCond .lt 7, 3) := by decide +kernel
theorem dL_isPlace_17 : decode cL_isPlace 17 = .ok (.iconst 1, 1) := by decide +kernel
theorem dL_isPlace_18 : decode cL_isPlace 18 = .ok (.goto 4, 3) := by decide +kernel
theorem dL_isPlace_21 : decode cL_isPlace 21 = .ok (.iconst 0, 1) := by decide +kernel
theorem dL_isPlace_22 : decode cL_isPlace 22 = .ok (.ireturn, 1) := by decide +kernel
theorem dL_place_0 : decode cL_place 0 = .ok (.iload_n 1, 1) := by decide +kernel
theorem dL_place_1 : decode cL_place 1 = .ok (.bipush 8, 2) := by decide +kernel
theorem dL_place_3 : decode cL_place 3 = .ok (.invokestatic 41, 3) := by decide +kernel
theorem dL_place_6 : decode cL_place 6 = .ok (.istore_n 2, 1) := by decide +kernel
theorem dL_place_7 : decode cL_place 7 = .ok (.iload_n 2, 1) := by decide +kernel
theorem dL_place_8 : decode cL_place 8 = .ok (.iconst 4, 1) := by decide +kernel
theorem dL_place_9 : decode cL_place 9 = .ok (.if_icmp .gt 19, 3) := by decide +kernel
theorem dL_place_12 : decode cL_place 12 = .ok (.aload_n 0, 1) := by decide +kernel
theorem dL_place_13 : decode cL_place 13 = .ok (.iload_n 2, 1) := by decide +kernel
theorem dL_place_14 : decode cL_place 14 = .ok (.iaload, 1) := by decide +kernel
theorem dL_place_15 : decode cL_place 15 = .ok (.ifCond .ge 18, 3) := by decide +kernel
theorem dL_place_18 : decode cL_place 18 = .ok (.iload_n 1, 1) := by decide +kernel
theorem dL_place_19 : decode cL_place 19 = .ok (.iconst 3, 1) := by decide +kernel
theorem dL_place_20 : decode cL_place 20 = .ok (.ishr, 1) := by decide +kernel
theorem dL_place_21 : decode cL_place 21 = .ok (.iconst 4, 1) := by decide +kernel
theorem dL_place_22 : decode cL_place 22 = .ok (.invokestatic 41, 3) := by decide +kernel
theorem dL_place_25 : decode cL_place 25 = .ok (.ifCond .le 8, 3) := by decide +kernel
theorem dL_place_28 : decode cL_place 28 = .ok (.bipush 9, 2) := by decide +kernel
theorem dL_place_30 : decode cL_place 30 = .ok (.goto 4, 3) := by decide +kernel
theorem dL_place_33 : decode cL_place 33 = .ok (.iload_n 2, 1) := by decide +kernel
theorem dL_place_34 : decode cL_place 34 = .ok (.ireturn, 1) := by decide +kernel
theorem dL_places_0 : decode cL_places 0 = .ok (.iconst 0, 1) := by decide +kernel
theorem dL_places_1 : decode cL_places 1 = .ok (.istore 6, 2) := by decide +kernel
theorem dL_places_3 : decode cL_places 3 = .ok (.iconst 0, 1) := by decide +kernel
theorem dL_places_4 : decode cL_places 4 = .ok (.istore 7, 2) := by decide +kernel
theorem dL_places_6 : decode cL_places 6 = .ok (.iconst 0, 1) := by decide +kernel
theorem dL_places_7 : decode cL_places 7 = .ok (.istore 8, 2) := by decide +kernel
theorem dL_places_9 : decode cL_places 9 = .ok (.iconst 0, 1) := by decide +kernel
theorem dL_places_10 : decode cL_places 10 = .ok (.istore 9, 2) := by decide +kernel
theorem dL_places_12 : decode cL_places 12 = .ok (.iload 9, 2) := by decide +kernel
theorem dL_places_14 : decode cL_places 14 = .ok (.iconst 5, 1) := by decide +kernel
theorem dL_places_15 : decode cL_places 15 = .ok (.if_icmp .ge 369, 3) := by decide +kernel
theorem dL_places_18 : decode cL_places 18 = .ok (.iconst (-1), 1) := by decide +kernel
theorem dL_places_19 : decode cL_places 19 = .ok (.istore 10, 2) := by decide +kernel
theorem dL_places_21 : decode cL_places 21 = .ok (.aload_n 2, 1) := by decide +kernel
theorem dL_places_22 : decode cL_places 22 = .ok (.iload 9, 2) := by decide +kernel
theorem dL_places_24 : decode cL_places 24 = .ok (.iaload, 1) := by decide +kernel
theorem dL_places_25 : decode cL_places 25 = .ok (.ifCond .ge 52, 3) := by decide +kernel
theorem dL_places_28 : decode cL_places 28 = .ok (.aload_n 0, 1) := by decide +kernel
theorem dL_places_29 : decode cL_places 29 = .ok (.iload 9, 2) := by decide +kernel
theorem dL_places_31 : decode cL_places 31 = .ok (.invokevirtual 45, 3) := by decide +kernel
theorem dL_places_34 : decode cL_places 34 = .ok (.iload 10, 2) := by decide +kernel
theorem dL_places_36 : decode cL_places 36 = .ok (.if_icmp .ne 39, 3) := by decide +kernel
theorem dL_places_39 : decode cL_places 39 = .ok (.aload_n 0, 1) := by decide +kernel
theorem dL_places_40 : decode cL_places 40 = .ok (.iload 9, 2) := by decide +kernel
theorem dL_places_42 : decode cL_places 42 = .ok (.iconst 0, 1) := by decide +kernel
theorem dL_places_43 : decode cL_places 43 = .ok (.invokevirtual 49, 3) := by decide +kernel
theorem dL_places_46 : decode cL_places 46 = .ok (.iload 10, 2) := by decide +kernel
theorem dL_places_48 : decode cL_places 48 = .ok (.if_icmp .ne 27, 3) := by decide +kernel
theorem dL_places_51 : decode cL_places 51 = .ok (.aload_n 0, 1) := by decide +kernel
theorem dL_places_52 : decode cL_places 52 = .ok (.iload 9, 2) := by decide +kernel
theorem dL_places_54 : decode cL_places 54 = .ok (.iload 5, 2) := by decide +kernel
theorem dL_places_56 : decode cL_places 56 = .ok (.invokevirtual 52, 3) := by decide +kernel
theorem dL_places_59 : decode cL_places 59 = .ok (.iload 10, 2) := by decide +kernel
theorem dL_places_61 : decode cL_places 61 = .ok (.if_icmp .ne 14, 3) := by decide +kernel
theorem dL_places_64 : decode cL_places 64 = .ok (.aload_n 0, 1) := by decide +kernel
theorem dL_places_65 : decode cL_places 65 = .ok (.iload 9, 2) := by decide +kernel
theorem dL_places_67 : decode cL_places 67 = .ok (.invokevirtual 54, 3) := by decide +kernel
theorem dL_places_70 : decode cL_places 70 = .ok (.iload 10, 2) := by decide +kernel
theorem dL_places_72 : decode cL_places 72 = .ok (.if_icmp .eq 306, 3) := by decide +kernel
theorem dL_places_75 : decode cL_places 75 = .ok (.iconst 0, 1) := by decide +kernel
theorem dL_places_76 : decode cL_places 76 = .ok (.ireturn, 1) := by decide +kernel
theorem dL_places_77 : decode cL_places 77 = .ok (.iconst 0, 1) := by decide +kernel
theorem dL_places_78 : decode cL_places 78 = .ok (.istore 11, 2) := by decide +kernel
theorem dL_places_80 : decode cL_places 80 = .ok (.iconst 0, 1) := by decide +kernel
theorem dL_places_81 : decode cL_places 81 = .ok (.istore 12, 2) := by decide +kernel
theorem dL_places_83 : decode cL_places 83 = .ok (.aload_n 2, 1) := by decide +kernel
theorem dL_places_84 : decode cL_places 84 = .ok (.iload 9, 2) := by decide +kernel
theorem dL_places_86 : decode cL_places 86 = .ok (.iaload, 1) := by decide +kernel
theorem dL_places_87 : decode cL_places 87 = .ok (.istore 13, 2) := by decide +kernel
theorem dL_places_89 : decode cL_places 89 = .ok (.iconst 0, 1) := by decide +kernel
theorem dL_places_90 : decode cL_places 90 = .ok (.istore 14, 2) := by decide +kernel
theorem dL_places_92 : decode cL_places 92 = .ok (.iconst 0, 1) := by decide +kernel
theorem dL_places_93 : decode cL_places 93 = .ok (.istore 15, 2) := by decide +kernel
theorem dL_places_95 : decode cL_places 95 = .ok (.iload 15, 2) := by decide +kernel
theorem dL_places_97 : decode cL_places 97 = .ok (.iconst 4, 1) := by decide +kernel
theorem dL_places_98 : decode cL_places 98 = .ok (.if_icmp .ge 28, 3) := by decide +kernel
theorem dL_places_101 : decode cL_places 101 = .ok (.iload 11, 2) := by decide +kernel
theorem dL_places_103 : decode cL_places 103 = .ok (.aload_n 3, 1) := by decide +kernel
theorem dL_places_104 : decode cL_places 104 = .ok (.iload 15, 2) := by decide +kernel
theorem dL_places_106 : decode cL_places 106 = .ok (.iaload, 1) := by decide +kernel
theorem dL_places_107 : decode cL_places 107 = .ok (.iload 9, 2) := by decide +kernel
theorem dL_places_109 : decode cL_places 109 = .ok (.if_icmp .ne 7, 3) := by decide +kernel
theorem dL_places_112 : decode cL_places 112 = .ok (.iconst 1, 1) := by decide +kernel
theorem dL_places_113 : decode cL_places 113 = .ok (.goto 4, 3) := by decide +kernel
theorem dL_places_116 : decode cL_places 116 = .ok (.iconst 0, 1) := by decide +kernel
theorem dL_places_117 : decode cL_places 117 = .ok (.iadd, 1) := by decide +kernel
theorem dL_places_118 : decode cL_places 118 = .ok (.istore 11, 2) := by decide +kernel
theorem dL_places_120 : decode cL_places 120 = .ok (.iinc 15 1, 3) := by decide +kernel
theorem dL_places_123 : decode cL_places 123 = .ok (.goto (-28), 3) := by decide +kernel
theorem dL_places_126 : decode cL_places 126 = .ok (.aload_n 2, 1) := by decide +kernel
theorem dL_places_127 : decode cL_places 127 = .ok (.iload 9, 2) := by decide +kernel
theorem dL_places_129 : decode cL_places 129 = .ok (.iaload, 1) := by decide +kernel
theorem dL_places_130 : decode cL_places 130 = .ok (.istore 15, 2) := by decide +kernel
theorem dL_places_132 : decode cL_places 132 = .ok (.iload 15, 2) := by decide +kernel
theorem dL_places_134 : decode cL_places 134 = .ok (.aload 4, 2) := by decide +kernel
theorem dL_places_136 : decode cL_places 136 = .ok (.iconst 0, 1) := by decide +kernel
theorem dL_places_137 : decode cL_places 137 = .ok (.iaload, 1) := by decide +kernel
theorem dL_places_138 : decode cL_places 138 = .ok (.if_icmp .ge 31, 3) := by decide +kernel
theorem dL_places_141 : decode cL_places 141 = .ok (.iload 12, 2) := by decide +kernel
theorem dL_places_143 : decode cL_places 143 = .ok (.aload_n 1, 1) := by decide +kernel
theorem dL_places_144 : decode cL_places 144 = .ok (.iload 15, 2) := by decide +kernel
theorem dL_places_146 : decode cL_places 146 = .ok (.iaload, 1) := by decide +kernel
theorem dL_places_147 : decode cL_places 147 = .ok (.bipush 12, 2) := by decide +kernel
theorem dL_places_149 : decode cL_places 149 = .ok (.irem, 1) := by decide +kernel
theorem dL_places_150 : decode cL_places 150 = .ok (.iload 5, 2) := by decide +kernel
theorem dL_places_152 : decode cL_places 152 = .ok (.if_icmp .ne 7, 3) := by decide +kernel
theorem dL_places_155 : decode cL_places 155 = .ok (.iconst 1, 1) := by decide +kernel
theorem dL_places_156 : decode cL_places 156 = .ok (.goto 4, 3) := by decide +kernel
theorem dL_places_159 : decode cL_places 159 = .ok (.iconst 0, 1) := by decide +kernel
theorem dL_places_160 : decode cL_places 160 = .ok (.iadd, 1) := by decide +kernel
theorem dL_places_161 : decode cL_places 161 = .ok (.istore 12, 2) := by decide +kernel
theorem dL_places_163 : decode cL_places 163 = .ok (.iinc 15 1, 3) := by decide +kernel
theorem dL_places_166 : decode cL_places 166 = .ok (.goto (-34), 3) := by decide +kernel
theorem dL_places_169 : decode cL_places 169 = .ok (.iload 13, 2) := by decide +kernel
theorem dL_places_171 : decode cL_places 171 = .ok (.aload 4, 2) := by decide +kernel
theorem dL_places_173 : decode cL_places 173 = .ok (.iconst 0, 1) := by decide +kernel
theorem dL_places_174 : decode cL_places 174 = .ok (.iaload, 1) := by decide +kernel
theorem dL_places_175 : decode cL_places 175 = .ok (.if_icmp .ge 28, 3) := by decide +kernel
theorem dL_places_178 : decode cL_places 178 = .ok (.iload 14, 2) := by decide +kernel
theorem dL_places_180 : decode cL_places 180 = .ok (.bipush 70, 2) := by decide +kernel
theorem dL_places_182 : decode cL_places 182 = .ok (.if_icmp .ge 21, 3) := by decide +kernel
theorem dL_places_185 : decode cL_places 185 = .ok (.aload_n 2, 1) := by decide +kernel
theorem dL_places_186 : decode cL_places 186 = .ok (.aload 4, 2) := by decide +kernel
theorem dL_places_188 : decode cL_places 188 = .ok (.iload 9, 2) := by decide +kernel
theorem dL_places_190 : decode cL_places 190 = .ok (.iload 13, 2) := by decide +kernel
theorem dL_places_192 : decode cL_places 192 = .ok (.invokestatic 30, 3) := by decide +kernel
theorem dL_places_195 : decode cL_places 195 = .ok (.istore 13, 2) := by decide +kernel
theorem dL_places_197 : decode cL_places 197 = .ok (.iinc 14 1, 3) := by decide +kernel
theorem dL_places_200 : decode cL_places 200 = .ok (.goto (-31), 3) := by decide +kernel
theorem dL_places_203 : decode cL_places 203 = .ok (.iload 14, 2) := by decide +kernel
theorem dL_places_205 : decode cL_places 205 = .ok (.iload 7, 2) := by decide +kernel
theorem dL_places_207 : decode cL_places 207 = .ok (.if_icmp .le 8, 3) := by decide +kernel
theorem dL_places_210 : decode cL_places 210 = .ok (.iload 14, 2) := by decide +kernel
theorem dL_places_212 : decode cL_places 212 = .ok (.goto 5, 3) := by decide +kernel
theorem dL_places_215 : decode cL_places 215 = .ok (.iload 7, 2) := by decide +kernel
theorem dL_places_217 : decode cL_places 217 = .ok (.istore 7, 2) := by decide +kernel
theorem dL_places_219 : decode cL_places 219 = .ok (.iload 8, 2) := by decide +kernel
theorem dL_places_221 : decode cL_places 221 = .ok (.ifCond .ne 10, 3) := by decide +kernel
theorem dL_places_224 : decode cL_places 224 = .ok (.iload 14, 2) := by decide +kernel
theorem dL_places_226 : decode cL_places 226 = .ok (.bipush 70, 2) := by decide +kernel
theorem dL_places_228 : decode cL_places 228 = .ok (.if_icmp .ne 7, 3) := by decide +kernel
theorem dL_places_231 : decode cL_places 231 = .ok (.iconst 1, 1) := by decide +kernel
theorem dL_places_232 : decode cL_places 232 = .ok (.goto 4, 3) := by decide +kernel
theorem dL_places_235 : decode cL_places 235 = .ok (.iconst 0, 1) := by decide +kernel
theorem dL_places_236 : decode cL_places 236 = .ok (.istore 8, 2) := by decide +kernel
theorem dL_places_238 : decode cL_places 238 = .ok (.iload 6, 2) := by decide +kernel
theorem dL_places_240 : decode cL_places 240 = .ok (.iconst 1, 1) := by decide +kernel
theorem dL_places_241 : decode cL_places 241 = .ok (.iload 9, 2) := by decide +kernel
theorem dL_places_243 : decode cL_places 243 = .ok (.ishl, 1) := by decide +kernel
theorem dL_places_244 : decode cL_places 244 = .ok (.ior, 1) := by decide +kernel
theorem dL_places_245 : decode cL_places 245 = .ok (.istore 6, 2) := by decide +kernel
theorem dL_places_247 : decode cL_places 247 = .ok (.aload_n 1, 1) := by decide +kernel
theorem dL_places_248 : decode cL_places 248 = .ok (.aload_n 2, 1) := by decide +kernel
theorem dL_places_249 : decode cL_places 249 = .ok (.iload 9, 2) := by decide +kernel
theorem dL_places_251 : decode cL_places 251 = .ok (.iaload, 1) := by decide +kernel
theorem dL_places_252 : decode cL_places 252 = .ok (.iload 5, 2) := by decide +kernel
theorem dL_places_254 : decode cL_places 254 = .ok (.invokestatic 18, 3) := by decide +kernel
theorem dL_places_257 : decode cL_places 257 = .ok (.istore 15, 2) := by decide +kernel
theorem dL_places_259 : decode cL_places 259 = .ok (.aload_n 0, 1) := by decide +kernel
theorem dL_places_260 : decode cL_places 260 = .ok (.iload 9, 2) := by decide +kernel
theorem dL_places_262 : decode cL_places 262 = .ok (.invokevirtual 45, 3) := by decide +kernel
theorem dL_places_265 : decode cL_places 265 = .ok (.aload_n 2, 1) := by decide +kernel
theorem dL_places_266 : decode cL_places 266 = .ok (.iload 9, 2) := by decide +kernel
theorem dL_places_268 : decode cL_places 268 = .ok (.iaload, 1) := by decide +kernel
theorem dL_places_269 : decode cL_places 269 = .ok (.if_icmp .ne 107, 3) := by decide +kernel
theorem dL_places_272 : decode cL_places 272 = .ok (.aload_n 0, 1) := by decide +kernel
theorem dL_places_273 : decode cL_places 273 = .ok (.iload 9, 2) := by decide +kernel
theorem dL_places_275 : decode cL_places 275 = .ok (.iconst 0, 1) := by decide +kernel
theorem dL_places_276 : decode cL_places 276 = .ok (.invokevirtual 49, 3) := by decide +kernel
theorem dL_places_279 : decode cL_places 279 = .ok (.aload_n 2, 1) := by decide +kernel
theorem dL_places_280 : decode cL_places 280 = .ok (.iconst 5, 1) := by decide +kernel
theorem dL_places_281 : decode cL_places 281 = .ok (.iload 9, 2) := by decide +kernel
theorem dL_places_283 : decode cL_places 283 = .ok (.iadd, 1) := by decide +kernel
theorem dL_places_284 : decode cL_places 284 = .ok (.iaload, 1) := by decide +kernel
theorem dL_places_285 : decode cL_places 285 = .ok (.if_icmp .ne 91, 3) := by decide +kernel
theorem dL_places_288 : decode cL_places 288 = .ok (.aload_n 0, 1) := by decide +kernel
theorem dL_places_289 : decode cL_places 289 = .ok (.iload 9, 2) := by decide +kernel
theorem dL_places_291 : decode cL_places 291 = .ok (.iconst 1, 1) := by decide +kernel
theorem dL_places_292 : decode cL_places 292 = .ok (.invokevirtual 49, 3) := by decide +kernel
theorem dL_places_295 : decode cL_places 295 = .ok (.aload_n 2, 1) := by decide +kernel
theorem dL_places_296 : decode cL_places 296 = .ok (.bipush 10, 2) := by decide +kernel
theorem dL_places_298 : decode cL_places 298 = .ok (.iload 9, 2) := by decide +kernel
theorem dL_places_300 : decode cL_places 300 = .ok (.iadd, 1) := by decide +kernel
theorem dL_places_301 : decode cL_places 301 = .ok (.iaload, 1) := by decide +kernel
theorem dL_places_302 : decode cL_places 302 = .ok (.if_icmp .ne 74, 3) := by decide +kernel
theorem dL_places_305 : decode cL_places 305 = .ok (.aload_n 0, 1) := by decide +kernel
theorem dL_places_306 : decode cL_places 306 = .ok (.iload 9, 2) := by decide +kernel
theorem dL_places_308 : decode cL_places 308 = .ok (.iconst 2, 1) := by decide +kernel
theorem dL_places_309 : decode cL_places 309 = .ok (.invokevirtual 49, 3) := by decide +kernel
theorem dL_places_312 : decode cL_places 312 = .ok (.iload 11, 2) := by decide +kernel
theorem dL_places_314 : decode cL_places 314 = .ok (.if_icmp .ne 62, 3) := by decide +kernel
theorem dL_places_317 : decode cL_places 317 = .ok (.aload_n 0, 1) := by decide +kernel
theorem dL_places_318 : decode cL_places 318 = .ok (.iload 9, 2) := by decide +kernel
theorem dL_places_320 : decode cL_places 320 = .ok (.invokevirtual 54, 3) := by decide +kernel
theorem dL_places_323 : decode cL_places 323 = .ok (.aload_n 2, 1) := by decide +kernel
theorem dL_places_324 : decode cL_places 324 = .ok (.bipush 15, 2) := by decide +kernel
theorem dL_places_326 : decode cL_places 326 = .ok (.iload 9, 2) := by decide +kernel
theorem dL_places_328 : decode cL_places 328 = .ok (.iadd, 1) := by decide +kernel
theorem dL_places_329 : decode cL_places 329 = .ok (.iaload, 1) := by decide +kernel
theorem dL_places_330 : decode cL_places 330 = .ok (.if_icmp .ne 46, 3) := by decide +kernel
theorem dL_places_333 : decode cL_places 333 = .ok (.aload_n 0, 1) := by decide +kernel
theorem dL_places_334 : decode cL_places 334 = .ok (.iload 9, 2) := by decide +kernel
theorem dL_places_336 : decode cL_places 336 = .ok (.iload 5, 2) := by decide +kernel
theorem dL_places_338 : decode cL_places 338 = .ok (.invokevirtual 52, 3) := by decide +kernel
theorem dL_places_341 : decode cL_places 341 = .ok (.iload 15, 2) := by decide +kernel
theorem dL_places_343 : decode cL_places 343 = .ok (.if_icmp .ne 33, 3) := by decide +kernel
theorem dL_places_346 : decode cL_places 346 = .ok (.aload_n 0, 1) := by decide +kernel
theorem dL_places_347 : decode cL_places 347 = .ok (.iload 9, 2) := by decide +kernel
theorem dL_places_349 : decode cL_places 349 = .ok (.iload 5, 2) := by decide +kernel
theorem dL_places_351 : decode cL_places 351 = .ok (.invokevirtual 57, 3) := by decide +kernel
theorem dL_places_354 : decode cL_places 354 = .ok (.aload_n 1, 1) := by decide +kernel
theorem dL_places_355 : decode cL_places 355 = .ok (.iload 15, 2) := by decide +kernel
theorem dL_places_357 : decode cL_places 357 = .ok (.invokestatic 38, 3) := by decide +kernel
theorem dL_places_360 : decode cL_places 360 = .ok (.if_icmp .ne 16, 3) := by decide +kernel
theorem dL_places_363 : decode cL_places 363 = .ok (.aload_n 0, 1) := by decide +kernel
theorem dL_places_364 : decode cL_places 364 = .ok (.iload 9, 2) := by decide +kernel
theorem dL_places_366 : decode cL_places 366 = .ok (.iload 5, 2) := by decide +kernel
theorem dL_places_368 : decode cL_places 368 = .ok (.invokevirtual 59, 3) := by decide +kernel
theorem dL_places_371 : decode cL_places 371 = .ok (.iload 12, 2) := by decide +kernel
theorem dL_places_373 : decode cL_places 373 = .ok (.if_icmp .eq 5, 3) := by decide +kernel
theorem dL_places_376 : decode cL_places 376 = .ok (.iconst 0, 1) := by decide +kernel
theorem dL_places_377 : decode cL_places 377 = .ok (.ireturn, 1) := by decide +kernel
theorem dL_places_378 : decode cL_places 378 = .ok (.iinc 9 1, 3) := by decide +kernel
theorem dL_places_381 : decode cL_places 381 = .ok (.goto (-369), 3) := by decide +kernel
theorem dL_places_384 : decode cL_places 384 = .ok (.aload_n 0, 1) := by decide +kernel
theorem dL_places_385 : decode cL_places 385 = .ok (.invokevirtual 62, 3) := by decide +kernel
theorem dL_places_388 : decode cL_places 388 = .ok (.iload 6, 2) := by decide +kernel
theorem dL_places_390 : decode cL_places 390 = .ok (.if_icmp .ne 131, 3) := by decide +kernel
theorem dL_places_393 : decode cL_places 393 = .ok (.aload_n 0, 1) := by decide +kernel
theorem dL_places_394 : decode cL_places 394 = .ok (.invokevirtual 66, 3) := by decide +kernel
theorem dL_places_397 : decode cL_places 397 = .ok (.aload 4, 2) := by decide +kernel
theorem dL_places_399 : decode cL_places 399 = .ok (.iconst 0, 1) := by decide +kernel
theorem dL_places_400 : decode cL_places 400 = .ok (.iaload, 1) := by decide +kernel
theorem dL_places_401 : decode cL_places 401 = .ok (.if_icmp .ne 120, 3) := by decide +kernel
theorem dL_places_404 : decode cL_places 404 = .ok (.aload_n 0, 1) := by decide +kernel
theorem dL_places_405 : decode cL_places 405 = .ok (.bipush 9, 2) := by decide +kernel
theorem dL_places_407 : decode cL_places 407 = .ok (.invokevirtual 45, 3) := by decide +kernel
theorem dL_places_410 : decode cL_places 410 = .ok (.aload 4, 2) := by decide +kernel
theorem dL_places_412 : decode cL_places 412 = .ok (.iconst 0, 1) := by decide +kernel
theorem dL_places_413 : decode cL_places 413 = .ok (.iaload, 1) := by decide +kernel
theorem dL_places_414 : decode cL_places 414 = .ok (.if_icmp .ne 107, 3) := by decide +kernel
theorem dL_places_417 : decode cL_places 417 = .ok (.aload_n 0, 1) := by decide +kernel
theorem dL_places_418 : decode cL_places 418 = .ok (.bipush 9, 2) := by decide +kernel
theorem dL_places_420 : decode cL_places 420 = .ok (.iload 5, 2) := by decide +kernel
theorem dL_places_422 : decode cL_places 422 = .ok (.invokevirtual 59, 3) := by decide +kernel
theorem dL_places_425 : decode cL_places 425 = .ok (.ifCond .ne 96, 3) := by decide +kernel
theorem dL_places_428 : decode cL_places 428 = .ok (.aload_n 0, 1) := by decide +kernel
theorem dL_places_429 : decode cL_places 429 = .ok (.bipush 9, 2) := by decide +kernel
theorem dL_places_431 : decode cL_places 431 = .ok (.iload 5, 2) := by decide +kernel
theorem dL_places_433 : decode cL_places 433 = .ok (.invokevirtual 52, 3) := by decide +kernel
theorem dL_places_436 : decode cL_places 436 = .ok (.aload_n 1, 1) := by decide +kernel
theorem dL_places_437 : decode cL_places 437 = .ok (.aload 4, 2) := by decide +kernel
theorem dL_places_439 : decode cL_places 439 = .ok (.iconst 0, 1) := by decide +kernel
theorem dL_places_440 : decode cL_places 440 = .ok (.iaload, 1) := by decide +kernel
theorem dL_places_441 : decode cL_places 441 = .ok (.iload 5, 2) := by decide +kernel
theorem dL_places_443 : decode cL_places 443 = .ok (.invokestatic 18, 3) := by decide +kernel
theorem dL_places_446 : decode cL_places 446 = .ok (.if_icmp .ne 75, 3) := by decide +kernel
theorem dL_places_449 : decode cL_places 449 = .ok (.aload_n 0, 1) := by decide +kernel
theorem dL_places_450 : decode cL_places 450 = .ok (.bipush 9, 2) := by decide +kernel
theorem dL_places_452 : decode cL_places 452 = .ok (.invokevirtual 54, 3) := by decide +kernel
theorem dL_places_455 : decode cL_places 455 = .ok (.aload 4, 2) := by decide +kernel
theorem dL_places_457 : decode cL_places 457 = .ok (.iconst 1, 1) := by decide +kernel
theorem dL_places_458 : decode cL_places 458 = .ok (.iaload, 1) := by decide +kernel
theorem dL_places_459 : decode cL_places 459 = .ok (.if_icmp .ne 62, 3) := by decide +kernel
theorem dL_places_462 : decode cL_places 462 = .ok (.aload_n 0, 1) := by decide +kernel
theorem dL_places_463 : decode cL_places 463 = .ok (.invokevirtual 69, 3) := by decide +kernel
theorem dL_places_466 : decode cL_places 466 = .ok (.iload 8, 2) := by decide +kernel
theorem dL_places_468 : decode cL_places 468 = .ok (.ifCond .eq 8, 3) := by decide +kernel
theorem dL_places_471 : decode cL_places 471 = .ok (.bipush (-6), 2) := by decide +kernel
theorem dL_places_473 : decode cL_places 473 = .ok (.goto 5, 3) := by decide +kernel
theorem dL_places_476 : decode cL_places 476 = .ok (.iload 7, 2) := by decide +kernel
theorem dL_places_478 : decode cL_places 478 = .ok (.if_icmp .ne 43, 3) := by decide +kernel
theorem dL_places_481 : decode cL_places 481 = .ok (.aload_n 0, 1) := by decide +kernel
theorem dL_places_482 : decode cL_places 482 = .ok (.iconst 0, 1) := by decide +kernel
theorem dL_places_483 : decode cL_places 483 = .ok (.invokevirtual 72, 3) := by decide +kernel
theorem dL_places_486 : decode cL_places 486 = .ok (.aload 4, 2) := by decide +kernel
theorem dL_places_488 : decode cL_places 488 = .ok (.iconst 2, 1) := by decide +kernel
theorem dL_places_489 : decode cL_places 489 = .ok (.iaload, 1) := by decide +kernel
theorem dL_places_490 : decode cL_places 490 = .ok (.if_icmp .ne 31, 3) := by decide +kernel
theorem dL_places_493 : decode cL_places 493 = .ok (.aload_n 0, 1) := by decide +kernel
theorem dL_places_494 : decode cL_places 494 = .ok (.iconst 1, 1) := by decide +kernel
theorem dL_places_495 : decode cL_places 495 = .ok (.invokevirtual 72, 3) := by decide +kernel
theorem dL_places_498 : decode cL_places 498 = .ok (.aload 4, 2) := by decide +kernel
theorem dL_places_500 : decode cL_places 500 = .ok (.iconst 3, 1) := by decide +kernel
theorem dL_places_501 : decode cL_places 501 = .ok (.iaload, 1) := by decide +kernel
theorem dL_places_502 : decode cL_places 502 = .ok (.if_icmp .ne 19, 3) := by decide +kernel
theorem dL_places_505 : decode cL_places 505 = .ok (.aload_n 0, 1) := by decide +kernel
theorem dL_places_506 : decode cL_places 506 = .ok (.iconst 2, 1) := by decide +kernel
theorem dL_places_507 : decode cL_places 507 = .ok (.invokevirtual 72, 3) := by decide +kernel
theorem dL_places_510 : decode cL_places 510 = .ok (.aload 4, 2) := by decide +kernel
theorem dL_places_512 : decode cL_places 512 = .ok (.iconst 4, 1) := by decide +kernel
theorem dL_places_513 : decode cL_places 513 = .ok (.iaload, 1) := by decide +kernel
theorem dL_places_514 : decode cL_places 514 = .ok (.if_icmp .ne 7, 3) := by decide +kernel
theorem dL_places_517 : decode cL_places 517 = .ok (.iconst 1, 1) := by decide +kernel
theorem dL_places_518 : decode cL_places 518 = .ok (.goto 4, 3) := by decide +kernel
theorem dL_places_521 : decode cL_places 521 = .ok (.iconst 0, 1) := by decide +kernel
theorem dL_places_522 : decode cL_places 522 = .ok (.ireturn, 1) := by decide +kernel
theorem dL_sessions_0 : decode cL_sessions 0 = .ok (.iconst 0, 1) := by decide +kernel
theorem dL_sessions_1 : decode cL_sessions 1 = .ok (.istore 7, 2) := by decide +kernel
theorem dL_sessions_3 : decode cL_sessions 3 = .ok (.iconst 0, 1) := by decide +kernel
theorem dL_sessions_4 : decode cL_sessions 4 = .ok (.istore 8, 2) := by decide +kernel
theorem dL_sessions_6 : decode cL_sessions 6 = .ok (.iload 8, 2) := by decide +kernel
theorem dL_sessions_8 : decode cL_sessions 8 = .ok (.iconst 4, 1) := by decide +kernel
theorem dL_sessions_9 : decode cL_sessions 9 = .ok (.if_icmp .ge 465, 3) := by decide +kernel
theorem dL_sessions_12 : decode cL_sessions 12 = .ok (.aload_n 3, 1) := by decide +kernel
theorem dL_sessions_13 : decode cL_sessions 13 = .ok (.iload 8, 2) := by decide +kernel
theorem dL_sessions_15 : decode cL_sessions 15 = .ok (.iaload, 1) := by decide +kernel
theorem dL_sessions_16 : decode cL_sessions 16 = .ok (.ifCond .lt 439, 3) := by decide +kernel
theorem dL_sessions_19 : decode cL_sessions 19 = .ok (.iload 7, 2) := by decide +kernel
theorem dL_sessions_21 : decode cL_sessions 21 = .ok (.iconst 1, 1) := by decide +kernel
theorem dL_sessions_22 : decode cL_sessions 22 = .ok (.iload 8, 2) := by decide +kernel
theorem dL_sessions_24 : decode cL_sessions 24 = .ok (.ishl, 1) := by decide +kernel
theorem dL_sessions_25 : decode cL_sessions 25 = .ok (.ior, 1) := by decide +kernel
theorem dL_sessions_26 : decode cL_sessions 26 = .ok (.istore 7, 2) := by decide +kernel
theorem dL_sessions_28 : decode cL_sessions 28 = .ok (.aload_n 0, 1) := by decide +kernel
theorem dL_sessions_29 : decode cL_sessions 29 = .ok (.iload 8, 2) := by decide +kernel
theorem dL_sessions_31 : decode cL_sessions 31 = .ok (.iconst 0, 1) := by decide +kernel
theorem dL_sessions_32 : decode cL_sessions 32 = .ok (.invokevirtual 75, 3) := by decide +kernel
theorem dL_sessions_35 : decode cL_sessions 35 = .ok (.aload_n 3, 1) := by decide +kernel
theorem dL_sessions_36 : decode cL_sessions 36 = .ok (.iload 8, 2) := by decide +kernel
theorem dL_sessions_38 : decode cL_sessions 38 = .ok (.iaload, 1) := by decide +kernel
theorem dL_sessions_39 : decode cL_sessions 39 = .ok (.if_icmp .ne 144, 3) := by decide +kernel
theorem dL_sessions_42 : decode cL_sessions 42 = .ok (.aload_n 0, 1) := by decide +kernel
theorem dL_sessions_43 : decode cL_sessions 43 = .ok (.iload 8, 2) := by decide +kernel
theorem dL_sessions_45 : decode cL_sessions 45 = .ok (.iconst 1, 1) := by decide +kernel
theorem dL_sessions_46 : decode cL_sessions 46 = .ok (.invokevirtual 75, 3) := by decide +kernel
theorem dL_sessions_49 : decode cL_sessions 49 = .ok (.aload_n 3, 1) := by decide +kernel
theorem dL_sessions_50 : decode cL_sessions 50 = .ok (.iconst 4, 1) := by decide +kernel
theorem dL_sessions_51 : decode cL_sessions 51 = .ok (.iload 8, 2) := by decide +kernel
theorem dL_sessions_53 : decode cL_sessions 53 = .ok (.iadd, 1) := by decide +kernel
theorem dL_sessions_54 : decode cL_sessions 54 = .ok (.iaload, 1) := by decide +kernel
theorem dL_sessions_55 : decode cL_sessions 55 = .ok (.if_icmp .ne 128, 3) := by decide +kernel
theorem dL_sessions_58 : decode cL_sessions 58 = .ok (.aload_n 0, 1) := by decide +kernel
theorem dL_sessions_59 : decode cL_sessions 59 = .ok (.iload 8, 2) := by decide +kernel
theorem dL_sessions_61 : decode cL_sessions 61 = .ok (.iconst 2, 1) := by decide +kernel
theorem dL_sessions_62 : decode cL_sessions 62 = .ok (.invokevirtual 75, 3) := by decide +kernel
theorem dL_sessions_65 : decode cL_sessions 65 = .ok (.aload_n 3, 1) := by decide +kernel
theorem dL_sessions_66 : decode cL_sessions 66 = .ok (.bipush 8, 2) := by decide +kernel
theorem dL_sessions_68 : decode cL_sessions 68 = .ok (.iload 8, 2) := by decide +kernel
theorem dL_sessions_70 : decode cL_sessions 70 = .ok (.iadd, 1) := by decide +kernel
theorem dL_sessions_71 : decode cL_sessions 71 = .ok (.iaload, 1) := by decide +kernel
theorem dL_sessions_72 : decode cL_sessions 72 = .ok (.if_icmp .ne 111, 3) := by decide +kernel
theorem dL_sessions_75 : decode cL_sessions 75 = .ok (.aload_n 0, 1) := by decide +kernel
theorem dL_sessions_76 : decode cL_sessions 76 = .ok (.iload 8, 2) := by decide +kernel
theorem dL_sessions_78 : decode cL_sessions 78 = .ok (.iconst 3, 1) := by decide +kernel
theorem dL_sessions_79 : decode cL_sessions 79 = .ok (.invokevirtual 75, 3) := by decide +kernel
theorem dL_sessions_82 : decode cL_sessions 82 = .ok (.aload_n 3, 1) := by decide +kernel
theorem dL_sessions_83 : decode cL_sessions 83 = .ok (.bipush 12, 2) := by decide +kernel
theorem dL_sessions_85 : decode cL_sessions 85 = .ok (.iload 8, 2) := by decide +kernel
theorem dL_sessions_87 : decode cL_sessions 87 = .ok (.iadd, 1) := by decide +kernel
theorem dL_sessions_88 : decode cL_sessions 88 = .ok (.iaload, 1) := by decide +kernel
theorem dL_sessions_89 : decode cL_sessions 89 = .ok (.if_icmp .ne 94, 3) := by decide +kernel
theorem dL_sessions_92 : decode cL_sessions 92 = .ok (.aload_n 0, 1) := by decide +kernel
theorem dL_sessions_93 : decode cL_sessions 93 = .ok (.iload 8, 2) := by decide +kernel
theorem dL_sessions_95 : decode cL_sessions 95 = .ok (.iconst 4, 1) := by decide +kernel
theorem dL_sessions_96 : decode cL_sessions 96 = .ok (.invokevirtual 75, 3) := by decide +kernel
theorem dL_sessions_99 : decode cL_sessions 99 = .ok (.aload_n 3, 1) := by decide +kernel
theorem dL_sessions_100 : decode cL_sessions 100 = .ok (.bipush 16, 2) := by decide +kernel
theorem dL_sessions_102 : decode cL_sessions 102 = .ok (.iload 8, 2) := by decide +kernel
theorem dL_sessions_104 : decode cL_sessions 104 = .ok (.iadd, 1) := by decide +kernel
theorem dL_sessions_105 : decode cL_sessions 105 = .ok (.iaload, 1) := by decide +kernel
theorem dL_sessions_106 : decode cL_sessions 106 = .ok (.if_icmp .ne 77, 3) := by decide +kernel
theorem dL_sessions_109 : decode cL_sessions 109 = .ok (.aload_n 0, 1) := by decide +kernel
theorem dL_sessions_110 : decode cL_sessions 110 = .ok (.iload 8, 2) := by decide +kernel
theorem dL_sessions_112 : decode cL_sessions 112 = .ok (.iconst 5, 1) := by decide +kernel
theorem dL_sessions_113 : decode cL_sessions 113 = .ok (.invokevirtual 75, 3) := by decide +kernel
theorem dL_sessions_116 : decode cL_sessions 116 = .ok (.aload_n 3, 1) := by decide +kernel
theorem dL_sessions_117 : decode cL_sessions 117 = .ok (.iload 8, 2) := by decide +kernel
theorem dL_sessions_119 : decode cL_sessions 119 = .ok (.invokestatic 12, 3) := by decide +kernel
theorem dL_sessions_122 : decode cL_sessions 122 = .ok (.if_icmp .ne 61, 3) := by decide +kernel
theorem dL_sessions_125 : decode cL_sessions 125 = .ok (.aload_n 0, 1) := by decide +kernel
theorem dL_sessions_126 : decode cL_sessions 126 = .ok (.iload 8, 2) := by decide +kernel
theorem dL_sessions_128 : decode cL_sessions 128 = .ok (.bipush 6, 2) := by decide +kernel
theorem dL_sessions_130 : decode cL_sessions 130 = .ok (.invokevirtual 75, 3) := by decide +kernel
theorem dL_sessions_133 : decode cL_sessions 133 = .ok (.aload_n 3, 1) := by decide +kernel
theorem dL_sessions_134 : decode cL_sessions 134 = .ok (.bipush 20, 2) := by decide +kernel
theorem dL_sessions_136 : decode cL_sessions 136 = .ok (.iload 8, 2) := by decide +kernel
theorem dL_sessions_138 : decode cL_sessions 138 = .ok (.iadd, 1) := by decide +kernel
theorem dL_sessions_139 : decode cL_sessions 139 = .ok (.iaload, 1) := by decide +kernel
theorem dL_sessions_140 : decode cL_sessions 140 = .ok (.if_icmp .ne 43, 3) := by decide +kernel
theorem dL_sessions_143 : decode cL_sessions 143 = .ok (.aload_n 0, 1) := by decide +kernel
theorem dL_sessions_144 : decode cL_sessions 144 = .ok (.iload 8, 2) := by decide +kernel
theorem dL_sessions_146 : decode cL_sessions 146 = .ok (.bipush 7, 2) := by decide +kernel
theorem dL_sessions_148 : decode cL_sessions 148 = .ok (.invokevirtual 75, 3) := by decide +kernel
theorem dL_sessions_151 : decode cL_sessions 151 = .ok (.aload_n 3, 1) := by decide +kernel
theorem dL_sessions_152 : decode cL_sessions 152 = .ok (.bipush 24, 2) := by decide +kernel
theorem dL_sessions_154 : decode cL_sessions 154 = .ok (.iload 8, 2) := by decide +kernel
theorem dL_sessions_156 : decode cL_sessions 156 = .ok (.iadd, 1) := by decide +kernel
theorem dL_sessions_157 : decode cL_sessions 157 = .ok (.iaload, 1) := by decide +kernel
theorem dL_sessions_158 : decode cL_sessions 158 = .ok (.if_icmp .ne 25, 3) := by decide +kernel
theorem dL_sessions_161 : decode cL_sessions 161 = .ok (.aload_n 0, 1) := by decide +kernel
theorem dL_sessions_162 : decode cL_sessions 162 = .ok (.iload 8, 2) := by decide +kernel
theorem dL_sessions_164 : decode cL_sessions 164 = .ok (.bipush 8, 2) := by decide +kernel
theorem dL_sessions_166 : decode cL_sessions 166 = .ok (.invokevirtual 75, 3) := by decide +kernel
theorem dL_sessions_169 : decode cL_sessions 169 = .ok (.aload_n 3, 1) := by decide +kernel
theorem dL_sessions_170 : decode cL_sessions 170 = .ok (.bipush 28, 2) := by decide +kernel
theorem dL_sessions_172 : decode cL_sessions 172 = .ok (.iload 8, 2) := by decide +kernel
theorem dL_sessions_174 : decode cL_sessions 174 = .ok (.iadd, 1) := by decide +kernel
theorem dL_sessions_175 : decode cL_sessions 175 = .ok (.iaload, 1) := by decide +kernel
theorem dL_sessions_176 : decode cL_sessions 176 = .ok (.if_icmp .ne 7, 3) := by decide +kernel
theorem dL_sessions_179 : decode cL_sessions 179 = .ok (.iconst 1, 1) := by decide +kernel
theorem dL_sessions_180 : decode cL_sessions 180 = .ok (.goto 4, 3) := by decide +kernel
theorem dL_sessions_183 : decode cL_sessions 183 = .ok (.iconst 0, 1) := by decide +kernel
theorem dL_sessions_184 : decode cL_sessions 184 = .ok (.istore 9, 2) := by decide +kernel
theorem dL_sessions_186 : decode cL_sessions 186 = .ok (.bipush (-6), 2) := by decide +kernel
theorem dL_sessions_188 : decode cL_sessions 188 = .ok (.istore 10, 2) := by decide +kernel
theorem dL_sessions_190 : decode cL_sessions 190 = .ok (.bipush 99, 2) := by decide +kernel
theorem dL_sessions_192 : decode cL_sessions 192 = .ok (.istore 11, 2) := by decide +kernel
theorem dL_sessions_194 : decode cL_sessions 194 = .ok (.iconst 0, 1) := by decide +kernel
theorem dL_sessions_195 : decode cL_sessions 195 = .ok (.istore 12, 2) := by decide +kernel
theorem dL_sessions_197 : decode cL_sessions 197 = .ok (.iload 12, 2) := by decide +kernel
theorem dL_sessions_199 : decode cL_sessions 199 = .ok (.iconst 5, 1) := by decide +kernel
theorem dL_sessions_200 : decode cL_sessions 200 = .ok (.if_icmp .ge 117, 3) := by decide +kernel
theorem dL_sessions_203 : decode cL_sessions 203 = .ok (.aload_n 2, 1) := by decide +kernel
theorem dL_sessions_204 : decode cL_sessions 204 = .ok (.iload 12, 2) := by decide +kernel
theorem dL_sessions_206 : decode cL_sessions 206 = .ok (.iaload, 1) := by decide +kernel
theorem dL_sessions_207 : decode cL_sessions 207 = .ok (.ifCond .ge 8, 3) := by decide +kernel
theorem dL_sessions_210 : decode cL_sessions 210 = .ok (.bipush (-6), 2) := by decide +kernel
theorem dL_sessions_212 : decode cL_sessions 212 = .ok (.goto 17, 3) := by decide +kernel
theorem dL_sessions_215 : decode cL_sessions 215 = .ok (.aload_n 1, 1) := by decide +kernel
theorem dL_sessions_216 : decode cL_sessions 216 = .ok (.aload_n 2, 1) := by decide +kernel
theorem dL_sessions_217 : decode cL_sessions 217 = .ok (.aload_n 3, 1) := by decide +kernel
theorem dL_sessions_218 : decode cL_sessions 218 = .ok (.aload 4, 2) := by decide +kernel
theorem dL_sessions_220 : decode cL_sessions 220 = .ok (.iload 8, 2) := by decide +kernel
theorem dL_sessions_222 : decode cL_sessions 222 = .ok (.iload 5, 2) := by decide +kernel
theorem dL_sessions_224 : decode cL_sessions 224 = .ok (.iload 12, 2) := by decide +kernel
theorem dL_sessions_226 : decode cL_sessions 226 = .ok (.invokestatic 78, 3) := by decide +kernel
theorem dL_sessions_229 : decode cL_sessions 229 = .ok (.istore 13, 2) := by decide +kernel
theorem dL_sessions_231 : decode cL_sessions 231 = .ok (.iload 9, 2) := by decide +kernel
theorem dL_sessions_233 : decode cL_sessions 233 = .ok (.ifCond .eq 33, 3) := by decide +kernel
theorem dL_sessions_236 : decode cL_sessions 236 = .ok (.aload_n 0, 1) := by decide +kernel
theorem dL_sessions_237 : decode cL_sessions 237 = .ok (.iload 8, 2) := by decide +kernel
theorem dL_sessions_239 : decode cL_sessions 239 = .ok (.iload 5, 2) := by decide +kernel
theorem dL_sessions_241 : decode cL_sessions 241 = .ok (.iload 12, 2) := by decide +kernel
theorem dL_sessions_243 : decode cL_sessions 243 = .ok (.invokevirtual 82, 3) := by decide +kernel
theorem dL_sessions_246 : decode cL_sessions 246 = .ok (.aload_n 2, 1) := by decide +kernel
theorem dL_sessions_247 : decode cL_sessions 247 = .ok (.iload 12, 2) := by decide +kernel
theorem dL_sessions_249 : decode cL_sessions 249 = .ok (.iaload, 1) := by decide +kernel
theorem dL_sessions_250 : decode cL_sessions 250 = .ok (.ifCond .ge 7, 3) := by decide +kernel
theorem dL_sessions_253 : decode cL_sessions 253 = .ok (.iconst (-1), 1) := by decide +kernel
theorem dL_sessions_254 : decode cL_sessions 254 = .ok (.goto 5, 3) := by decide +kernel
theorem dL_sessions_257 : decode cL_sessions 257 = .ok (.iload 13, 2) := by decide +kernel
theorem dL_sessions_259 : decode cL_sessions 259 = .ok (.if_icmp .ne 7, 3) := by decide +kernel
theorem dL_sessions_262 : decode cL_sessions 262 = .ok (.iconst 1, 1) := by decide +kernel
theorem dL_sessions_263 : decode cL_sessions 263 = .ok (.goto 4, 3) := by decide +kernel
theorem dL_sessions_266 : decode cL_sessions 266 = .ok (.iconst 0, 1) := by decide +kernel
theorem dL_sessions_267 : decode cL_sessions 267 = .ok (.istore 9, 2) := by decide +kernel
theorem dL_sessions_269 : decode cL_sessions 269 = .ok (.iload 13, 2) := by decide +kernel
theorem dL_sessions_271 : decode cL_sessions 271 = .ok (.ifCond .lt 15, 3) := by decide +kernel
theorem dL_sessions_274 : decode cL_sessions 274 = .ok (.iload 13, 2) := by decide +kernel
theorem dL_sessions_276 : decode cL_sessions 276 = .ok (.iload 11, 2) := by decide +kernel
theorem dL_sessions_278 : decode cL_sessions 278 = .ok (.if_icmp .ge 8, 3) := by decide +kernel
theorem dL_sessions_281 : decode cL_sessions 281 = .ok (.iload 12, 2) := by decide +kernel
theorem dL_sessions_283 : decode cL_sessions 283 = .ok (.goto 5, 3) := by decide +kernel
theorem dL_sessions_286 : decode cL_sessions 286 = .ok (.iload 10, 2) := by decide +kernel
theorem dL_sessions_288 : decode cL_sessions 288 = .ok (.istore 10, 2) := by decide +kernel
theorem dL_sessions_290 : decode cL_sessions 290 = .ok (.iload 13, 2) := by decide +kernel
theorem dL_sessions_292 : decode cL_sessions 292 = .ok (.ifCond .lt 15, 3) := by decide +kernel
theorem dL_sessions_295 : decode cL_sessions 295 = .ok (.iload 13, 2) := by decide +kernel
theorem dL_sessions_297 : decode cL_sessions 297 = .ok (.iload 11, 2) := by decide +kernel
theorem dL_sessions_299 : decode cL_sessions 299 = .ok (.if_icmp .ge 8, 3) := by decide +kernel
theorem dL_sessions_302 : decode cL_sessions 302 = .ok (.iload 13, 2) := by decide +kernel
theorem dL_sessions_304 : decode cL_sessions 304 = .ok (.goto 5, 3) := by decide +kernel
theorem dL_sessions_307 : decode cL_sessions 307 = .ok (.iload 11, 2) := by decide +kernel
theorem dL_sessions_309 : decode cL_sessions 309 = .ok (.istore 11, 2) := by decide +kernel
theorem dL_sessions_311 : decode cL_sessions 311 = .ok (.iinc 12 1, 3) := by decide +kernel
theorem dL_sessions_314 : decode cL_sessions 314 = .ok (.goto (-117), 3) := by decide +kernel
theorem dL_sessions_317 : decode cL_sessions 317 = .ok (.aload_n 3, 1) := by decide +kernel
theorem dL_sessions_318 : decode cL_sessions 318 = .ok (.iload 8, 2) := by decide +kernel
theorem dL_sessions_320 : decode cL_sessions 320 = .ok (.iaload, 1) := by decide +kernel
theorem dL_sessions_321 : decode cL_sessions 321 = .ok (.istore 12, 2) := by decide +kernel
theorem dL_sessions_323 : decode cL_sessions 323 = .ok (.aload_n 2, 1) := by decide +kernel
theorem dL_sessions_324 : decode cL_sessions 324 = .ok (.aload 4, 2) := by decide +kernel
theorem dL_sessions_326 : decode cL_sessions 326 = .ok (.iload 12, 2) := by decide +kernel
theorem dL_sessions_328 : decode cL_sessions 328 = .ok (.invokestatic 22, 3) := by decide +kernel
theorem dL_sessions_331 : decode cL_sessions 331 = .ok (.istore 13, 2) := by decide +kernel
theorem dL_sessions_333 : decode cL_sessions 333 = .ok (.iconst 0, 1) := by decide +kernel
theorem dL_sessions_334 : decode cL_sessions 334 = .ok (.istore 14, 2) := by decide +kernel
theorem dL_sessions_336 : decode cL_sessions 336 = .ok (.iload 14, 2) := by decide +kernel
theorem dL_sessions_338 : decode cL_sessions 338 = .ok (.iload 6, 2) := by decide +kernel
theorem dL_sessions_340 : decode cL_sessions 340 = .ok (.if_icmp .ge 21, 3) := by decide +kernel
theorem dL_sessions_343 : decode cL_sessions 343 = .ok (.aload_n 2, 1) := by decide +kernel
theorem dL_sessions_344 : decode cL_sessions 344 = .ok (.aload 4, 2) := by decide +kernel
theorem dL_sessions_346 : decode cL_sessions 346 = .ok (.iload 12, 2) := by decide +kernel
theorem dL_sessions_348 : decode cL_sessions 348 = .ok (.iload 13, 2) := by decide +kernel
theorem dL_sessions_350 : decode cL_sessions 350 = .ok (.invokestatic 30, 3) := by decide +kernel
theorem dL_sessions_353 : decode cL_sessions 353 = .ok (.istore 13, 2) := by decide +kernel
theorem dL_sessions_355 : decode cL_sessions 355 = .ok (.iinc 14 1, 3) := by decide +kernel
theorem dL_sessions_358 : decode cL_sessions 358 = .ok (.goto (-22), 3) := by decide +kernel
theorem dL_sessions_361 : decode cL_sessions 361 = .ok (.iconst 0, 1) := by decide +kernel
theorem dL_sessions_362 : decode cL_sessions 362 = .ok (.istore 14, 2) := by decide +kernel
theorem dL_sessions_364 : decode cL_sessions 364 = .ok (.iconst 0, 1) := by decide +kernel
theorem dL_sessions_365 : decode cL_sessions 365 = .ok (.istore 15, 2) := by decide +kernel
theorem dL_sessions_367 : decode cL_sessions 367 = .ok (.iload 15, 2) := by decide +kernel
theorem dL_sessions_369 : decode cL_sessions 369 = .ok (.bipush 12, 2) := by decide +kernel
theorem dL_sessions_371 : decode cL_sessions 371 = .ok (.if_icmp .ge 33, 3) := by decide +kernel
theorem dL_sessions_374 : decode cL_sessions 374 = .ok (.iload 14, 2) := by decide +kernel
theorem dL_sessions_376 : decode cL_sessions 376 = .ok (.aload_n 1, 1) := by decide +kernel
theorem dL_sessions_377 : decode cL_sessions 377 = .ok (.aload_n 3, 1) := by decide +kernel
theorem dL_sessions_378 : decode cL_sessions 378 = .ok (.iload 8, 2) := by decide +kernel
theorem dL_sessions_380 : decode cL_sessions 380 = .ok (.iload 15, 2) := by decide +kernel
theorem dL_sessions_382 : decode cL_sessions 382 = .ok (.iload 13, 2) := by decide +kernel
theorem dL_sessions_384 : decode cL_sessions 384 = .ok (.invokestatic 26, 3) := by decide +kernel
theorem dL_sessions_387 : decode cL_sessions 387 = .ok (.ifCond .eq 7, 3) := by decide +kernel
theorem dL_sessions_390 : decode cL_sessions 390 = .ok (.iconst 1, 1) := by decide +kernel
theorem dL_sessions_391 : decode cL_sessions 391 = .ok (.goto 4, 3) := by decide +kernel
theorem dL_sessions_394 : decode cL_sessions 394 = .ok (.iconst 0, 1) := by decide +kernel
theorem dL_sessions_395 : decode cL_sessions 395 = .ok (.iadd, 1) := by decide +kernel
theorem dL_sessions_396 : decode cL_sessions 396 = .ok (.istore 14, 2) := by decide +kernel
theorem dL_sessions_398 : decode cL_sessions 398 = .ok (.iinc 15 1, 3) := by decide +kernel
theorem dL_sessions_401 : decode cL_sessions 401 = .ok (.goto (-34), 3) := by decide +kernel
theorem dL_sessions_404 : decode cL_sessions 404 = .ok (.iload 9, 2) := by decide +kernel
theorem dL_sessions_406 : decode cL_sessions 406 = .ok (.ifCond .eq 44, 3) := by decide +kernel
theorem dL_sessions_409 : decode cL_sessions 409 = .ok (.aload_n 0, 1) := by decide +kernel
theorem dL_sessions_410 : decode cL_sessions 410 = .ok (.iload 8, 2) := by decide +kernel
theorem dL_sessions_412 : decode cL_sessions 412 = .ok (.iload 5, 2) := by decide +kernel
theorem dL_sessions_414 : decode cL_sessions 414 = .ok (.invokevirtual 86, 3) := by decide +kernel
theorem dL_sessions_417 : decode cL_sessions 417 = .ok (.iload 10, 2) := by decide +kernel
theorem dL_sessions_419 : decode cL_sessions 419 = .ok (.if_icmp .ne 31, 3) := by decide +kernel
theorem dL_sessions_422 : decode cL_sessions 422 = .ok (.aload_n 0, 1) := by decide +kernel
theorem dL_sessions_423 : decode cL_sessions 423 = .ok (.iload 8, 2) := by decide +kernel
theorem dL_sessions_425 : decode cL_sessions 425 = .ok (.iload 5, 2) := by decide +kernel
theorem dL_sessions_427 : decode cL_sessions 427 = .ok (.bipush 9, 2) := by decide +kernel
theorem dL_sessions_429 : decode cL_sessions 429 = .ok (.invokevirtual 82, 3) := by decide +kernel
theorem dL_sessions_432 : decode cL_sessions 432 = .ok (.ifCond .ne 18, 3) := by decide +kernel
theorem dL_sessions_435 : decode cL_sessions 435 = .ok (.aload_n 0, 1) := by decide +kernel
theorem dL_sessions_436 : decode cL_sessions 436 = .ok (.iload 8, 2) := by decide +kernel
theorem dL_sessions_438 : decode cL_sessions 438 = .ok (.iload 12, 2) := by decide +kernel
theorem dL_sessions_440 : decode cL_sessions 440 = .ok (.iload 6, 2) := by decide +kernel
theorem dL_sessions_442 : decode cL_sessions 442 = .ok (.invokevirtual 89, 3) := by decide +kernel
theorem dL_sessions_445 : decode cL_sessions 445 = .ok (.iload 14, 2) := by decide +kernel
theorem dL_sessions_447 : decode cL_sessions 447 = .ok (.if_icmp .eq 5, 3) := by decide +kernel
theorem dL_sessions_450 : decode cL_sessions 450 = .ok (.iconst 0, 1) := by decide +kernel
theorem dL_sessions_451 : decode cL_sessions 451 = .ok (.ireturn, 1) := by decide +kernel
theorem dL_sessions_452 : decode cL_sessions 452 = .ok (.goto 16, 3) := by decide +kernel
theorem dL_sessions_455 : decode cL_sessions 455 = .ok (.aload_n 0, 1) := by decide +kernel
theorem dL_sessions_456 : decode cL_sessions 456 = .ok (.iload 8, 2) := by decide +kernel
theorem dL_sessions_458 : decode cL_sessions 458 = .ok (.iconst 0, 1) := by decide +kernel
theorem dL_sessions_459 : decode cL_sessions 459 = .ok (.invokevirtual 75, 3) := by decide +kernel
theorem dL_sessions_462 : decode cL_sessions 462 = .ok (.iconst (-1), 1) := by decide +kernel
theorem dL_sessions_463 : decode cL_sessions 463 = .ok (.if_icmp .eq 5, 3) := by decide +kernel
theorem dL_sessions_466 : decode cL_sessions 466 = .ok (.iconst 0, 1) := by decide +kernel
theorem dL_sessions_467 : decode cL_sessions 467 = .ok (.ireturn, 1) := by decide +kernel
theorem dL_sessions_468 : decode cL_sessions 468 = .ok (.iinc 8 1, 3) := by decide +kernel
theorem dL_sessions_471 : decode cL_sessions 471 = .ok (.goto (-465), 3) := by decide +kernel
theorem dL_sessions_474 : decode cL_sessions 474 = .ok (.aload_n 0, 1) := by decide +kernel
theorem dL_sessions_475 : decode cL_sessions 475 = .ok (.invokevirtual 92, 3) := by decide +kernel
theorem dL_sessions_478 : decode cL_sessions 478 = .ok (.iload 7, 2) := by decide +kernel
theorem dL_sessions_480 : decode cL_sessions 480 = .ok (.if_icmp .ne 7, 3) := by decide +kernel
theorem dL_sessions_483 : decode cL_sessions 483 = .ok (.iconst 1, 1) := by decide +kernel
theorem dL_sessions_484 : decode cL_sessions 484 = .ok (.goto 4, 3) := by decide +kernel
theorem dL_sessions_487 : decode cL_sessions 487 = .ok (.iconst 0, 1) := by decide +kernel
theorem dL_sessions_488 : decode cL_sessions 488 = .ok (.ireturn, 1) := by decide +kernel
