theorem dX7_writes_23 : decode cX7_writes 23 = .ok (.getfield 7, 3) := by decide +kernel
theorem dX7_writes_26 : decode cX7_writes 26 = .ok (.iload 4, 2) := by decide +kernel
theorem dX7_writes_28 : decode cX7_writes 28 = .ok (.iconst 1, 1) := by decide +kernel
theorem dX7_writes_29 : decode cX7_writes 29 = .ok (.iadd, 1) := by decide +kernel
theorem dX7_writes_30 : decode cX7_writes 30 = .ok (.iload_n 3, 1) := by decide +kernel
theorem dX7_writes_31 : decode cX7_writes 31 = .ok (.iastore, 1) := by decide +kernel
theorem dX7_writes_32 : decode cX7_writes 32 = .ok (.aload_n 0, 1) := by decide +kernel
theorem dX7_writes_33 : decode cX7_writes 33 = .ok (.getfield 7, 3) := by decide +kernel
theorem dX7_writes_36 : decode cX7_writes 36 = .ok (.iload 4, 2) := by decide +kernel
theorem dX7_writes_38 : decode cX7_writes 38 = .ok (.iconst 2, 1) := by decide +kernel
theorem dX7_writes_39 : decode cX7_writes 39 = .ok (.iadd, 1) := by decide +kernel
theorem dX7_writes_40 : decode cX7_writes 40 = .ok (.iload_n 1, 1) := by decide +kernel
theorem dX7_writes_41 : decode cX7_writes 41 = .ok (.iastore, 1) := by decide +kernel
theorem dX7_writes_42 : decode cX7_writes 42 = .ok (.aload_n 0, 1) := by decide +kernel
theorem dX7_writes_43 : decode cX7_writes 43 = .ok (.getfield 7, 3) := by decide +kernel
theorem dX7_writes_46 : decode cX7_writes 46 = .ok (.iconst 0, 1) := by decide +kernel
theorem dX7_writes_47 : decode cX7_writes 47 = .ok (.dup2, 1) := by decide +kernel
theorem dX7_writes_48 : decode cX7_writes 48 = .ok (.iaload, 1) := by decide +kernel
theorem dX7_writes_49 : decode cX7_writes 49 = .ok (.iconst 1, 1) := by decide +kernel
theorem dX7_writes_50 : decode cX7_writes 50 = .ok (.iadd, 1) := by decide +kernel
theorem dX7_writes_51 : decode cX7_writes 51 = .ok (.iastore, 1) := by decide +kernel
theorem dX7_writes_52 : decode cX7_writes 52 = .ok (.aload_n 0, 1) := by decide +kernel
theorem dX7_writes_53 : decode cX7_writes 53 = .ok (.iload_n 1, 1) := by decide +kernel
theorem dX7_writes_54 : decode cX7_writes 54 = .ok (.iconst 4, 1) := by decide +kernel
theorem dX7_writes_55 : decode cX7_writes 55 = .ok (.aload_n 0, 1) := by decide +kernel
theorem dX7_writes_56 : decode cX7_writes 56 = .ok (.getfield 7, 3) := by decide +kernel
theorem dX7_writes_59 : decode cX7_writes 59 = .ok (.iconst 0, 1) := by decide +kernel
theorem dX7_writes_60 : decode cX7_writes 60 = .ok (.iaload, 1) := by decide +kernel
theorem dX7_writes_61 : decode cX7_writes 61 = .ok (.invokevirtual 66, 3) := by decide +kernel
theorem dX7_writes_64 : decode cX7_writes 64 = .ok (.aload_n 0, 1) := by decide +kernel
theorem dX7_writes_65 : decode cX7_writes 65 = .ok (.iload_n 1, 1) := by decide +kernel
theorem dX7_writes_66 : decode cX7_writes 66 = .ok (.bipush 9, 2) := by decide +kernel
theorem dX7_writes_68 : decode cX7_writes 68 = .ok (.iload_n 2, 1) := by decide +kernel
theorem dX7_writes_69 : decode cX7_writes 69 = .ok (.iadd, 1) := by decide +kernel
theorem dX7_writes_70 : decode cX7_writes 70 = .ok (.aload_n 0, 1) := by decide +kernel
theorem dX7_writes_71 : decode cX7_writes 71 = .ok (.getfield 7, 3) := by decide +kernel
theorem dX7_writes_74 : decode cX7_writes 74 = .ok (.iconst 0, 1) := by decide +kernel
theorem dX7_writes_75 : decode cX7_writes 75 = .ok (.iaload, 1) := by decide +kernel
theorem dX7_writes_76 : decode cX7_writes 76 = .ok (.invokevirtual 66, 3) := by decide +kernel
theorem dX7_writes_79 : decode cX7_writes 79 = .ok (.aload_n 0, 1) := by decide +kernel
theorem dX7_writes_80 : decode cX7_writes 80 = .ok (.getfield 7, 3) := by decide +kernel
theorem dX7_writes_83 : decode cX7_writes 83 = .ok (.iconst 0, 1) := by decide +kernel
theorem dX7_writes_84 : decode cX7_writes 84 = .ok (.iaload, 1) := by decide +kernel
theorem dX7_writes_85 : decode cX7_writes 85 = .ok (.ireturn, 1) := by decide +kernel
theorem dX7_write_0 : decode cX7_write 0 = .ok (.aload_n 0, 1) := by decide +kernel
theorem dX7_write_1 : decode cX7_write 1 = .ok (.iload_n 1, 1) := by decide +kernel
theorem dX7_write_2 : decode cX7_write 2 = .ok (.iload_n 2, 1) := by decide +kernel
theorem dX7_write_3 : decode cX7_write 3 = .ok (.iload_n 3, 1) := by decide +kernel
theorem dX7_write_4 : decode cX7_write 4 = .ok (.invokevirtual 116, 3) := by decide +kernel
theorem dX7_write_7 : decode cX7_write 7 = .ok (.istore 4, 2) := by decide +kernel
theorem dX7_write_9 : decode cX7_write 9 = .ok (.iload 4, 2) := by decide +kernel
theorem dX7_write_11 : decode cX7_write 11 = .ok (.ifCond .ge 6, 3) := by decide +kernel
theorem dX7_write_14 : decode cX7_write 14 = .ok (.iload 4, 2) := by decide +kernel
theorem dX7_write_16 : decode cX7_write 16 = .ok (.ireturn, 1) := by decide +kernel
theorem dX7_write_17 : decode cX7_write 17 = .ok (.aload_n 0, 1) := by decide +kernel
theorem dX7_write_18 : decode cX7_write 18 = .ok (.invokevirtual 49, 3) := by decide +kernel
theorem dX7_write_21 : decode cX7_write 21 = .ok (.aload_n 0, 1) := by decide +kernel
theorem dX7_write_22 : decode cX7_write 22 = .ok (.iload_n 1, 1) := by decide +kernel
theorem dX7_write_23 : decode cX7_write 23 = .ok (.iload_n 2, 1) := by decide +kernel
theorem dX7_write_24 : decode cX7_write 24 = .ok (.iload_n 3, 1) := by decide +kernel
theorem dX7_write_25 : decode cX7_write 25 = .ok (.invokevirtual 120, 3) := by decide +kernel
theorem dX7_write_28 : decode cX7_write 28 = .ok (.ireturn, 1) := by decide +kernel
theorem dX7_needed_0 : decode cX7_needed 0 = .ok (.aload_n 0, 1) := by decide +kernel
theorem dX7_needed_1 : decode cX7_needed 1 = .ok (.iload_n 1, 1) := by decide +kernel
theorem dX7_needed_2 : decode cX7_needed 2 = .ok (.invokevirtual 113, 3) := by decide +kernel
theorem dX7_needed_5 : decode cX7_needed 5 = .ok (.istore_n 3, 1) := by decide +kernel
theorem dX7_needed_6 : decode cX7_needed 6 = .ok (.aload_n 0, 1) := by decide +kernel
theorem dX7_needed_7 : decode cX7_needed 7 = .ok (.iload_n 1, 1) := by decide +kernel
theorem dX7_needed_8 : decode cX7_needed 8 = .ok (.iconst 4, 1) := by decide +kernel
theorem dX7_needed_9 : decode cX7_needed 9 = .ok (.invokevirtual 109, 3) := by decide +kernel
theorem dX7_needed_12 : decode cX7_needed 12 = .ok (.ifCond .eq 12, 3) := by decide +kernel
theorem dX7_needed_15 : decode cX7_needed 15 = .ok (.aload_n 0, 1) := by decide +kernel
theorem dX7_needed_16 : decode cX7_needed 16 = .ok (.iload_n 3, 1) := by decide +kernel
theorem dX7_needed_17 : decode cX7_needed 17 = .ok (.iload_n 2, 1) := by decide +kernel
theorem dX7_needed_18 : decode cX7_needed 18 = .ok (.invokevirtual 88, 3) := by decide +kernel
theorem dX7_needed_21 : decode cX7_needed 21 = .ok (.goto 4, 3) := by decide +kernel
theorem dX7_needed_24 : decode cX7_needed 24 = .ok (.iload_n 3, 1) := by decide +kernel
theorem dX7_needed_25 : decode cX7_needed 25 = .ok (.ireturn, 1) := by decide +kernel
theorem dX7_waitOf_0 : decode cX7_waitOf 0 = .ok (.aload_n 0, 1) := by decide +kernel
theorem dX7_waitOf_1 : decode cX7_waitOf 1 = .ok (.iload_n 1, 1) := by decide +kernel
theorem dX7_waitOf_2 : decode cX7_waitOf 2 = .ok (.iload_n 2, 1) := by decide +kernel
theorem dX7_waitOf_3 : decode cX7_waitOf 3 = .ok (.invokevirtual 123, 3) := by decide +kernel
theorem dX7_waitOf_6 : decode cX7_waitOf 6 = .ok (.aload_n 0, 1) := by decide +kernel
theorem dX7_waitOf_7 : decode cX7_waitOf 7 = .ok (.iload_n 3, 1) := by decide +kernel
theorem dX7_waitOf_8 : decode cX7_waitOf 8 = .ok (.invokevirtual 59, 3) := by decide +kernel
theorem dX7_waitOf_11 : decode cX7_waitOf 11 = .ok (.isub, 1) := by decide +kernel
theorem dX7_waitOf_12 : decode cX7_waitOf 12 = .ok (.istore 4, 2) := by decide +kernel
theorem dX7_waitOf_14 : decode cX7_waitOf 14 = .ok (.iload 4, 2) := by decide +kernel
theorem dX7_waitOf_16 : decode cX7_waitOf 16 = .ok (.ifCond .gt 5, 3) := by decide +kernel
theorem dX7_waitOf_19 : decode cX7_waitOf 19 = .ok (.iconst 0, 1) := by decide +kernel
theorem dX7_waitOf_20 : decode cX7_waitOf 20 = .ok (.ireturn, 1) := by decide +kernel
theorem dX7_waitOf_21 : decode cX7_waitOf 21 = .ok (.aload_n 0, 1) := by decide +kernel
theorem dX7_waitOf_22 : decode cX7_waitOf 22 = .ok (.iload_n 3, 1) := by decide +kernel
theorem dX7_waitOf_23 : decode cX7_waitOf 23 = .ok (.iconst 3, 1) := by decide +kernel
theorem dX7_waitOf_24 : decode cX7_waitOf 24 = .ok (.invokevirtual 30, 3) := by decide +kernel
theorem dX7_waitOf_27 : decode cX7_waitOf 27 = .ok (.iconst 1, 1) := by decide +kernel
theorem dX7_waitOf_28 : decode cX7_waitOf 28 = .ok (.if_icmp .ne 7, 3) := by decide +kernel
theorem dX7_waitOf_31 : decode cX7_waitOf 31 = .ok (.iconst 0, 1) := by decide +kernel
theorem dX7_waitOf_32 : decode cX7_waitOf 32 = .ok (.goto 9, 3) := by decide +kernel
theorem dX7_waitOf_35 : decode cX7_waitOf 35 = .ok (.aload_n 0, 1) := by decide +kernel
theorem dX7_waitOf_36 : decode cX7_waitOf 36 = .ok (.iload_n 3, 1) := by decide +kernel
theorem dX7_waitOf_37 : decode cX7_waitOf 37 = .ok (.iconst 2, 1) := by decide +kernel
theorem dX7_waitOf_38 : decode cX7_waitOf 38 = .ok (.invokevirtual 30, 3) := by decide +kernel
theorem dX7_waitOf_41 : decode cX7_waitOf 41 = .ok (.istore 5, 2) := by decide +kernel
theorem dX7_waitOf_43 : decode cX7_waitOf 43 = .ok (.iload 5, 2) := by decide +kernel
theorem dX7_waitOf_45 : decode cX7_waitOf 45 = .ok (.ifCond .ne 8, 3) := by decide +kernel
theorem dX7_waitOf_48 : decode cX7_waitOf 48 = .ok (.bipush (-6), 2) := by decide +kernel
theorem dX7_waitOf_50 : decode cX7_waitOf 50 = .ok (.goto 13, 3) := by decide +kernel
theorem dX7_waitOf_53 : decode cX7_waitOf 53 = .ok (.iload 4, 2) := by decide +kernel
theorem dX7_waitOf_55 : decode cX7_waitOf 55 = .ok (.iload 5, 2) := by decide +kernel
theorem dX7_waitOf_57 : decode cX7_waitOf 57 = .ok (.iadd, 1) := by decide +kernel
theorem dX7_waitOf_58 : decode cX7_waitOf 58 = .ok (.iconst 1, 1) := by decide +kernel
theorem dX7_waitOf_59 : decode cX7_waitOf 59 = .ok (.isub, 1) := by decide +kernel
theorem dX7_waitOf_60 : decode cX7_waitOf 60 = .ok (.iload 5, 2) := by decide +kernel
theorem dX7_waitOf_62 : decode cX7_waitOf 62 = .ok (.idiv, 1) := by decide +kernel
theorem dX7_waitOf_63 : decode cX7_waitOf 63 = .ok (.ireturn, 1) := by decide +kernel
theorem dX7_answer_0 : decode cX7_answer 0 = .ok (.aload_n 0, 1) := by decide +kernel
theorem dX7_answer_1 : decode cX7_answer 1 = .ok (.aload_n 0, 1) := by decide +kernel
theorem dX7_answer_2 : decode cX7_answer 2 = .ok (.iload_n 3, 1) := by decide +kernel
theorem dX7_answer_3 : decode cX7_answer 3 = .ok (.invokevirtual 59, 3) := by decide +kernel
theorem dX7_answer_6 : decode cX7_answer 6 = .ok (.iload_n 2, 1) := by decide +kernel
theorem dX7_answer_7 : decode cX7_answer 7 = .ok (.invokevirtual 88, 3) := by decide +kernel
theorem dX7_answer_10 : decode cX7_answer 10 = .ok (.istore 5, 2) := by decide +kernel
theorem dX7_answer_12 : decode cX7_answer 12 = .ok (.aload_n 0, 1) := by decide +kernel
theorem dX7_answer_13 : decode cX7_answer 13 = .ok (.iload_n 1, 1) := by decide +kernel
theorem dX7_answer_14 : decode cX7_answer 14 = .ok (.bipush 6, 2) := by decide +kernel
theorem dX7_answer_16 : decode cX7_answer 16 = .ok (.aload_n 0, 1) := by decide +kernel
theorem dX7_answer_17 : decode cX7_answer 17 = .ok (.iload_n 1, 1) := by decide +kernel
theorem dX7_answer_18 : decode cX7_answer 18 = .ok (.bipush 6, 2) := by decide +kernel
theorem dX7_answer_20 : decode cX7_answer 20 = .ok (.invokevirtual 38, 3) := by decide +kernel
theorem dX7_answer_23 : decode cX7_answer 23 = .ok (.iconst 1, 1) := by decide +kernel
theorem dX7_answer_24 : decode cX7_answer 24 = .ok (.iadd, 1) := by decide +kernel
theorem dX7_answer_25 : decode cX7_answer 25 = .ok (.invokevirtual 66, 3) := by decide +kernel
theorem dX7_answer_28 : decode cX7_answer 28 = .ok (.aload_n 0, 1) := by decide +kernel
theorem dX7_answer_29 : decode cX7_answer 29 = .ok (.iload_n 1, 1) := by decide +kernel
theorem dX7_answer_30 : decode cX7_answer 30 = .ok (.bipush 7, 2) := by decide +kernel
theorem dX7_answer_32 : decode cX7_answer 32 = .ok (.aload_n 0, 1) := by decide +kernel
theorem dX7_answer_33 : decode cX7_answer 33 = .ok (.iload_n 1, 1) := by decide +kernel
theorem dX7_answer_34 : decode cX7_answer 34 = .ok (.bipush 7, 2) := by decide +kernel
theorem dX7_answer_36 : decode cX7_answer 36 = .ok (.invokevirtual 38, 3) := by decide +kernel
theorem dX7_answer_39 : decode cX7_answer 39 = .ok (.aload_n 0, 1) := by decide +kernel
theorem dX7_answer_40 : decode cX7_answer 40 = .ok (.iload_n 1, 1) := by decide +kernel
theorem dX7_answer_41 : decode cX7_answer 41 = .ok (.bipush 9, 2) := by decide +kernel
theorem dX7_answer_43 : decode cX7_answer 43 = .ok (.iload_n 2, 1) := by decide +kernel
theorem dX7_answer_44 : decode cX7_answer 44 = .ok (.iadd, 1) := by decide +kernel
theorem dX7_answer_45 : decode cX7_answer 45 = .ok (.invokevirtual 38, 3) := by decide +kernel
theorem dX7_answer_48 : decode cX7_answer 48 = .ok (.iload 5, 2) := by decide +kernel
theorem dX7_answer_50 : decode cX7_answer 50 = .ok (.if_icmp .le 7, 3) := by decide +kernel
theorem dX7_answer_53 : decode cX7_answer 53 = .ok (.iconst 1, 1) := by decide +kernel
theorem dX7_answer_54 : decode cX7_answer 54 = .ok (.goto 4, 3) := by decide +kernel
theorem dX7_answer_57 : decode cX7_answer 57 = .ok (.iconst 0, 1) := by decide +kernel
theorem dX7_answer_58 : decode cX7_answer 58 = .ok (.iadd, 1) := by decide +kernel
theorem dX7_answer_59 : decode cX7_answer 59 = .ok (.invokevirtual 66, 3) := by decide +kernel
theorem dX7_answer_62 : decode cX7_answer 62 = .ok (.aload_n 0, 1) := by decide +kernel
theorem dX7_answer_63 : decode cX7_answer 63 = .ok (.iload_n 1, 1) := by decide +kernel
theorem dX7_answer_64 : decode cX7_answer 64 = .ok (.bipush 8, 2) := by decide +kernel
theorem dX7_answer_66 : decode cX7_answer 66 = .ok (.aload_n 0, 1) := by decide +kernel
theorem dX7_answer_67 : decode cX7_answer 67 = .ok (.iload_n 1, 1) := by decide +kernel
theorem dX7_answer_68 : decode cX7_answer 68 = .ok (.bipush 8, 2) := by decide +kernel
theorem dX7_answer_70 : decode cX7_answer 70 = .ok (.invokevirtual 38, 3) := by decide +kernel
theorem dX7_answer_73 : decode cX7_answer 73 = .ok (.aload_n 0, 1) := by decide +kernel
theorem dX7_answer_74 : decode cX7_answer 74 = .ok (.iload_n 1, 1) := by decide +kernel
theorem dX7_answer_75 : decode cX7_answer 75 = .ok (.bipush 21, 2) := by decide +kernel
theorem dX7_answer_77 : decode cX7_answer 77 = .ok (.iload_n 2, 1) := by decide +kernel
theorem dX7_answer_78 : decode cX7_answer 78 = .ok (.iadd, 1) := by decide +kernel
theorem dX7_answer_79 : decode cX7_answer 79 = .ok (.invokevirtual 38, 3) := by decide +kernel
theorem dX7_answer_82 : decode cX7_answer 82 = .ok (.iload 5, 2) := by decide +kernel
theorem dX7_answer_84 : decode cX7_answer 84 = .ok (.if_icmp .le 7, 3) := by decide +kernel
theorem dX7_answer_87 : decode cX7_answer 87 = .ok (.iconst 1, 1) := by decide +kernel
theorem dX7_answer_88 : decode cX7_answer 88 = .ok (.goto 4, 3) := by decide +kernel
theorem dX7_answer_91 : decode cX7_answer 91 = .ok (.iconst 0, 1) := by decide +kernel
theorem dX7_answer_92 : decode cX7_answer 92 = .ok (.iadd, 1) := by decide +kernel
theorem dX7_answer_93 : decode cX7_answer 93 = .ok (.invokevirtual 66, 3) := by decide +kernel
theorem dX7_answer_96 : decode cX7_answer 96 = .ok (.aload_n 0, 1) := by decide +kernel
theorem dX7_answer_97 : decode cX7_answer 97 = .ok (.iload_n 1, 1) := by decide +kernel
theorem dX7_answer_98 : decode cX7_answer 98 = .ok (.bipush 21, 2) := by decide +kernel
theorem dX7_answer_100 : decode cX7_answer 100 = .ok (.iload_n 2, 1) := by decide +kernel
theorem dX7_answer_101 : decode cX7_answer 101 = .ok (.iadd, 1) := by decide +kernel
theorem dX7_answer_102 : decode cX7_answer 102 = .ok (.aload_n 0, 1) := by decide +kernel
theorem dX7_answer_103 : decode cX7_answer 103 = .ok (.iload_n 1, 1) := by decide +kernel
theorem dX7_answer_104 : decode cX7_answer 104 = .ok (.bipush 21, 2) := by decide +kernel
theorem dX7_answer_106 : decode cX7_answer 106 = .ok (.iload_n 2, 1) := by decide +kernel
theorem dX7_answer_107 : decode cX7_answer 107 = .ok (.iadd, 1) := by decide +kernel
theorem dX7_answer_108 : decode cX7_answer 108 = .ok (.invokevirtual 38, 3) := by decide +kernel
theorem dX7_answer_111 : decode cX7_answer 111 = .ok (.iload 5, 2) := by decide +kernel
theorem dX7_answer_113 : decode cX7_answer 113 = .ok (.invokestatic 100, 3) := by decide +kernel
theorem dX7_answer_116 : decode cX7_answer 116 = .ok (.invokevirtual 66, 3) := by decide +kernel
theorem dX7_answer_119 : decode cX7_answer 119 = .ok (.aload_n 0, 1) := by decide +kernel
theorem dX7_answer_120 : decode cX7_answer 120 = .ok (.iload_n 1, 1) := by decide +kernel
theorem dX7_answer_121 : decode cX7_answer 121 = .ok (.iconst 5, 1) := by decide +kernel
theorem dX7_answer_122 : decode cX7_answer 122 = .ok (.aload_n 0, 1) := by decide +kernel
theorem dX7_answer_123 : decode cX7_answer 123 = .ok (.iload_n 1, 1) := by decide +kernel
theorem dX7_answer_124 : decode cX7_answer 124 = .ok (.iconst 5, 1) := by decide +kernel
theorem dX7_answer_125 : decode cX7_answer 125 = .ok (.invokevirtual 38, 3) := by decide +kernel
theorem dX7_answer_128 : decode cX7_answer 128 = .ok (.aload_n 0, 1) := by decide +kernel
theorem dX7_answer_129 : decode cX7_answer 129 = .ok (.iload_n 3, 1) := by decide +kernel
theorem dX7_answer_130 : decode cX7_answer 130 = .ok (.invokevirtual 59, 3) := by decide +kernel
theorem dX7_answer_133 : decode cX7_answer 133 = .ok (.invokestatic 100, 3) := by decide +kernel
theorem dX7_answer_136 : decode cX7_answer 136 = .ok (.invokevirtual 66, 3) := by decide +kernel
theorem dX7_answer_139 : decode cX7_answer 139 = .ok (.iload_n 3, 1) := by decide +kernel
theorem dX7_answer_140 : decode cX7_answer 140 = .ok (.bipush 9, 2) := by decide +kernel
theorem dX7_answer_142 : decode cX7_answer 142 = .ok (.if_icmp .ne 16, 3) := by decide +kernel
theorem dX7_answer_145 : decode cX7_answer 145 = .ok (.aload_n 0, 1) := by decide +kernel
theorem dX7_answer_146 : decode cX7_answer 146 = .ok (.getfield 7, 3) := by decide +kernel
theorem dX7_answer_149 : decode cX7_answer 149 = .ok (.iconst 4, 1) := by decide +kernel
theorem dX7_answer_150 : decode cX7_answer 150 = .ok (.dup2, 1) := by decide +kernel
theorem dX7_answer_151 : decode cX7_answer 151 = .ok (.iaload, 1) := by decide +kernel
theorem dX7_answer_152 : decode cX7_answer 152 = .ok (.iconst 1, 1) := by decide +kernel
theorem dX7_answer_153 : decode cX7_answer 153 = .ok (.iadd, 1) := by decide +kernel
theorem dX7_answer_154 : decode cX7_answer 154 = .ok (.iastore, 1) := by decide +kernel
theorem dX7_answer_155 : decode cX7_answer 155 = .ok (.goto 17, 3) := by decide +kernel
theorem dX7_answer_158 : decode cX7_answer 158 = .ok (.aload_n 0, 1) := by decide +kernel
theorem dX7_answer_159 : decode cX7_answer 159 = .ok (.iload_n 3, 1) := by decide +kernel
theorem dX7_answer_160 : decode cX7_answer 160 = .ok (.iconst 4, 1) := by decide +kernel
theorem dX7_answer_161 : decode cX7_answer 161 = .ok (.aload_n 0, 1) := by decide +kernel
theorem dX7_answer_162 : decode cX7_answer 162 = .ok (.iload_n 3, 1) := by decide +kernel
theorem dX7_answer_163 : decode cX7_answer 163 = .ok (.iconst 4, 1) := by decide +kernel
theorem dX7_answer_164 : decode cX7_answer 164 = .ok (.invokevirtual 30, 3) := by decide +kernel
theorem dX7_answer_167 : decode cX7_answer 167 = .ok (.iconst 1, 1) := by decide +kernel
theorem dX7_answer_168 : decode cX7_answer 168 = .ok (.iadd, 1) := by decide +kernel
theorem dX7_answer_169 : decode cX7_answer 169 = .ok (.invokevirtual 55, 3) := by decide +kernel
theorem dX7_answer_172 : decode cX7_answer 172 = .ok (.aload_n 0, 1) := by decide +kernel
theorem dX7_answer_173 : decode cX7_answer 173 = .ok (.getfield 7, 3) := by decide +kernel
theorem dX7_answer_176 : decode cX7_answer 176 = .ok (.iconst 1, 1) := by decide +kernel
theorem dX7_answer_177 : decode cX7_answer 177 = .ok (.iload_n 3, 1) := by decide +kernel
theorem dX7_answer_178 : decode cX7_answer 178 = .ok (.iastore, 1) := by decide +kernel
theorem dX7_answer_179 : decode cX7_answer 179 = .ok (.aload_n 0, 1) := by decide +kernel
theorem dX7_answer_180 : decode cX7_answer 180 = .ok (.getfield 7, 3) := by decide +kernel
theorem dX7_answer_183 : decode cX7_answer 183 = .ok (.iconst 2, 1) := by decide +kernel
theorem dX7_answer_184 : decode cX7_answer 184 = .ok (.iload 5, 2) := by decide +kernel
theorem dX7_answer_186 : decode cX7_answer 186 = .ok (.iastore, 1) := by decide +kernel
theorem dX7_answer_187 : decode cX7_answer 187 = .ok (.aload_n 0, 1) := by decide +kernel
theorem dX7_answer_188 : decode cX7_answer 188 = .ok (.getfield 7, 3) := by decide +kernel
theorem dX7_answer_191 : decode cX7_answer 191 = .ok (.iconst 3, 1) := by decide +kernel
theorem dX7_answer_192 : decode cX7_answer 192 = .ok (.iload 4, 2) := by decide +kernel
theorem dX7_answer_194 : decode cX7_answer 194 = .ok (.iastore, 1) := by decide +kernel
theorem dX7_answer_195 : decode cX7_answer 195 = .ok (.aload_n 0, 1) := by decide +kernel
theorem dX7_answer_196 : decode cX7_answer 196 = .ok (.iload 5, 2) := by decide +kernel
theorem dX7_answer_198 : decode cX7_answer 198 = .ok (.invokevirtual 91, 3) := by decide +kernel
theorem dX7_answer_201 : decode cX7_answer 201 = .ok (.ireturn, 1) := by decide +kernel
theorem dX7_waitsAtHome_0 : decode cX7_waitsAtHome 0 = .ok (.aload_n 0, 1) := by decide +kernel
theorem dX7_waitsAtHome_1 : decode cX7_waitsAtHome 1 = .ok (.iload_n 1, 1) := by decide +kernel
theorem dX7_waitsAtHome_2 : decode cX7_waitsAtHome 2 = .ok (.iload_n 2, 1) := by decide +kernel
theorem dX7_waitsAtHome_3 : decode cX7_waitsAtHome 3 = .ok (.aload_n 0, 1) := by decide +kernel
theorem dX7_waitsAtHome_4 : decode cX7_waitsAtHome 4 = .ok (.iload_n 1, 1) := by decide +kernel
theorem dX7_waitsAtHome_5 : decode cX7_waitsAtHome 5 = .ok (.iconst 1, 1) := by decide +kernel
theorem dX7_waitsAtHome_6 : decode cX7_waitsAtHome 6 = .ok (.invokevirtual 38, 3) := by decide +kernel
theorem dX7_waitsAtHome_9 : decode cX7_waitsAtHome 9 = .ok (.invokevirtual 126, 3) := by decide +kernel
theorem dX7_waitsAtHome_12 : decode cX7_waitsAtHome 12 = .ok (.istore_n 3, 1) := by decide +kernel
theorem dX7_waitsAtHome_13 : decode cX7_waitsAtHome 13 = .ok (.iload_n 3, 1) := by decide +kernel
theorem dX7_waitsAtHome_14 : decode cX7_waitsAtHome 14 = .ok (.bipush (-6), 2) := by decide +kernel
theorem dX7_waitsAtHome_16 : decode cX7_waitsAtHome 16 = .ok (.if_icmp .eq 13, 3) := by decide +kernel
theorem dX7_waitsAtHome_19 : decode cX7_waitsAtHome 19 = .ok (.iload_n 3, 1) := by decide +kernel
theorem dX7_waitsAtHome_20 : decode cX7_waitsAtHome 20 = .ok (.aload_n 0, 1) := by decide +kernel
theorem dX7_waitsAtHome_21 : decode cX7_waitsAtHome 21 = .ok (.iload_n 1, 1) := by decide +kernel
theorem dX7_waitsAtHome_22 : decode cX7_waitsAtHome 22 = .ok (.iconst 3, 1) := by decide +kernel
theorem dX7_waitsAtHome_23 : decode cX7_waitsAtHome 23 = .ok (.invokevirtual 38, 3) := by decide +kernel
theorem dX7_waitsAtHome_26 : decode cX7_waitsAtHome 26 = .ok (.if_icmp .le 8, 3) := by decide +kernel
theorem dX7_waitsAtHome_29 : decode cX7_waitsAtHome 29 = .ok (.bipush (-6), 2) := by decide +kernel
theorem dX7_waitsAtHome_31 : decode cX7_waitsAtHome 31 = .ok (.goto 4, 3) := by decide +kernel
theorem dX7_waitsAtHome_34 : decode cX7_waitsAtHome 34 = .ok (.iload_n 3, 1) := by decide +kernel
theorem dX7_waitsAtHome_35 : decode cX7_waitsAtHome 35 = .ok (.ireturn, 1) := by decide +kernel
theorem dX7_whyNotRead_0 : decode cX7_whyNotRead 0 = .ok (.aload_n 0, 1) := by decide +kernel
theorem dX7_whyNotRead_1 : decode cX7_whyNotRead 1 = .ok (.iload_n 1, 1) := by decide +kernel
theorem dX7_whyNotRead_2 : decode cX7_whyNotRead 2 = .ok (.invokevirtual 94, 3) := by decide +kernel
theorem dX7_whyNotRead_5 : decode cX7_whyNotRead 5 = .ok (.ifCond .eq 10, 3) := by decide +kernel
theorem dX7_whyNotRead_8 : decode cX7_whyNotRead 8 = .ok (.iload_n 2, 1) := by decide +kernel
theorem dX7_whyNotRead_9 : decode cX7_whyNotRead 9 = .ok (.invokestatic 85, 3) := by decide +kernel
theorem dX7_whyNotRead_12 : decode cX7_whyNotRead 12 = .ok (.ifCond .ne 5, 3) := by decide +kernel
theorem dX7_whyNotRead_15 : decode cX7_whyNotRead 15 = .ok (.iconst (-1), 1) := by decide +kernel
theorem dX7_whyNotRead_16 : decode cX7_whyNotRead 16 = .ok (.ireturn, 1) := by decide +kernel
theorem dX7_whyNotRead_17 : decode cX7_whyNotRead 17 = .ok (.aload_n 0, 1) := by decide +kernel
theorem dX7_whyNotRead_18 : decode cX7_whyNotRead 18 = .ok (.iload_n 1, 1) := by decide +kernel
theorem dX7_whyNotRead_19 : decode cX7_whyNotRead 19 = .ok (.iload_n 2, 1) := by decide +kernel
theorem dX7_whyNotRead_20 : decode cX7_whyNotRead 20 = .ok (.invokevirtual 129, 3) := by decide +kernel
theorem dX7_whyNotRead_23 : decode cX7_whyNotRead 23 = .ok (.bipush (-6), 2) := by decide +kernel
theorem dX7_whyNotRead_25 : decode cX7_whyNotRead 25 = .ok (.if_icmp .ne 18, 3) := by decide +kernel
theorem dX7_whyNotRead_28 : decode cX7_whyNotRead 28 = .ok (.aload_n 0, 1) := by decide +kernel
theorem dX7_whyNotRead_29 : decode cX7_whyNotRead 29 = .ok (.iload_n 1, 1) := by decide +kernel
theorem dX7_whyNotRead_30 : decode cX7_whyNotRead 30 = .ok (.bipush 8, 2) := by decide +kernel
theorem dX7_whyNotRead_32 : decode cX7_whyNotRead 32 = .ok (.invokevirtual 109, 3) := by decide +kernel
theorem dX7_whyNotRead_35 : decode cX7_whyNotRead 35 = .ok (.ifCond .ne 8, 3) := by decide +kernel
theorem dX7_whyNotRead_38 : decode cX7_whyNotRead 38 = .ok (.bipush (-3), 2) := by decide +kernel
theorem dX7_whyNotRead_40 : decode cX7_whyNotRead 40 = .ok (.goto 4, 3) := by decide +kernel
theorem dX7_whyNotRead_43 : decode cX7_whyNotRead 43 = .ok (.iconst 0, 1) := by decide +kernel
theorem dX7_whyNotRead_44 : decode cX7_whyNotRead 44 = .ok (.ireturn, 1) := by decide +kernel
theorem dX7_reads_0 : decode cX7_reads 0 = .ok (.aload_n 0, 1) := by decide +kernel
theorem dX7_reads_1 : decode cX7_reads 1 = .ok (.iload_n 1, 1) := by decide +kernel
theorem dX7_reads_2 : decode cX7_reads 2 = .ok (.iload_n 2, 1) := by decide +kernel
theorem dX7_reads_3 : decode cX7_reads 3 = .ok (.invokevirtual 129, 3) := by decide +kernel
theorem dX7_reads_6 : decode cX7_reads 6 = .ok (.istore_n 3, 1) := by decide +kernel
theorem dX7_reads_7 : decode cX7_reads 7 = .ok (.iload_n 3, 1) := by decide +kernel
theorem dX7_reads_8 : decode cX7_reads 8 = .ok (.bipush (-6), 2) := by decide +kernel
theorem dX7_reads_10 : decode cX7_reads 10 = .ok (.if_icmp .ne 13, 3) := by decide +kernel
theorem dX7_reads_13 : decode cX7_reads 13 = .ok (.aload_n 0, 1) := by decide +kernel
theorem dX7_reads_14 : decode cX7_reads 14 = .ok (.iload_n 1, 1) := by decide +kernel
theorem dX7_reads_15 : decode cX7_reads 15 = .ok (.iload_n 2, 1) := by decide +kernel
theorem dX7_reads_16 : decode cX7_reads 16 = .ok (.bipush 9, 2) := by decide +kernel
theorem dX7_reads_18 : decode cX7_reads 18 = .ok (.iconst 0, 1) := by decide +kernel
theorem dX7_reads_19 : decode cX7_reads 19 = .ok (.invokevirtual 132, 3) := by decide +kernel
theorem dX7_reads_22 : decode cX7_reads 22 = .ok (.ireturn, 1) := by decide +kernel
theorem dX7_reads_23 : decode cX7_reads 23 = .ok (.aload_n 0, 1) := by decide +kernel
theorem dX7_reads_24 : decode cX7_reads 24 = .ok (.iload_n 3, 1) := by decide +kernel
theorem dX7_reads_25 : decode cX7_reads 25 = .ok (.invokevirtual 78, 3) := by decide +kernel
theorem dX7_reads_28 : decode cX7_reads 28 = .ok (.aload_n 0, 1) := by decide +kernel
theorem dX7_reads_29 : decode cX7_reads 29 = .ok (.iload_n 1, 1) := by decide +kernel
theorem dX7_reads_30 : decode cX7_reads 30 = .ok (.iload_n 2, 1) := by decide +kernel
theorem dX7_reads_31 : decode cX7_reads 31 = .ok (.aload_n 0, 1) := by decide +kernel
theorem dX7_reads_32 : decode cX7_reads 32 = .ok (.iload_n 1, 1) := by decide +kernel
theorem dX7_reads_33 : decode cX7_reads 33 = .ok (.iconst 1, 1) := by decide +kernel
theorem dX7_reads_34 : decode cX7_reads 34 = .ok (.invokevirtual 38, 3) := by decide +kernel
theorem dX7_reads_37 : decode cX7_reads 37 = .ok (.iload_n 3, 1) := by decide +kernel
theorem dX7_reads_38 : decode cX7_reads 38 = .ok (.invokevirtual 132, 3) := by decide +kernel
theorem dX7_reads_41 : decode cX7_reads 41 = .ok (.ireturn, 1) := by decide +kernel
theorem dX7_read_0 : decode cX7_read 0 = .ok (.aload_n 0, 1) := by decide +kernel
theorem dX7_read_1 : decode cX7_read 1 = .ok (.iload_n 1, 1) := by decide +kernel
theorem dX7_read_2 : decode cX7_read 2 = .ok (.iload_n 2, 1) := by decide +kernel
theorem dX7_read_3 : decode cX7_read 3 = .ok (.invokevirtual 136, 3) := by decide +kernel
theorem dX7_read_6 : decode cX7_read 6 = .ok (.istore_n 3, 1) := by decide +kernel
theorem dX7_read_7 : decode cX7_read 7 = .ok (.iload_n 3, 1) := by decide +kernel
theorem dX7_read_8 : decode cX7_read 8 = .ok (.ifCond .ge 5, 3) := by decide +kernel
theorem dX7_read_11 : decode cX7_read 11 = .ok (.iload_n 3, 1) := by decide +kernel
theorem dX7_read_12 : decode cX7_read 12 = .ok (.ireturn, 1) := by decide +kernel
theorem dX7_read_13 : decode cX7_read 13 = .ok (.aload_n 0, 1) := by decide +kernel
theorem dX7_read_14 : decode cX7_read 14 = .ok (.invokevirtual 49, 3) := by decide +kernel
theorem dX7_read_17 : decode cX7_read 17 = .ok (.aload_n 0, 1) := by decide +kernel
theorem dX7_read_18 : decode cX7_read 18 = .ok (.iload_n 1, 1) := by decide +kernel
theorem dX7_read_19 : decode cX7_read 19 = .ok (.iload_n 2, 1) := by decide +kernel
theorem dX7_read_20 : decode cX7_read 20 = .ok (.invokevirtual 139, 3) := by decide +kernel
theorem dX7_read_23 : decode cX7_read 23 = .ok (.ireturn, 1) := by decide +kernel
theorem dX7_readAt_0 : decode cX7_readAt 0 = .ok (.aload_n 0, 1) := by decide +kernel
theorem dX7_readAt_1 : decode cX7_readAt 1 = .ok (.iload_n 1, 1) := by decide +kernel
theorem dX7_readAt_2 : decode cX7_readAt 2 = .ok (.invokevirtual 94, 3) := by decide +kernel
theorem dX7_readAt_5 : decode cX7_readAt 5 = .ok (.ifCond .eq 18, 3) := by decide +kernel
theorem dX7_readAt_8 : decode cX7_readAt 8 = .ok (.iload_n 2, 1) := by decide +kernel
theorem dX7_readAt_9 : decode cX7_readAt 9 = .ok (.invokestatic 85, 3) := by decide +kernel
theorem dX7_readAt_12 : decode cX7_readAt 12 = .ok (.ifCond .eq 11, 3) := by decide +kernel
theorem dX7_readAt_15 : decode cX7_readAt 15 = .ok (.aload_n 0, 1) := by decide +kernel
theorem dX7_readAt_16 : decode cX7_readAt 16 = .ok (.iload_n 3, 1) := by decide +kernel
theorem dX7_readAt_17 : decode cX7_readAt 17 = .ok (.invokevirtual 52, 3) := by decide +kernel
theorem dX7_readAt_20 : decode cX7_readAt 20 = .ok (.ifCond .ne 5, 3) := by decide +kernel
theorem dX7_readAt_23 : decode cX7_readAt 23 = .ok (.iconst (-1), 1) := by decide +kernel
theorem dX7_readAt_24 : decode cX7_readAt 24 = .ok (.ireturn, 1) := by decide +kernel
theorem dX7_readAt_25 : decode cX7_readAt 25 = .ok (.aload_n 0, 1) := by decide +kernel
theorem dX7_readAt_26 : decode cX7_readAt 26 = .ok (.iload_n 1, 1) := by decide +kernel
theorem dX7_readAt_27 : decode cX7_readAt 27 = .ok (.iload_n 2, 1) := by decide +kernel
theorem dX7_readAt_28 : decode cX7_readAt 28 = .ok (.iload_n 3, 1) := by decide +kernel
theorem dX7_readAt_29 : decode cX7_readAt 29 = .ok (.invokevirtual 126, 3) := by decide +kernel
theorem dX7_readAt_32 : decode cX7_readAt 32 = .ok (.ifCond .eq 6, 3) := by decide +kernel
theorem dX7_readAt_35 : decode cX7_readAt 35 = .ok (.bipush (-3), 2) := by decide +kernel
theorem dX7_readAt_37 : decode cX7_readAt 37 = .ok (.ireturn, 1) := by decide +kernel
theorem dX7_readAt_38 : decode cX7_readAt 38 = .ok (.aload_n 0, 1) := by decide +kernel
theorem dX7_readAt_39 : decode cX7_readAt 39 = .ok (.invokevirtual 49, 3) := by decide +kernel
theorem dX7_readAt_42 : decode cX7_readAt 42 = .ok (.aload_n 0, 1) := by decide +kernel
theorem dX7_readAt_43 : decode cX7_readAt 43 = .ok (.iload_n 1, 1) := by decide +kernel
theorem dX7_readAt_44 : decode cX7_readAt 44 = .ok (.iload_n 2, 1) := by decide +kernel
theorem dX7_readAt_45 : decode cX7_readAt 45 = .ok (.iload_n 3, 1) := by decide +kernel
theorem dX7_readAt_46 : decode cX7_readAt 46 = .ok (.iconst 0, 1) := by decide +kernel
theorem dX7_readAt_47 : decode cX7_readAt 47 = .ok (.invokevirtual 132, 3) := by decide +kernel
theorem dX7_readAt_50 : decode cX7_readAt 50 = .ok (.ireturn, 1) := by decide +kernel
theorem dX7_latest_0 : decode cX7_latest 0 = .ok (.iload_n 1, 1) := by decide +kernel
theorem dX7_latest_1 : decode cX7_latest 1 = .ok (.iconst 0, 1) := by decide +kernel
theorem dX7_latest_2 : decode cX7_latest 2 = .ok (.iconst 2, 1) := by decide +kernel
theorem dX7_latest_3 : decode cX7_latest 3 = .ok (.invokestatic 26, 3) := by decide +kernel
theorem dX7_latest_6 : decode cX7_latest 6 = .ok (.ifCond .eq 14, 3) := by decide +kernel
theorem dX7_latest_9 : decode cX7_latest 9 = .ok (.aload_n 0, 1) := by decide +kernel
theorem dX7_latest_10 : decode cX7_latest 10 = .ok (.getfield 7, 3) := by decide +kernel
theorem dX7_latest_13 : decode cX7_latest 13 = .ok (.iconst 1, 1) := by decide +kernel
theorem dX7_latest_14 : decode cX7_latest 14 = .ok (.iload_n 1, 1) := by decide +kernel
theorem dX7_latest_15 : decode cX7_latest 15 = .ok (.iadd, 1) := by decide +kernel
theorem dX7_latest_16 : decode cX7_latest 16 = .ok (.iaload, 1) := by decide +kernel
theorem dX7_latest_17 : decode cX7_latest 17 = .ok (.goto 5, 3) := by decide +kernel
theorem dX7_latest_20 : decode cX7_latest 20 = .ok (.bipush (-2), 2) := by decide +kernel
theorem dX7_latest_22 : decode cX7_latest 22 = .ok (.ireturn, 1) := by decide +kernel
theorem dX7_waitFor_0 : decode cX7_waitFor 0 = .ok (.aload_n 0, 1) := by decide +kernel
theorem dX7_waitFor_1 : decode cX7_waitFor 1 = .ok (.iload_n 1, 1) := by decide +kernel
theorem dX7_waitFor_2 : decode cX7_waitFor 2 = .ok (.invokevirtual 94, 3) := by decide +kernel
theorem dX7_waitFor_5 : decode cX7_waitFor 5 = .ok (.ifCond .eq 28, 3) := by decide +kernel
theorem dX7_waitFor_8 : decode cX7_waitFor 8 = .ok (.iload_n 2, 1) := by decide +kernel
theorem dX7_waitFor_9 : decode cX7_waitFor 9 = .ok (.invokestatic 85, 3) := by decide +kernel
theorem dX7_waitFor_12 : decode cX7_waitFor 12 = .ok (.ifCond .eq 21, 3) := by decide +kernel
theorem dX7_waitFor_15 : decode cX7_waitFor 15 = .ok (.aload_n 0, 1) := by decide +kernel
theorem dX7_waitFor_16 : decode cX7_waitFor 16 = .ok (.iload_n 3, 1) := by decide +kernel
theorem dX7_waitFor_17 : decode cX7_waitFor 17 = .ok (.invokevirtual 52, 3) := by decide +kernel
theorem dX7_waitFor_20 : decode cX7_waitFor 20 = .ok (.ifCond .eq 13, 3) := by decide +kernel
theorem dX7_waitFor_23 : decode cX7_waitFor 23 = .ok (.aload_n 0, 1) := by decide +kernel
theorem dX7_waitFor_24 : decode cX7_waitFor 24 = .ok (.iload_n 1, 1) := by decide +kernel
theorem dX7_waitFor_25 : decode cX7_waitFor 25 = .ok (.iload_n 2, 1) := by decide +kernel
theorem dX7_waitFor_26 : decode cX7_waitFor 26 = .ok (.iload_n 3, 1) := by decide +kernel
theorem dX7_waitFor_27 : decode cX7_waitFor 27 = .ok (.invokevirtual 126, 3) := by decide +kernel
theorem dX7_waitFor_30 : decode cX7_waitFor 30 = .ok (.goto 4, 3) := by decide +kernel
theorem dX7_waitFor_33 : decode cX7_waitFor 33 = .ok (.iconst (-1), 1) := by decide +kernel
theorem dX7_waitFor_34 : decode cX7_waitFor 34 = .ok (.ireturn, 1) := by decide +kernel
theorem dX7_bestReplica_0 : decode cX7_bestReplica 0 = .ok (.aload_n 0, 1) := by decide +kernel
theorem dX7_bestReplica_1 : decode cX7_bestReplica 1 = .ok (.iload_n 1, 1) := by decide +kernel
theorem dX7_bestReplica_2 : decode cX7_bestReplica 2 = .ok (.invokevirtual 94, 3) := by decide +kernel
theorem dX7_bestReplica_5 : decode cX7_bestReplica 5 = .ok (.ifCond .eq 10, 3) := by decide +kernel
theorem dX7_bestReplica_8 : decode cX7_bestReplica 8 = .ok (.iload_n 2, 1) := by decide +kernel
theorem dX7_bestReplica_9 : decode cX7_bestReplica 9 = .ok (.invokestatic 85, 3) := by decide +kernel
theorem dX7_bestReplica_12 : decode cX7_bestReplica 12 = .ok (.ifCond .ne 5, 3) := by decide +kernel
theorem dX7_bestReplica_15 : decode cX7_bestReplica 15 = .ok (.iconst (-1), 1) := by decide +kernel
theorem dX7_bestReplica_16 : decode cX7_bestReplica 16 = .ok (.ireturn, 1) := by decide +kernel
theorem dX7_bestReplica_17 : decode cX7_bestReplica 17 = .ok (.bipush (-6), 2) := by decide +kernel
theorem dX7_bestReplica_19 : decode cX7_bestReplica 19 = .ok (.istore_n 3, 1) := by decide +kernel
theorem dX7_bestReplica_20 : decode cX7_bestReplica 20 = .ok (.iconst 0, 1) := by decide +kernel
theorem dX7_bestReplica_21 : decode cX7_bestReplica 21 = .ok (.istore 4, 2) := by decide +kernel
theorem dX7_bestReplica_23 : decode cX7_bestReplica 23 = .ok (.iconst 0, 1) := by decide +kernel
theorem dX7_bestReplica_24 : decode cX7_bestReplica 24 = .ok (.istore 5, 2) := by decide +kernel
theorem dX7_bestReplica_26 : decode cX7_bestReplica 26 = .ok (.iload 5, 2) := by decide +kernel
theorem dX7_bestReplica_28 : decode cX7_bestReplica 28 = .ok (.iconst 5, 1) := by decide +kernel
theorem dX7_bestReplica_29 : decode cX7_bestReplica 29 = .ok (.if_icmp .ge 88, 3) := by decide +kernel
theorem dX7_bestReplica_32 : decode cX7_bestReplica 32 = .ok (.aload_n 0, 1) := by decide +kernel
theorem dX7_bestReplica_33 : decode cX7_bestReplica 33 = .ok (.iload 5, 2) := by decide +kernel
theorem dX7_bestReplica_35 : decode cX7_bestReplica 35 = .ok (.iconst 0, 1) := by decide +kernel
theorem dX7_bestReplica_36 : decode cX7_bestReplica 36 = .ok (.invokevirtual 30, 3) := by decide +kernel
theorem dX7_bestReplica_39 : decode cX7_bestReplica 39 = .ok (.iconst 1, 1) := by decide +kernel
theorem dX7_bestReplica_40 : decode cX7_bestReplica 40 = .ok (.if_icmp .ne 14, 3) := by decide +kernel
theorem dX7_bestReplica_43 : decode cX7_bestReplica 43 = .ok (.aload_n 0, 1) := by decide +kernel
theorem dX7_bestReplica_44 : decode cX7_bestReplica 44 = .ok (.iload_n 1, 1) := by decide +kernel
theorem dX7_bestReplica_45 : decode cX7_bestReplica 45 = .ok (.iload_n 2, 1) := by decide +kernel
theorem dX7_bestReplica_46 : decode cX7_bestReplica 46 = .ok (.iload 5, 2) := by decide +kernel
theorem dX7_bestReplica_48 : decode cX7_bestReplica 48 = .ok (.invokevirtual 126, 3) := by decide +kernel
theorem dX7_bestReplica_51 : decode cX7_bestReplica 51 = .ok (.goto 5, 3) := by decide +kernel
theorem dX7_bestReplica_54 : decode cX7_bestReplica 54 = .ok (.bipush (-6), 2) := by decide +kernel
theorem dX7_bestReplica_56 : decode cX7_bestReplica 56 = .ok (.istore 6, 2) := by decide +kernel
theorem dX7_bestReplica_58 : decode cX7_bestReplica 58 = .ok (.iload 6, 2) := by decide +kernel
theorem dX7_bestReplica_60 : decode cX7_bestReplica 60 = .ok (.bipush (-6), 2) := by decide +kernel
theorem dX7_bestReplica_62 : decode cX7_bestReplica 62 = .ok (.if_icmp .eq 20, 3) := by decide +kernel
theorem dX7_bestReplica_65 : decode cX7_bestReplica 65 = .ok (.iload_n 3, 1) := by decide +kernel
theorem dX7_bestReplica_66 : decode cX7_bestReplica 66 = .ok (.bipush (-6), 2) := by decide +kernel
theorem dX7_bestReplica_68 : decode cX7_bestReplica 68 = .ok (.if_icmp .eq 10, 3) := by decide +kernel
theorem dX7_bestReplica_71 : decode cX7_bestReplica 71 = .ok (.iload 6, 2) := by decide +kernel
theorem dX7_bestReplica_73 : decode cX7_bestReplica 73 = .ok (.iload 4, 2) := by decide +kernel
theorem dX7_bestReplica_75 : decode cX7_bestReplica 75 = .ok (.if_icmp .ge 7, 3) := by decide +kernel
theorem dX7_bestReplica_78 : decode cX7_bestReplica 78 = .ok (.iconst 1, 1) := by decide +kernel
theorem dX7_bestReplica_79 : decode cX7_bestReplica 79 = .ok (.goto 4, 3) := by decide +kernel
theorem dX7_bestReplica_82 : decode cX7_bestReplica 82 = .ok (.iconst 0, 1) := by decide +kernel
theorem dX7_bestReplica_83 : decode cX7_bestReplica 83 = .ok (.istore 7, 2) := by decide +kernel
theorem dX7_bestReplica_85 : decode cX7_bestReplica 85 = .ok (.iload 7, 2) := by decide +kernel
theorem dX7_bestReplica_87 : decode cX7_bestReplica 87 = .ok (.ifCond .eq 8, 3) := by decide +kernel
theorem dX7_bestReplica_90 : decode cX7_bestReplica 90 = .ok (.iload 5, 2) := by decide +kernel
theorem dX7_bestReplica_92 : decode cX7_bestReplica 92 = .ok (.goto 4, 3) := by decide +kernel
theorem dX7_bestReplica_95 : decode cX7_bestReplica 95 = .ok (.iload_n 3, 1) := by decide +kernel
theorem dX7_bestReplica_96 : decode cX7_bestReplica 96 = .ok (.istore_n 3, 1) := by decide +kernel
theorem dX7_bestReplica_97 : decode cX7_bestReplica 97 = .ok (.iload 7, 2) := by decide +kernel
theorem dX7_bestReplica_99 : decode cX7_bestReplica 99 = .ok (.ifCond .eq 8, 3) := by decide +kernel
theorem dX7_bestReplica_102 : decode cX7_bestReplica 102 = .ok (.iload 6, 2) := by decide +kernel
theorem dX7_bestReplica_104 : decode cX7_bestReplica 104 = .ok (.goto 5, 3) := by decide +kernel
theorem dX7_bestReplica_107 : decode cX7_bestReplica 107 = .ok (.iload 4, 2) := by decide +kernel
theorem dX7_bestReplica_109 : decode cX7_bestReplica 109 = .ok (.istore 4, 2) := by decide +kernel
theorem dX7_bestReplica_111 : decode cX7_bestReplica 111 = .ok (.iinc 5 1, 3) := by decide +kernel
theorem dX7_bestReplica_114 : decode cX7_bestReplica 114 = .ok (.goto (-88), 3) := by decide +kernel
theorem dX7_bestReplica_117 : decode cX7_bestReplica 117 = .ok (.iload_n 3, 1) := by decide +kernel
theorem dX7_bestReplica_118 : decode cX7_bestReplica 118 = .ok (.ireturn, 1) := by decide +kernel
theorem dX7_keysAfter_0 : decode cX7_keysAfter 0 = .ok (.aload_n 0, 1) := by decide +kernel
theorem dX7_keysAfter_1 : decode cX7_keysAfter 1 = .ok (.iload_n 1, 1) := by decide +kernel
theorem dX7_keysAfter_2 : decode cX7_keysAfter 2 = .ok (.invokevirtual 94, 3) := by decide +kernel
theorem dX7_keysAfter_5 : decode cX7_keysAfter 5 = .ok (.ifCond .eq 11, 3) := by decide +kernel
theorem dX7_keysAfter_8 : decode cX7_keysAfter 8 = .ok (.aload_n 0, 1) := by decide +kernel
theorem dX7_keysAfter_9 : decode cX7_keysAfter 9 = .ok (.iload_n 2, 1) := by decide +kernel
theorem dX7_keysAfter_10 : decode cX7_keysAfter 10 = .ok (.invokevirtual 52, 3) := by decide +kernel
theorem dX7_keysAfter_13 : decode cX7_keysAfter 13 = .ok (.ifCond .ne 5, 3) := by decide +kernel
theorem dX7_keysAfter_16 : decode cX7_keysAfter 16 = .ok (.iconst (-1), 1) := by decide +kernel
theorem dX7_keysAfter_17 : decode cX7_keysAfter 17 = .ok (.ireturn, 1) := by decide +kernel
theorem dX7_keysAfter_18 : decode cX7_keysAfter 18 = .ok (.iload_n 3, 1) := by decide +kernel
theorem dX7_keysAfter_19 : decode cX7_keysAfter 19 = .ok (.iconst 0, 1) := by decide +kernel
theorem dX7_keysAfter_20 : decode cX7_keysAfter 20 = .ok (.bipush 99, 2) := by decide +kernel
theorem dX7_keysAfter_22 : decode cX7_keysAfter 22 = .ok (.invokestatic 26, 3) := by decide +kernel
theorem dX7_keysAfter_25 : decode cX7_keysAfter 25 = .ok (.ifCond .ne 6, 3) := by decide +kernel
theorem dX7_keysAfter_28 : decode cX7_keysAfter 28 = .ok (.bipush (-2), 2) := by decide +kernel
theorem dX7_keysAfter_30 : decode cX7_keysAfter 30 = .ok (.ireturn, 1) := by decide +kernel
theorem dX7_keysAfter_31 : decode cX7_keysAfter 31 = .ok (.iconst 0, 1) := by decide +kernel
theorem dX7_keysAfter_32 : decode cX7_keysAfter 32 = .ok (.istore 4, 2) := by decide +kernel
theorem dX7_keysAfter_34 : decode cX7_keysAfter 34 = .ok (.iconst 0, 1) := by decide +kernel
theorem dX7_keysAfter_35 : decode cX7_keysAfter 35 = .ok (.istore 5, 2) := by decide +kernel
theorem dX7_keysAfter_37 : decode cX7_keysAfter 37 = .ok (.iload 5, 2) := by decide +kernel
theorem dX7_keysAfter_39 : decode cX7_keysAfter 39 = .ok (.bipush 12, 2) := by decide +kernel
theorem dX7_keysAfter_41 : decode cX7_keysAfter 41 = .ok (.if_icmp .ge 35, 3) := by decide +kernel
theorem dX7_keysAfter_44 : decode cX7_keysAfter 44 = .ok (.iload 4, 2) := by decide +kernel
theorem dX7_keysAfter_46 : decode cX7_keysAfter 46 = .ok (.aload_n 0, 1) := by decide +kernel
theorem dX7_keysAfter_47 : decode cX7_keysAfter 47 = .ok (.iload_n 2, 1) := by decide +kernel
theorem dX7_keysAfter_48 : decode cX7_keysAfter 48 = .ok (.iload_n 3, 1) := by decide +kernel
theorem dX7_keysAfter_49 : decode cX7_keysAfter 49 = .ok (.invokevirtual 75, 3) := by decide +kernel
theorem dX7_keysAfter_52 : decode cX7_keysAfter 52 = .ok (.aload_n 0, 1) := by decide +kernel
theorem dX7_keysAfter_53 : decode cX7_keysAfter 53 = .ok (.iload_n 1, 1) := by decide +kernel
theorem dX7_keysAfter_54 : decode cX7_keysAfter 54 = .ok (.iload 5, 2) := by decide +kernel
theorem dX7_keysAfter_56 : decode cX7_keysAfter 56 = .ok (.invokevirtual 123, 3) := by decide +kernel
theorem dX7_keysAfter_59 : decode cX7_keysAfter 59 = .ok (.if_icmp .lt 7, 3) := by decide +kernel
theorem dX7_keysAfter_62 : decode cX7_keysAfter 62 = .ok (.iconst 1, 1) := by decide +kernel
theorem dX7_keysAfter_63 : decode cX7_keysAfter 63 = .ok (.goto 4, 3) := by decide +kernel
theorem dX7_keysAfter_66 : decode cX7_keysAfter 66 = .ok (.iconst 0, 1) := by decide +kernel
theorem dX7_keysAfter_67 : decode cX7_keysAfter 67 = .ok (.iadd, 1) := by decide +kernel
theorem dX7_keysAfter_68 : decode cX7_keysAfter 68 = .ok (.istore 4, 2) := by decide +kernel
theorem dX7_keysAfter_70 : decode cX7_keysAfter 70 = .ok (.iinc 5 1, 3) := by decide +kernel
theorem dX7_keysAfter_73 : decode cX7_keysAfter 73 = .ok (.goto (-36), 3) := by decide +kernel
theorem dX7_keysAfter_76 : decode cX7_keysAfter 76 = .ok (.iload 4, 2) := by decide +kernel
theorem dX7_keysAfter_78 : decode cX7_keysAfter 78 = .ok (.ireturn, 1) := by decide +kernel
theorem dX7_catchUp_0 : decode cX7_catchUp 0 = .ok (.iconst 0, 1) := by decide +kernel
theorem dX7_catchUp_1 : decode cX7_catchUp 1 = .ok (.istore_n 1, 1) := by decide +kernel
theorem dX7_catchUp_2 : decode cX7_catchUp 2 = .ok (.iconst 0, 1) := by decide +kernel
theorem dX7_catchUp_3 : decode cX7_catchUp 3 = .ok (.istore_n 2, 1) := by decide +kernel
theorem dX7_catchUp_4 : decode cX7_catchUp 4 = .ok (.iload_n 2, 1) := by decide +kernel
theorem dX7_catchUp_5 : decode cX7_catchUp 5 = .ok (.iconst 5, 1) := by decide +kernel
theorem dX7_catchUp_6 : decode cX7_catchUp 6 = .ok (.if_icmp .ge 93, 3) := by decide +kernel
theorem dX7_catchUp_9 : decode cX7_catchUp 9 = .ok (.aload_n 0, 1) := by decide +kernel
theorem dX7_catchUp_10 : decode cX7_catchUp 10 = .ok (.iload_n 2, 1) := by decide +kernel
theorem dX7_catchUp_11 : decode cX7_catchUp 11 = .ok (.iconst 0, 1) := by decide +kernel
theorem dX7_catchUp_12 : decode cX7_catchUp 12 = .ok (.invokevirtual 30, 3) := by decide +kernel
theorem dX7_catchUp_15 : decode cX7_catchUp 15 = .ok (.iconst 1, 1) := by decide +kernel
theorem dX7_catchUp_16 : decode cX7_catchUp 16 = .ok (.if_icmp .ne 19, 3) := by decide +kernel
theorem dX7_catchUp_19 : decode cX7_catchUp 19 = .ok (.aload_n 0, 1) := by decide +kernel
theorem dX7_catchUp_20 : decode cX7_catchUp 20 = .ok (.getfield 7, 3) := by decide +kernel
theorem dX7_catchUp_23 : decode cX7_catchUp 23 = .ok (.iconst 0, 1) := by decide +kernel
theorem dX7_catchUp_24 : decode cX7_catchUp 24 = .ok (.iaload, 1) := by decide +kernel
theorem dX7_catchUp_25 : decode cX7_catchUp 25 = .ok (.aload_n 0, 1) := by decide +kernel
theorem dX7_catchUp_26 : decode cX7_catchUp 26 = .ok (.iload_n 2, 1) := by decide +kernel
theorem dX7_catchUp_27 : decode cX7_catchUp 27 = .ok (.iconst 1, 1) := by decide +kernel
theorem dX7_catchUp_28 : decode cX7_catchUp 28 = .ok (.invokevirtual 30, 3) := by decide +kernel
theorem dX7_catchUp_31 : decode cX7_catchUp 31 = .ok (.isub, 1) := by decide +kernel
theorem dX7_catchUp_32 : decode cX7_catchUp 32 = .ok (.goto 4, 3) := by decide +kernel
theorem dX7_catchUp_35 : decode cX7_catchUp 35 = .ok (.iconst 0, 1) := by decide +kernel
theorem dX7_catchUp_36 : decode cX7_catchUp 36 = .ok (.istore_n 3, 1) := by decide +kernel
theorem dX7_catchUp_37 : decode cX7_catchUp 37 = .ok (.aload_n 0, 1) := by decide +kernel
theorem dX7_catchUp_38 : decode cX7_catchUp 38 = .ok (.iload_n 2, 1) := by decide +kernel
theorem dX7_catchUp_39 : decode cX7_catchUp 39 = .ok (.iconst 3, 1) := by decide +kernel
theorem dX7_catchUp_40 : decode cX7_catchUp 40 = .ok (.invokevirtual 30, 3) := by decide +kernel
theorem dX7_catchUp_43 : decode cX7_catchUp 43 = .ok (.iconst 1, 1) := by decide +kernel
theorem dX7_catchUp_44 : decode cX7_catchUp 44 = .ok (.if_icmp .ne 7, 3) := by decide +kernel
theorem dX7_catchUp_47 : decode cX7_catchUp 47 = .ok (.iconst 0, 1) := by decide +kernel
theorem dX7_catchUp_48 : decode cX7_catchUp 48 = .ok (.goto 9, 3) := by decide +kernel
theorem dX7_catchUp_51 : decode cX7_catchUp 51 = .ok (.aload_n 0, 1) := by decide +kernel
theorem dX7_catchUp_52 : decode cX7_catchUp 52 = .ok (.iload_n 2, 1) := by decide +kernel
theorem dX7_catchUp_53 : decode cX7_catchUp 53 = .ok (.iconst 2, 1) := by decide +kernel
theorem dX7_catchUp_54 : decode cX7_catchUp 54 = .ok (.invokevirtual 30, 3) := by decide +kernel
theorem dX7_catchUp_57 : decode cX7_catchUp 57 = .ok (.istore 4, 2) := by decide +kernel
theorem dX7_catchUp_59 : decode cX7_catchUp 59 = .ok (.iload_n 3, 1) := by decide +kernel
theorem dX7_catchUp_60 : decode cX7_catchUp 60 = .ok (.ifCond .le 11, 3) := by decide +kernel
theorem dX7_catchUp_63 : decode cX7_catchUp 63 = .ok (.iload 4, 2) := by decide +kernel
theorem dX7_catchUp_65 : decode cX7_catchUp 65 = .ok (.ifCond .ne 6, 3) := by decide +kernel
theorem dX7_catchUp_68 : decode cX7_catchUp 68 = .ok (.bipush (-6), 2) := by decide +kernel
theorem dX7_catchUp_70 : decode cX7_catchUp 70 = .ok (.ireturn, 1) := by decide +kernel
theorem dX7_catchUp_71 : decode cX7_catchUp 71 = .ok (.iload_n 3, 1) := by decide +kernel
theorem dX7_catchUp_72 : decode cX7_catchUp 72 = .ok (.ifCond .le 19, 3) := by decide +kernel
theorem dX7_catchUp_75 : decode cX7_catchUp 75 = .ok (.iload_n 1, 1) := by decide +kernel
theorem dX7_catchUp_76 : decode cX7_catchUp 76 = .ok (.iload_n 3, 1) := by decide +kernel
theorem dX7_catchUp_77 : decode cX7_catchUp 77 = .ok (.iload 4, 2) := by decide +kernel
theorem dX7_catchUp_79 : decode cX7_catchUp 79 = .ok (.iadd, 1) := by decide +kernel
theorem dX7_catchUp_80 : decode cX7_catchUp 80 = .ok (.iconst 1, 1) := by decide +kernel
theorem dX7_catchUp_81 : decode cX7_catchUp 81 = .ok (.isub, 1) := by decide +kernel
theorem dX7_catchUp_82 : decode cX7_catchUp 82 = .ok (.iload 4, 2) := by decide +kernel
theorem dX7_catchUp_84 : decode cX7_catchUp 84 = .ok (.idiv, 1) := by decide +kernel
theorem dX7_catchUp_85 : decode cX7_catchUp 85 = .ok (.invokestatic 100, 3) := by decide +kernel
theorem dX7_catchUp_88 : decode cX7_catchUp 88 = .ok (.goto 4, 3) := by decide +kernel
theorem dX7_catchUp_91 : decode cX7_catchUp 91 = .ok (.iload_n 1, 1) := by decide +kernel
theorem dX7_catchUp_92 : decode cX7_catchUp 92 = .ok (.istore_n 1, 1) := by decide +kernel
theorem dX7_catchUp_93 : decode cX7_catchUp 93 = .ok (.iinc 2 1, 3) := by decide +kernel
theorem dX7_catchUp_96 : decode cX7_catchUp 96 = .ok (.goto (-92), 3) := by decide +kernel
theorem dX7_catchUp_99 : decode cX7_catchUp 99 = .ok (.iload_n 1, 1) := by decide +kernel
theorem dX7_catchUp_100 : decode cX7_catchUp 100 = .ok (.ireturn, 1) := by decide +kernel
theorem dX7_append_0 : decode cX7_append 0 = .ok (.iload_n 1, 1) := by decide +kernel
theorem dX7_append_1 : decode cX7_append 1 = .ok (.bipush 33, 2) := by decide +kernel
theorem dX7_append_3 : decode cX7_append 3 = .ok (.bipush 126, 2) := by decide +kernel
theorem dX7_append_5 : decode cX7_append 5 = .ok (.invokestatic 26, 3) := by decide +kernel
theorem dX7_append_8 : decode cX7_append 8 = .ok (.ifCond .ne 6, 3) := by decide +kernel
theorem dX7_append_11 : decode cX7_append 11 = .ok (.bipush (-2), 2) := by decide +kernel
theorem dX7_append_13 : decode cX7_append 13 = .ok (.ireturn, 1) := by decide +kernel
theorem dX7_append_14 : decode cX7_append 14 = .ok (.aload_n 0, 1) := by decide +kernel
theorem dX7_append_15 : decode cX7_append 15 = .ok (.getfield 142, 3) := by decide +kernel
theorem dX7_append_18 : decode cX7_append 18 = .ok (.bipush 80, 2) := by decide +kernel
theorem dX7_append_20 : decode cX7_append 20 = .ok (.if_icmp .ne 6, 3) := by decide +kernel
theorem dX7_append_23 : decode cX7_append 23 = .ok (.bipush (-4), 2) := by decide +kernel
theorem dX7_append_25 : decode cX7_append 25 = .ok (.ireturn, 1) := by decide +kernel
theorem dX7_append_26 : decode cX7_append 26 = .ok (.aload_n 0, 1) := by decide +kernel
theorem dX7_append_27 : decode cX7_append 27 = .ok (.getfield 19, 3) := by decide +kernel
theorem dX7_append_30 : decode cX7_append 30 = .ok (.aload_n 0, 1) := by decide +kernel
theorem dX7_append_31 : decode cX7_append 31 = .ok (.getfield 142, 3) := by decide +kernel
theorem dX7_append_34 : decode cX7_append 34 = .ok (.iload_n 1, 1) := by decide +kernel
theorem dX7_append_35 : decode cX7_append 35 = .ok (.i2c, 1) := by decide +kernel
theorem dX7_append_36 : decode cX7_append 36 = .ok (.castore, 1) := by decide +kernel
theorem dX7_append_37 : decode cX7_append 37 = .ok (.aload_n 0, 1) := by decide +kernel
theorem dX7_append_38 : decode cX7_append 38 = .ok (.dup, 1) := by decide +kernel
theorem dX7_append_39 : decode cX7_append 39 = .ok (.getfield 142, 3) := by decide +kernel
theorem dX7_append_42 : decode cX7_append 42 = .ok (.iconst 1, 1) := by decide +kernel
theorem dX7_append_43 : decode cX7_append 43 = .ok (.iadd, 1) := by decide +kernel
theorem dX7_append_44 : decode cX7_append 44 = .ok (.putfield 142, 3) := by decide +kernel
theorem dX7_append_47 : decode cX7_append 47 = .ok (.aload_n 0, 1) := by decide +kernel
theorem dX7_append_48 : decode cX7_append 48 = .ok (.getfield 142, 3) := by decide +kernel
theorem dX7_append_51 : decode cX7_append 51 = .ok (.ireturn, 1) := by decide +kernel
theorem dX7_clearText_0 : decode cX7_clearText 0 = .ok (.aload_n 0, 1) := by decide +kernel
theorem dX7_clearText_1 : decode cX7_clearText 1 = .ok (.getfield 142, 3) := by decide +kernel
theorem dX7_clearText_4 : decode cX7_clearText 4 = .ok (.istore_n 1, 1) := by decide +kernel
theorem dX7_clearText_5 : decode cX7_clearText 5 = .ok (.aload_n 0, 1) := by decide +kernel
theorem dX7_clearText_6 : decode cX7_clearText 6 = .ok (.iconst 0, 1) := by decide +kernel
theorem dX7_clearText_7 : decode cX7_clearText 7 = .ok (.putfield 142, 3) := by decide +kernel
theorem dX7_clearText_10 : decode cX7_clearText 10 = .ok (.iload_n 1, 1) := by decide +kernel
theorem dX7_clearText_11 : decode cX7_clearText 11 = .ok (.ireturn, 1) := by decide +kernel
theorem dX7_letter_0 : decode cX7_letter 0 = .ok (.aload_n 0, 1) := by decide +kernel
theorem dX7_letter_1 : decode cX7_letter 1 = .ok (.getfield 145, 3) := by decide +kernel
theorem dX7_letter_4 : decode cX7_letter 4 = .ok (.aload_n 0, 1) := by decide +kernel
theorem dX7_letter_5 : decode cX7_letter 5 = .ok (.getfield 142, 3) := by decide +kernel
theorem dX7_letter_8 : decode cX7_letter 8 = .ok (.if_icmp .ge 15, 3) := by decide +kernel
theorem dX7_letter_11 : decode cX7_letter 11 = .ok (.aload_n 0, 1) := by decide +kernel
theorem dX7_letter_12 : decode cX7_letter 12 = .ok (.getfield 19, 3) := by decide +kernel
theorem dX7_letter_15 : decode cX7_letter 15 = .ok (.aload_n 0, 1) := by decide +kernel
theorem dX7_letter_16 : decode cX7_letter 16 = .ok (.getfield 145, 3) := by decide +kernel
theorem dX7_letter_19 : decode cX7_letter 19 = .ok (.caload, 1) := by decide +kernel
theorem dX7_letter_20 : decode cX7_letter 20 = .ok (.goto 5, 3) := by decide +kernel
theorem dX7_letter_23 : decode cX7_letter 23 = .ok (.bipush (-6), 2) := by decide +kernel
theorem dX7_letter_25 : decode cX7_letter 25 = .ok (.ireturn, 1) := by decide +kernel
theorem dX7_wants_0 : decode cX7_wants 0 = .ok (.aload_n 0, 1) := by decide +kernel
theorem dX7_wants_1 : decode cX7_wants 1 = .ok (.getfield 148, 3) := by decide +kernel
theorem dX7_wants_4 : decode cX7_wants 4 = .ok (.bipush (-6), 2) := by decide +kernel
theorem dX7_wants_6 : decode cX7_wants 6 = .ok (.if_icmp .ne 30, 3) := by decide +kernel
theorem dX7_wants_9 : decode cX7_wants 9 = .ok (.aload_n 0, 1) := by decide +kernel
theorem dX7_wants_10 : decode cX7_wants 10 = .ok (.iload_n 1, 1) := by decide +kernel
theorem dX7_wants_11 : decode cX7_wants 11 = .ok (.ifCond .eq 8, 3) := by decide +kernel
theorem dX7_wants_14 : decode cX7_wants 14 = .ok (.bipush (-6), 2) := by decide +kernel
theorem dX7_wants_16 : decode cX7_wants 16 = .ok (.goto 7, 3) := by decide +kernel
theorem dX7_wants_19 : decode cX7_wants 19 = .ok (.aload_n 0, 1) := by decide +kernel
theorem dX7_wants_20 : decode cX7_wants 20 = .ok (.getfield 145, 3) := by decide +kernel
theorem dX7_wants_23 : decode cX7_wants 23 = .ok (.putfield 148, 3) := by decide +kernel
theorem dX7_wants_26 : decode cX7_wants 26 = .ok (.aload_n 0, 1) := by decide +kernel
theorem dX7_wants_27 : decode cX7_wants 27 = .ok (.dup, 1) := by decide +kernel
theorem dX7_wants_28 : decode cX7_wants 28 = .ok (.getfield 145, 3) := by decide +kernel
theorem dX7_wants_31 : decode cX7_wants 31 = .ok (.iconst 1, 1) := by decide +kernel
theorem dX7_wants_32 : decode cX7_wants 32 = .ok (.iadd, 1) := by decide +kernel
theorem dX7_wants_33 : decode cX7_wants 33 = .ok (.putfield 145, 3) := by decide +kernel
theorem dX7_wants_36 : decode cX7_wants 36 = .ok (.return_, 1) := by decide +kernel
theorem dX7_digit_0 : decode cX7_digit 0 = .ok (.aload_n 0, 1) := by decide +kernel
theorem dX7_digit_1 : decode cX7_digit 1 = .ok (.invokevirtual 151, 3) := by decide +kernel
theorem dX7_digit_4 : decode cX7_digit 4 = .ok (.bipush 48, 2) := by decide +kernel
theorem dX7_digit_6 : decode cX7_digit 6 = .ok (.isub, 1) := by decide +kernel
theorem dX7_digit_7 : decode cX7_digit 7 = .ok (.istore_n 1, 1) := by decide +kernel
theorem dX7_digit_8 : decode cX7_digit 8 = .ok (.aload_n 0, 1) := by decide +kernel
theorem dX7_digit_9 : decode cX7_digit 9 = .ok (.iload_n 1, 1) := by decide +kernel
theorem dX7_digit_10 : decode cX7_digit 10 = .ok (.iconst 0, 1) := by decide +kernel
theorem dX7_digit_11 : decode cX7_digit 11 = .ok (.bipush 9, 2) := by decide +kernel
theorem dX7_digit_13 : decode cX7_digit 13 = .ok (.invokestatic 26, 3) := by decide +kernel
theorem dX7_digit_16 : decode cX7_digit 16 = .ok (.invokevirtual 155, 3) := by decide +kernel
theorem dX7_digit_19 : decode cX7_digit 19 = .ok (.iload_n 1, 1) := by decide +kernel
theorem dX7_digit_20 : decode cX7_digit 20 = .ok (.ireturn, 1) := by decide +kernel
theorem dX7_number_0 : decode cX7_number 0 = .ok (.aload_n 0, 1) := by decide +kernel
theorem dX7_number_1 : decode cX7_number 1 = .ok (.invokevirtual 159, 3) := by decide +kernel
theorem dX7_number_4 : decode cX7_number 4 = .ok (.istore_n 1, 1) := by decide +kernel
theorem dX7_number_5 : decode cX7_number 5 = .ok (.aload_n 0, 1) := by decide +kernel
theorem dX7_number_6 : decode cX7_number 6 = .ok (.invokevirtual 151, 3) := by decide +kernel
theorem dX7_number_9 : decode cX7_number 9 = .ok (.bipush 48, 2) := by decide +kernel
theorem dX7_number_11 : decode cX7_number 11 = .ok (.isub, 1) := by decide +kernel
theorem dX7_number_12 : decode cX7_number 12 = .ok (.istore_n 2, 1) := by decide +kernel
theorem dX7_number_13 : decode cX7_number 13 = .ok (.aload_n 0, 1) := by decide +kernel
theorem dX7_number_14 : decode cX7_number 14 = .ok (.getfield 148, 3) := by decide +kernel
theorem dX7_number_17 : decode cX7_number 17 = .ok (.bipush (-6), 2) := by decide +kernel
theorem dX7_number_19 : decode cX7_number 19 = .ok (.if_icmp .ne 57, 3) := by decide +kernel
theorem dX7_number_22 : decode cX7_number 22 = .ok (.iload_n 1, 1) := by decide +kernel
theorem dX7_number_23 : decode cX7_number 23 = .ok (.ifCond .le 53, 3) := by decide +kernel
theorem dX7_number_26 : decode cX7_number 26 = .ok (.iload_n 2, 1) := by decide +kernel
theorem dX7_number_27 : decode cX7_number 27 = .ok (.iconst 0, 1) := by decide +kernel
theorem dX7_number_28 : decode cX7_number 28 = .ok (.bipush 9, 2) := by decide +kernel
theorem dX7_number_30 : decode cX7_number 30 = .ok (.invokestatic 26, 3) := by decide +kernel
theorem dX7_number_33 : decode cX7_number 33 = .ok (.ifCond .eq 43, 3) := by decide +kernel
theorem dX7_number_36 : decode cX7_number 36 = .ok (.bipush 10, 2) := by decide +kernel
theorem dX7_number_38 : decode cX7_number 38 = .ok (.iload_n 1, 1) := by decide +kernel
theorem dX7_number_39 : decode cX7_number 39 = .ok (.imul, 1) := by decide +kernel
theorem dX7_number_40 : decode cX7_number 40 = .ok (.iload_n 2, 1) := by decide +kernel
theorem dX7_number_41 : decode cX7_number 41 = .ok (.iadd, 1) := by decide +kernel
theorem dX7_number_42 : decode cX7_number 42 = .ok (.sipush 999, 3) := by decide +kernel
theorem dX7_number_45 : decode cX7_number 45 = .ok (.if_icmp .gt 31, 3) := by decide +kernel
theorem dX7_number_48 : decode cX7_number 48 = .ok (.bipush 10, 2) := by decide +kernel
theorem dX7_number_50 : decode cX7_number 50 = .ok (.iload_n 1, 1) := by decide +kernel
theorem dX7_number_51 : decode cX7_number 51 = .ok (.imul, 1) := by decide +kernel
theorem dX7_number_52 : decode cX7_number 52 = .ok (.iload_n 2, 1) := by decide +kernel
theorem dX7_number_53 : decode cX7_number 53 = .ok (.iadd, 1) := by decide +kernel
theorem dX7_number_54 : decode cX7_number 54 = .ok (.istore_n 1, 1) := by decide +kernel
theorem dX7_number_55 : decode cX7_number 55 = .ok (.aload_n 0, 1) := by decide +kernel
theorem dX7_number_56 : decode cX7_number 56 = .ok (.dup, 1) := by decide +kernel
theorem dX7_number_57 : decode cX7_number 57 = .ok (.getfield 145, 3) := by decide +kernel
theorem dX7_number_60 : decode cX7_number 60 = .ok (.iconst 1, 1) := by decide +kernel
theorem dX7_number_61 : decode cX7_number 61 = .ok (.iadd, 1) := by decide +kernel
theorem dX7_number_62 : decode cX7_number 62 = .ok (.putfield 145, 3) := by decide +kernel
theorem dX7_number_65 : decode cX7_number 65 = .ok (.aload_n 0, 1) := by decide +kernel
theorem dX7_number_66 : decode cX7_number 66 = .ok (.invokevirtual 151, 3) := by decide +kernel
theorem dX7_number_69 : decode cX7_number 69 = .ok (.bipush 48, 2) := by decide +kernel
theorem dX7_number_71 : decode cX7_number 71 = .ok (.isub, 1) := by decide +kernel
theorem dX7_number_72 : decode cX7_number 72 = .ok (.istore_n 2, 1) := by decide +kernel
theorem dX7_number_73 : decode cX7_number 73 = .ok (.goto (-60), 3) := by decide +kernel
theorem dX7_number_76 : decode cX7_number 76 = .ok (.iload_n 1, 1) := by decide +kernel
theorem dX7_number_77 : decode cX7_number 77 = .ok (.ireturn, 1) := by decide +kernel
theorem dX7_place_0 : decode cX7_place 0 = .ok (.aload_n 0, 1) := by decide +kernel
theorem dX7_place_1 : decode cX7_place 1 = .ok (.invokevirtual 151, 3) := by decide +kernel
theorem dX7_place_4 : decode cX7_place 4 = .ok (.istore_n 1, 1) := by decide +kernel
theorem dX7_place_5 : decode cX7_place 5 = .ok (.aload_n 0, 1) := by decide +kernel
theorem dX7_place_6 : decode cX7_place 6 = .ok (.iload_n 1, 1) := by decide +kernel
theorem dX7_place_7 : decode cX7_place 7 = .ok (.bipush 112, 2) := by decide +kernel
theorem dX7_place_9 : decode cX7_place 9 = .ok (.if_icmp .eq 14, 3) := by decide +kernel
theorem dX7_place_12 : decode cX7_place 12 = .ok (.iload_n 1, 1) := by decide +kernel
theorem dX7_place_13 : decode cX7_place 13 = .ok (.bipush 48, 2) := by decide +kernel
theorem dX7_place_15 : decode cX7_place 15 = .ok (.bipush 52, 2) := by decide +kernel
theorem dX7_place_17 : decode cX7_place 17 = .ok (.invokestatic 26, 3) := by decide +kernel
theorem dX7_place_20 : decode cX7_place 20 = .ok (.ifCond .eq 7, 3) := by decide +kernel
theorem dX7_place_23 : decode cX7_place 23 = .ok (.iconst 1, 1) := by decide +kernel
theorem dX7_place_24 : decode cX7_place 24 = .ok (.goto 4, 3) := by decide +kernel
theorem dX7_place_27 : decode cX7_place 27 = .ok (.iconst 0, 1) := by decide +kernel
theorem dX7_place_28 : decode cX7_place 28 = .ok (.invokevirtual 155, 3) := by decide +kernel
theorem dX7_place_31 : decode cX7_place 31 = .ok (.iload_n 1, 1) := by decide +kernel
theorem dX7_place_32 : decode cX7_place 32 = .ok (.bipush 112, 2) := by decide +kernel
theorem dX7_place_34 : decode cX7_place 34 = .ok (.if_icmp .ne 8, 3) := by decide +kernel
theorem dX7_place_37 : decode cX7_place 37 = .ok (.bipush 9, 2) := by decide +kernel
theorem dX7_place_39 : decode cX7_place 39 = .ok (.goto 7, 3) := by decide +kernel
theorem dX7_place_42 : decode cX7_place 42 = .ok (.iload_n 1, 1) := by decide +kernel
theorem dX7_place_43 : decode cX7_place 43 = .ok (.bipush 48, 2) := by decide +kernel
theorem dX7_place_45 : decode cX7_place 45 = .ok (.isub, 1) := by decide +kernel
theorem dX7_place_46 : decode cX7_place 46 = .ok (.ireturn, 1) := by decide +kernel
theorem dX7_readCommand_0 : decode cX7_readCommand 0 = .ok (.iconst 4, 1) := by decide +kernel
theorem dX7_readCommand_1 : decode cX7_readCommand 1 = .ok (.aload_n 0, 1) := by decide +kernel
theorem dX7_readCommand_2 : decode cX7_readCommand 2 = .ok (.getfield 162, 3) := by decide +kernel
theorem dX7_readCommand_5 : decode cX7_readCommand 5 = .ok (.imul, 1) := by decide +kernel
theorem dX7_readCommand_6 : decode cX7_readCommand 6 = .ok (.istore_n 1, 1) := by decide +kernel
theorem dX7_readCommand_7 : decode cX7_readCommand 7 = .ok (.aload_n 0, 1) := by decide +kernel
theorem dX7_readCommand_8 : decode cX7_readCommand 8 = .ok (.invokevirtual 151, 3) := by decide +kernel
theorem dX7_readCommand_11 : decode cX7_readCommand 11 = .ok (.istore_n 2, 1) := by decide +kernel
theorem dX7_readCommand_12 : decode cX7_readCommand 12 = .ok (.aload_n 0, 1) := by decide +kernel
theorem dX7_readCommand_13 : decode cX7_readCommand 13 = .ok (.iload_n 2, 1) := by decide +kernel
theorem dX7_readCommand_14 : decode cX7_readCommand 14 = .ok (.bipush 119, 2) := by decide +kernel
theorem dX7_readCommand_16 : decode cX7_readCommand 16 = .ok (.if_icmp .eq 33, 3) := by decide +kernel
theorem dX7_readCommand_19 : decode cX7_readCommand 19 = .ok (.iload_n 2, 1) := by decide +kernel
theorem dX7_readCommand_20 : decode cX7_readCommand 20 = .ok (.bipush 114, 2) := by decide +kernel
theorem dX7_readCommand_22 : decode cX7_readCommand 22 = .ok (.if_icmp .eq 27, 3) := by decide +kernel
theorem dX7_readCommand_25 : decode cX7_readCommand 25 = .ok (.iload_n 2, 1) := by decide +kernel
theorem dX7_readCommand_26 : decode cX7_readCommand 26 = .ok (.bipush 116, 2) := by decide +kernel
theorem dX7_readCommand_28 : decode cX7_readCommand 28 = .ok (.if_icmp .eq 21, 3) := by decide +kernel
theorem dX7_readCommand_31 : decode cX7_readCommand 31 = .ok (.iload_n 2, 1) := by decide +kernel
theorem dX7_readCommand_32 : decode cX7_readCommand 32 = .ok (.bipush 109, 2) := by decide +kernel
theorem dX7_readCommand_34 : decode cX7_readCommand 34 = .ok (.if_icmp .eq 15, 3) := by decide +kernel
theorem dX7_readCommand_37 : decode cX7_readCommand 37 = .ok (.iload_n 2, 1) := by decide +kernel
theorem dX7_readCommand_38 : decode cX7_readCommand 38 = .ok (.bipush 104, 2) := by decide +kernel
theorem dX7_readCommand_40 : decode cX7_readCommand 40 = .ok (.if_icmp .eq 9, 3) := by decide +kernel
theorem dX7_readCommand_43 : decode cX7_readCommand 43 = .ok (.iload_n 2, 1) := by decide +kernel
theorem dX7_readCommand_44 : decode cX7_readCommand 44 = .ok (.bipush 106, 2) := by decide +kernel
theorem dX7_readCommand_46 : decode cX7_readCommand 46 = .ok (.if_icmp .ne 7, 3) := by decide +kernel
theorem dX7_readCommand_49 : decode cX7_readCommand 49 = .ok (.iconst 1, 1) := by decide +kernel
theorem dX7_readCommand_50 : decode cX7_readCommand 50 = .ok (.goto 4, 3) := by decide +kernel
theorem dX7_readCommand_53 : decode cX7_readCommand 53 = .ok (.iconst 0, 1) := by decide +kernel
theorem dX7_readCommand_54 : decode cX7_readCommand 54 = .ok (.invokevirtual 155, 3) := by decide +kernel
theorem dX7_readCommand_57 : decode cX7_readCommand 57 = .ok (.aload_n 0, 1) := by decide +kernel
theorem dX7_readCommand_58 : decode cX7_readCommand 58 = .ok (.getfield 23, 3) := by decide +kernel
theorem dX7_readCommand_61 : decode cX7_readCommand 61 = .ok (.iload_n 1, 1) := by decide +kernel
theorem dX7_readCommand_62 : decode cX7_readCommand 62 = .ok (.iload_n 2, 1) := by decide +kernel
theorem dX7_readCommand_63 : decode cX7_readCommand 63 = .ok (.iastore, 1) := by decide +kernel
theorem dX7_readCommand_64 : decode cX7_readCommand 64 = .ok (.aload_n 0, 1) := by decide +kernel
theorem dX7_readCommand_65 : decode cX7_readCommand 65 = .ok (.getfield 23, 3) := by decide +kernel
theorem dX7_readCommand_68 : decode cX7_readCommand 68 = .ok (.iload_n 1, 1) := by decide +kernel
theorem dX7_readCommand_69 : decode cX7_readCommand 69 = .ok (.iconst 1, 1) := by decide +kernel
theorem dX7_readCommand_70 : decode cX7_readCommand 70 = .ok (.iadd, 1) := by decide +kernel
theorem dX7_readCommand_71 : decode cX7_readCommand 71 = .ok (.iload_n 2, 1) := by decide +kernel
theorem dX7_readCommand_72 : decode cX7_readCommand 72 = .ok (.bipush 116, 2) := by decide +kernel
theorem dX7_readCommand_74 : decode cX7_readCommand 74 = .ok (.if_icmp .ne 10, 3) := by decide +kernel
theorem dX7_readCommand_77 : decode cX7_readCommand 77 = .ok (.aload_n 0, 1) := by decide +kernel
theorem dX7_readCommand_78 : decode cX7_readCommand 78 = .ok (.invokevirtual 165, 3) := by decide +kernel
theorem dX7_readCommand_81 : decode cX7_readCommand 81 = .ok (.goto 7, 3) := by decide +kernel
theorem dX7_readCommand_84 : decode cX7_readCommand 84 = .ok (.aload_n 0, 1) := by decide +kernel
theorem dX7_readCommand_85 : decode cX7_readCommand 85 = .ok (.invokevirtual 159, 3) := by decide +kernel
theorem dX7_readCommand_88 : decode cX7_readCommand 88 = .ok (.iastore, 1) := by decide +kernel
theorem dX7_readCommand_89 : decode cX7_readCommand 89 = .ok (.iload_n 2, 1) := by decide +kernel
theorem dX7_readCommand_90 : decode cX7_readCommand 90 = .ok (.bipush 119, 2) := by decide +kernel
theorem dX7_readCommand_92 : decode cX7_readCommand 92 = .ok (.if_icmp .eq 9, 3) := by decide +kernel
theorem dX7_readCommand_95 : decode cX7_readCommand 95 = .ok (.iload_n 2, 1) := by decide +kernel
theorem dX7_readCommand_96 : decode cX7_readCommand 96 = .ok (.bipush 114, 2) := by decide +kernel
theorem dX7_readCommand_98 : decode cX7_readCommand 98 = .ok (.if_icmp .ne 33, 3) := by decide +kernel
theorem dX7_readCommand_101 : decode cX7_readCommand 101 = .ok (.aload_n 0, 1) := by decide +kernel
theorem dX7_readCommand_102 : decode cX7_readCommand 102 = .ok (.aload_n 0, 1) := by decide +kernel
theorem dX7_readCommand_103 : decode cX7_readCommand 103 = .ok (.invokevirtual 151, 3) := by decide +kernel
theorem dX7_readCommand_106 : decode cX7_readCommand 106 = .ok (.bipush 58, 2) := by decide +kernel
theorem dX7_readCommand_108 : decode cX7_readCommand 108 = .ok (.if_icmp .ne 7, 3) := by decide +kernel
theorem dX7_readCommand_111 : decode cX7_readCommand 111 = .ok (.iconst 1, 1) := by decide +kernel
theorem dX7_readCommand_112 : decode cX7_readCommand 112 = .ok (.goto 4, 3) := by decide +kernel
theorem dX7_readCommand_115 : decode cX7_readCommand 115 = .ok (.iconst 0, 1) := by decide +kernel
theorem dX7_readCommand_116 : decode cX7_readCommand 116 = .ok (.invokevirtual 155, 3) := by decide +kernel
theorem dX7_readCommand_119 : decode cX7_readCommand 119 = .ok (.aload_n 0, 1) := by decide +kernel
theorem dX7_readCommand_120 : decode cX7_readCommand 120 = .ok (.getfield 23, 3) := by decide +kernel
theorem dX7_readCommand_123 : decode cX7_readCommand 123 = .ok (.iload_n 1, 1) := by decide +kernel
theorem dX7_readCommand_124 : decode cX7_readCommand 124 = .ok (.iconst 2, 1) := by decide +kernel
theorem dX7_readCommand_125 : decode cX7_readCommand 125 = .ok (.iadd, 1) := by decide +kernel
theorem dX7_readCommand_126 : decode cX7_readCommand 126 = .ok (.aload_n 0, 1) := by decide +kernel
theorem dX7_readCommand_127 : decode cX7_readCommand 127 = .ok (.invokevirtual 165, 3) := by decide +kernel
theorem dX7_readCommand_130 : decode cX7_readCommand 130 = .ok (.iastore, 1) := by decide +kernel
theorem dX7_readCommand_131 : decode cX7_readCommand 131 = .ok (.iload_n 2, 1) := by decide +kernel
theorem dX7_readCommand_132 : decode cX7_readCommand 132 = .ok (.bipush 119, 2) := by decide +kernel
theorem dX7_readCommand_134 : decode cX7_readCommand 134 = .ok (.if_icmp .ne 33, 3) := by decide +kernel
theorem dX7_readCommand_137 : decode cX7_readCommand 137 = .ok (.aload_n 0, 1) := by decide +kernel
theorem dX7_readCommand_138 : decode cX7_readCommand 138 = .ok (.aload_n 0, 1) := by decide +kernel
theorem dX7_readCommand_139 : decode cX7_readCommand 139 = .ok (.invokevirtual 151, 3) := by decide +kernel
theorem dX7_readCommand_142 : decode cX7_readCommand 142 = .ok (.bipush 61, 2) := by decide +kernel
theorem dX7_readCommand_144 : decode cX7_readCommand 144 = .ok (.if_icmp .ne 7, 3) := by decide +kernel
theorem dX7_readCommand_147 : decode cX7_readCommand 147 = .ok (.iconst 1, 1) := by decide +kernel
theorem dX7_readCommand_148 : decode cX7_readCommand 148 = .ok (.goto 4, 3) := by decide +kernel
theorem dX7_readCommand_151 : decode cX7_readCommand 151 = .ok (.iconst 0, 1) := by decide +kernel
theorem dX7_readCommand_152 : decode cX7_readCommand 152 = .ok (.invokevirtual 155, 3) := by decide +kernel
theorem dX7_readCommand_155 : decode cX7_readCommand 155 = .ok (.aload_n 0, 1) := by decide +kernel
theorem dX7_readCommand_156 : decode cX7_readCommand 156 = .ok (.getfield 23, 3) := by decide +kernel
theorem dX7_readCommand_159 : decode cX7_readCommand 159 = .ok (.iload_n 1, 1) := by decide +kernel
theorem dX7_readCommand_160 : decode cX7_readCommand 160 = .ok (.iconst 3, 1) := by decide +kernel
theorem dX7_readCommand_161 : decode cX7_readCommand 161 = .ok (.iadd, 1) := by decide +kernel
theorem dX7_readCommand_162 : decode cX7_readCommand 162 = .ok (.aload_n 0, 1) := by decide +kernel
theorem dX7_readCommand_163 : decode cX7_readCommand 163 = .ok (.invokevirtual 165, 3) := by decide +kernel
theorem dX7_readCommand_166 : decode cX7_readCommand 166 = .ok (.iastore, 1) := by decide +kernel
theorem dX7_readCommand_167 : decode cX7_readCommand 167 = .ok (.iload_n 2, 1) := by decide +kernel
theorem dX7_readCommand_168 : decode cX7_readCommand 168 = .ok (.bipush 109, 2) := by decide +kernel
theorem dX7_readCommand_170 : decode cX7_readCommand 170 = .ok (.if_icmp .eq 9, 3) := by decide +kernel
theorem dX7_readCommand_173 : decode cX7_readCommand 173 = .ok (.iload_n 2, 1) := by decide +kernel
theorem dX7_readCommand_174 : decode cX7_readCommand 174 = .ok (.bipush 104, 2) := by decide +kernel
theorem dX7_readCommand_176 : decode cX7_readCommand 176 = .ok (.if_icmp .ne 46, 3) := by decide +kernel
theorem dX7_readCommand_179 : decode cX7_readCommand 179 = .ok (.aload_n 0, 1) := by decide +kernel
theorem dX7_readCommand_180 : decode cX7_readCommand 180 = .ok (.aload_n 0, 1) := by decide +kernel
theorem dX7_readCommand_181 : decode cX7_readCommand 181 = .ok (.invokevirtual 151, 3) := by decide +kernel
theorem dX7_readCommand_184 : decode cX7_readCommand 184 = .ok (.bipush 62, 2) := by decide +kernel
theorem dX7_readCommand_186 : decode cX7_readCommand 186 = .ok (.if_icmp .ne 7, 3) := by decide +kernel
theorem dX7_readCommand_189 : decode cX7_readCommand 189 = .ok (.iconst 1, 1) := by decide +kernel
theorem dX7_readCommand_190 : decode cX7_readCommand 190 = .ok (.goto 4, 3) := by decide +kernel
theorem dX7_readCommand_193 : decode cX7_readCommand 193 = .ok (.iconst 0, 1) := by decide +kernel
theorem dX7_readCommand_194 : decode cX7_readCommand 194 = .ok (.invokevirtual 155, 3) := by decide +kernel
theorem dX7_readCommand_197 : decode cX7_readCommand 197 = .ok (.aload_n 0, 1) := by decide +kernel
theorem dX7_readCommand_198 : decode cX7_readCommand 198 = .ok (.getfield 23, 3) := by decide +kernel
theorem dX7_readCommand_201 : decode cX7_readCommand 201 = .ok (.iload_n 1, 1) := by decide +kernel
theorem dX7_readCommand_202 : decode cX7_readCommand 202 = .ok (.iconst 2, 1) := by decide +kernel
theorem dX7_readCommand_203 : decode cX7_readCommand 203 = .ok (.iadd, 1) := by decide +kernel
theorem dX7_readCommand_204 : decode cX7_readCommand 204 = .ok (.iload_n 2, 1) := by decide +kernel
theorem dX7_readCommand_205 : decode cX7_readCommand 205 = .ok (.bipush 109, 2) := by decide +kernel
theorem dX7_readCommand_207 : decode cX7_readCommand 207 = .ok (.if_icmp .ne 10, 3) := by decide +kernel
theorem dX7_readCommand_210 : decode cX7_readCommand 210 = .ok (.aload_n 0, 1) := by decide +kernel
theorem dX7_readCommand_211 : decode cX7_readCommand 211 = .ok (.invokevirtual 168, 3) := by decide +kernel
theorem dX7_readCommand_214 : decode cX7_readCommand 214 = .ok (.goto 7, 3) := by decide +kernel
theorem dX7_readCommand_217 : decode cX7_readCommand 217 = .ok (.aload_n 0, 1) := by decide +kernel
theorem dX7_readCommand_218 : decode cX7_readCommand 218 = .ok (.invokevirtual 159, 3) := by decide +kernel
theorem dX7_readCommand_221 : decode cX7_readCommand 221 = .ok (.iastore, 1) := by decide +kernel
theorem dX7_readCommand_222 : decode cX7_readCommand 222 = .ok (.iload_n 2, 1) := by decide +kernel
theorem dX7_readCommand_223 : decode cX7_readCommand 223 = .ok (.bipush 106, 2) := by decide +kernel
theorem dX7_readCommand_225 : decode cX7_readCommand 225 = .ok (.if_icmp .ne 33, 3) := by decide +kernel
theorem dX7_readCommand_228 : decode cX7_readCommand 228 = .ok (.aload_n 0, 1) := by decide +kernel
theorem dX7_readCommand_229 : decode cX7_readCommand 229 = .ok (.aload_n 0, 1) := by decide +kernel
theorem dX7_readCommand_230 : decode cX7_readCommand 230 = .ok (.invokevirtual 151, 3) := by decide +kernel
theorem dX7_readCommand_233 : decode cX7_readCommand 233 = .ok (.bipush 64, 2) := by decide +kernel
theorem dX7_readCommand_235 : decode cX7_readCommand 235 = .ok (.if_icmp .ne 7, 3) := by decide +kernel
theorem dX7_readCommand_238 : decode cX7_readCommand 238 = .ok (.iconst 1, 1) := by decide +kernel
theorem dX7_readCommand_239 : decode cX7_readCommand 239 = .ok (.goto 4, 3) := by decide +kernel
theorem dX7_readCommand_242 : decode cX7_readCommand 242 = .ok (.iconst 0, 1) := by decide +kernel
theorem dX7_readCommand_243 : decode cX7_readCommand 243 = .ok (.invokevirtual 155, 3) := by decide +kernel
theorem dX7_readCommand_246 : decode cX7_readCommand 246 = .ok (.aload_n 0, 1) := by decide +kernel
theorem dX7_readCommand_247 : decode cX7_readCommand 247 = .ok (.getfield 23, 3) := by decide +kernel
theorem dX7_readCommand_250 : decode cX7_readCommand 250 = .ok (.iload_n 1, 1) := by decide +kernel
theorem dX7_readCommand_251 : decode cX7_readCommand 251 = .ok (.iconst 2, 1) := by decide +kernel
theorem dX7_readCommand_252 : decode cX7_readCommand 252 = .ok (.iadd, 1) := by decide +kernel
theorem dX7_readCommand_253 : decode cX7_readCommand 253 = .ok (.aload_n 0, 1) := by decide +kernel
theorem dX7_readCommand_254 : decode cX7_readCommand 254 = .ok (.invokevirtual 165, 3) := by decide +kernel
theorem dX7_readCommand_257 : decode cX7_readCommand 257 = .ok (.iastore, 1) := by decide +kernel
theorem dX7_readCommand_258 : decode cX7_readCommand 258 = .ok (.aload_n 0, 1) := by decide +kernel
theorem dX7_readCommand_259 : decode cX7_readCommand 259 = .ok (.dup, 1) := by decide +kernel
theorem dX7_readCommand_260 : decode cX7_readCommand 260 = .ok (.getfield 162, 3) := by decide +kernel
theorem dX7_readCommand_263 : decode cX7_readCommand 263 = .ok (.iconst 1, 1) := by decide +kernel
theorem dX7_readCommand_264 : decode cX7_readCommand 264 = .ok (.iadd, 1) := by decide +kernel
theorem dX7_readCommand_265 : decode cX7_readCommand 265 = .ok (.putfield 162, 3) := by decide +kernel
theorem dX7_readCommand_268 : decode cX7_readCommand 268 = .ok (.return_, 1) := by decide +kernel
theorem dX7_errorPosition_0 : decode cX7_errorPosition 0 = .ok (.aload_n 0, 1) := by decide +kernel
theorem dX7_errorPosition_1 : decode cX7_errorPosition 1 = .ok (.iconst 0, 1) := by decide +kernel
theorem dX7_errorPosition_2 : decode cX7_errorPosition 2 = .ok (.putfield 162, 3) := by decide +kernel
theorem dX7_errorPosition_5 : decode cX7_errorPosition 5 = .ok (.aload_n 0, 1) := by decide +kernel
theorem dX7_errorPosition_6 : decode cX7_errorPosition 6 = .ok (.iconst 0, 1) := by decide +kernel
theorem dX7_errorPosition_7 : decode cX7_errorPosition 7 = .ok (.putfield 145, 3) := by decide +kernel
theorem dX7_errorPosition_10 : decode cX7_errorPosition 10 = .ok (.aload_n 0, 1) := by decide +kernel
theorem dX7_errorPosition_11 : decode cX7_errorPosition 11 = .ok (.bipush (-6), 2) := by decide +kernel
theorem dX7_errorPosition_13 : decode cX7_errorPosition 13 = .ok (.putfield 148, 3) := by decide +kernel
theorem dX7_errorPosition_16 : decode cX7_errorPosition 16 = .ok (.iconst 1, 1) := by decide +kernel
theorem dX7_errorPosition_17 : decode cX7_errorPosition 17 = .ok (.istore_n 1, 1) := by decide +kernel
theorem dX7_errorPosition_18 : decode cX7_errorPosition 18 = .ok (.iload_n 1, 1) := by decide +kernel
theorem dX7_errorPosition_19 : decode cX7_errorPosition 19 = .ok (.ifCond .eq 73, 3) := by decide +kernel
theorem dX7_errorPosition_22 : decode cX7_errorPosition 22 = .ok (.aload_n 0, 1) := by decide +kernel
theorem dX7_errorPosition_23 : decode cX7_errorPosition 23 = .ok (.invokevirtual 171, 3) := by decide +kernel
theorem dX7_errorPosition_26 : decode cX7_errorPosition 26 = .ok (.aload_n 0, 1) := by decide +kernel
theorem dX7_errorPosition_27 : decode cX7_errorPosition 27 = .ok (.getfield 148, 3) := by decide +kernel
theorem dX7_errorPosition_30 : decode cX7_errorPosition 30 = .ok (.bipush (-6), 2) := by decide +kernel
theorem dX7_errorPosition_32 : decode cX7_errorPosition 32 = .ok (.if_icmp .ne 18, 3) := by decide +kernel
theorem dX7_errorPosition_35 : decode cX7_errorPosition 35 = .ok (.aload_n 0, 1) := by decide +kernel
theorem dX7_errorPosition_36 : decode cX7_errorPosition 36 = .ok (.getfield 145, 3) := by decide +kernel
theorem dX7_errorPosition_39 : decode cX7_errorPosition 39 = .ok (.aload_n 0, 1) := by decide +kernel
theorem dX7_errorPosition_40 : decode cX7_errorPosition 40 = .ok (.getfield 142, 3) := by decide +kernel
theorem dX7_errorPosition_43 : decode cX7_errorPosition 43 = .ok (.if_icmp .ge 7, 3) := by decide +kernel
theorem dX7_errorPosition_46 : decode cX7_errorPosition 46 = .ok (.iconst 1, 1) := by decide +kernel
theorem dX7_errorPosition_47 : decode cX7_errorPosition 47 = .ok (.goto 4, 3) := by decide +kernel
theorem dX7_errorPosition_50 : decode cX7_errorPosition 50 = .ok (.iconst 0, 1) := by decide +kernel
theorem dX7_errorPosition_51 : decode cX7_errorPosition 51 = .ok (.istore_n 1, 1) := by decide +kernel
theorem dX7_errorPosition_52 : decode cX7_errorPosition 52 = .ok (.iload_n 1, 1) := by decide +kernel
theorem dX7_errorPosition_53 : decode cX7_errorPosition 53 = .ok (.ifCond .eq (-35), 3) := by decide +kernel
theorem dX7_errorPosition_56 : decode cX7_errorPosition 56 = .ok (.aload_n 0, 1) := by decide +kernel
theorem dX7_errorPosition_57 : decode cX7_errorPosition 57 = .ok (.aload_n 0, 1) := by decide +kernel
theorem dX7_errorPosition_58 : decode cX7_errorPosition 58 = .ok (.invokevirtual 151, 3) := by decide +kernel
theorem dX7_errorPosition_61 : decode cX7_errorPosition 61 = .ok (.bipush 59, 2) := by decide +kernel
theorem dX7_errorPosition_63 : decode cX7_errorPosition 63 = .ok (.if_icmp .ne 7, 3) := by decide +kernel
theorem dX7_errorPosition_66 : decode cX7_errorPosition 66 = .ok (.iconst 1, 1) := by decide +kernel
theorem dX7_errorPosition_67 : decode cX7_errorPosition 67 = .ok (.goto 4, 3) := by decide +kernel
theorem dX7_errorPosition_70 : decode cX7_errorPosition 70 = .ok (.iconst 0, 1) := by decide +kernel
theorem dX7_errorPosition_71 : decode cX7_errorPosition 71 = .ok (.invokevirtual 155, 3) := by decide +kernel
theorem dX7_errorPosition_74 : decode cX7_errorPosition 74 = .ok (.aload_n 0, 1) := by decide +kernel
theorem dX7_errorPosition_75 : decode cX7_errorPosition 75 = .ok (.getfield 148, 3) := by decide +kernel
theorem dX7_errorPosition_78 : decode cX7_errorPosition 78 = .ok (.bipush (-6), 2) := by decide +kernel
theorem dX7_errorPosition_80 : decode cX7_errorPosition 80 = .ok (.if_icmp .ne 7, 3) := by decide +kernel
theorem dX7_errorPosition_83 : decode cX7_errorPosition 83 = .ok (.iconst 1, 1) := by decide +kernel
theorem dX7_errorPosition_84 : decode cX7_errorPosition 84 = .ok (.goto 4, 3) := by decide +kernel
theorem dX7_errorPosition_87 : decode cX7_errorPosition 87 = .ok (.iconst 0, 1) := by decide +kernel
theorem dX7_errorPosition_88 : decode cX7_errorPosition 88 = .ok (.istore_n 1, 1) := by decide +kernel
theorem dX7_errorPosition_89 : decode cX7_errorPosition 89 = .ok (.goto (-71), 3) := by decide +kernel
theorem dX7_errorPosition_92 : decode cX7_errorPosition 92 = .ok (.aload_n 0, 1) := by decide +kernel
theorem dX7_errorPosition_93 : decode cX7_errorPosition 93 = .ok (.getfield 148, 3) := by decide +kernel
theorem dX7_errorPosition_96 : decode cX7_errorPosition 96 = .ok (.ireturn, 1) := by decide +kernel
theorem dX7_executeOne_0 : decode cX7_executeOne 0 = .ok (.aload_n 0, 1) := by decide +kernel
theorem dX7_executeOne_1 : decode cX7_executeOne 1 = .ok (.getfield 23, 3) := by decide +kernel
theorem dX7_executeOne_4 : decode cX7_executeOne 4 = .ok (.iload_n 1, 1) := by decide +kernel
theorem dX7_executeOne_5 : decode cX7_executeOne 5 = .ok (.iconst 1, 1) := by decide +kernel
theorem dX7_executeOne_6 : decode cX7_executeOne 6 = .ok (.iadd, 1) := by decide +kernel
theorem dX7_executeOne_7 : decode cX7_executeOne 7 = .ok (.iaload, 1) := by decide +kernel
theorem dX7_executeOne_8 : decode cX7_executeOne 8 = .ok (.istore_n 2, 1) := by decide +kernel
theorem dX7_executeOne_9 : decode cX7_executeOne 9 = .ok (.aload_n 0, 1) := by decide +kernel
theorem dX7_executeOne_10 : decode cX7_executeOne 10 = .ok (.getfield 23, 3) := by decide +kernel
theorem dX7_executeOne_13 : decode cX7_executeOne 13 = .ok (.iload_n 1, 1) := by decide +kernel
theorem dX7_executeOne_14 : decode cX7_executeOne 14 = .ok (.iconst 2, 1) := by decide +kernel
theorem dX7_executeOne_15 : decode cX7_executeOne 15 = .ok (.iadd, 1) := by decide +kernel
theorem dX7_executeOne_16 : decode cX7_executeOne 16 = .ok (.iaload, 1) := by decide +kernel
theorem dX7_executeOne_17 : decode cX7_executeOne 17 = .ok (.istore_n 3, 1) := by decide +kernel
theorem dX7_executeOne_18 : decode cX7_executeOne 18 = .ok (.aload_n 0, 1) := by decide +kernel
theorem dX7_executeOne_19 : decode cX7_executeOne 19 = .ok (.getfield 23, 3) := by decide +kernel
theorem dX7_executeOne_22 : decode cX7_executeOne 22 = .ok (.iload_n 1, 1) := by decide +kernel
theorem dX7_executeOne_23 : decode cX7_executeOne 23 = .ok (.iconst 3, 1) := by decide +kernel
theorem dX7_executeOne_24 : decode cX7_executeOne 24 = .ok (.iadd, 1) := by decide +kernel
theorem dX7_executeOne_25 : decode cX7_executeOne 25 = .ok (.iaload, 1) := by decide +kernel
theorem dX7_executeOne_26 : decode cX7_executeOne 26 = .ok (.istore 4, 2) := by decide +kernel
theorem dX7_executeOne_28 : decode cX7_executeOne 28 = .ok (.iconst (-1), 1) := by decide +kernel
theorem dX7_executeOne_29 : decode cX7_executeOne 29 = .ok (.istore 5, 2) := by decide +kernel
theorem dX7_executeOne_31 : decode cX7_executeOne 31 = .ok (.aload_n 0, 1) := by decide +kernel
theorem dX7_executeOne_32 : decode cX7_executeOne 32 = .ok (.getfield 23, 3) := by decide +kernel
theorem dX7_executeOne_35 : decode cX7_executeOne 35 = .ok (.iload_n 1, 1) := by decide +kernel
theorem dX7_executeOne_36 : decode cX7_executeOne 36 = .ok (.iaload, 1) := by decide +kernel
theorem dX7_executeOne_37 : decode cX7_executeOne 37 = .ok (.lookupswitch 193 #[(104, 170), (109, 132), (114, 78), (116, 101), (119, 51)], 51) := by decide +kernel
theorem dX7_executeOne_88 : decode cX7_executeOne 88 = .ok (.aload_n 0, 1) := by decide +kernel
theorem dX7_executeOne_89 : decode cX7_executeOne 89 = .ok (.iload_n 2, 1) := by decide +kernel
theorem dX7_executeOne_90 : decode cX7_executeOne 90 = .ok (.iload_n 3, 1) := by decide +kernel
theorem dX7_executeOne_91 : decode cX7_executeOne 91 = .ok (.iload 4, 2) := by decide +kernel
theorem dX7_executeOne_93 : decode cX7_executeOne 93 = .ok (.invokevirtual 116, 3) := by decide +kernel
theorem dX7_executeOne_96 : decode cX7_executeOne 96 = .ok (.istore 5, 2) := by decide +kernel
theorem dX7_executeOne_98 : decode cX7_executeOne 98 = .ok (.iload 5, 2) := by decide +kernel
theorem dX7_executeOne_100 : decode cX7_executeOne 100 = .ok (.ifCond .ne 150, 3) := by decide +kernel
theorem dX7_executeOne_103 : decode cX7_executeOne 103 = .ok (.aload_n 0, 1) := by decide +kernel
theorem dX7_executeOne_104 : decode cX7_executeOne 104 = .ok (.iload_n 2, 1) := by decide +kernel
theorem dX7_executeOne_105 : decode cX7_executeOne 105 = .ok (.iload_n 3, 1) := by decide +kernel
theorem dX7_executeOne_106 : decode cX7_executeOne 106 = .ok (.iload 4, 2) := by decide +kernel
theorem dX7_executeOne_108 : decode cX7_executeOne 108 = .ok (.invokevirtual 120, 3) := by decide +kernel
theorem dX7_executeOne_111 : decode cX7_executeOne 111 = .ok (.pop, 1) := by decide +kernel
theorem dX7_executeOne_112 : decode cX7_executeOne 112 = .ok (.goto 138, 3) := by decide +kernel
theorem dX7_executeOne_115 : decode cX7_executeOne 115 = .ok (.aload_n 0, 1) := by decide +kernel
theorem dX7_executeOne_116 : decode cX7_executeOne 116 = .ok (.iload_n 2, 1) := by decide +kernel
theorem dX7_executeOne_117 : decode cX7_executeOne 117 = .ok (.iload_n 3, 1) := by decide +kernel
theorem dX7_executeOne_118 : decode cX7_executeOne 118 = .ok (.invokevirtual 136, 3) := by decide +kernel
theorem dX7_executeOne_121 : decode cX7_executeOne 121 = .ok (.istore 5, 2) := by decide +kernel
theorem dX7_executeOne_123 : decode cX7_executeOne 123 = .ok (.iload 5, 2) := by decide +kernel
theorem dX7_executeOne_125 : decode cX7_executeOne 125 = .ok (.ifCond .ne 125, 3) := by decide +kernel
theorem dX7_executeOne_128 : decode cX7_executeOne 128 = .ok (.aload_n 0, 1) := by decide +kernel
theorem dX7_executeOne_129 : decode cX7_executeOne 129 = .ok (.iload_n 2, 1) := by decide +kernel
theorem dX7_executeOne_130 : decode cX7_executeOne 130 = .ok (.iload_n 3, 1) := by decide +kernel
theorem dX7_executeOne_131 : decode cX7_executeOne 131 = .ok (.invokevirtual 139, 3) := by decide +kernel
theorem dX7_executeOne_134 : decode cX7_executeOne 134 = .ok (.pop, 1) := by decide +kernel
theorem dX7_executeOne_135 : decode cX7_executeOne 135 = .ok (.goto 115, 3) := by decide +kernel
theorem dX7_executeOne_138 : decode cX7_executeOne 138 = .ok (.iload_n 2, 1) := by decide +kernel
theorem dX7_executeOne_139 : decode cX7_executeOne 139 = .ok (.iconst 1, 1) := by decide +kernel
theorem dX7_executeOne_140 : decode cX7_executeOne 140 = .ok (.bipush 99, 2) := by decide +kernel
theorem dX7_executeOne_142 : decode cX7_executeOne 142 = .ok (.invokestatic 26, 3) := by decide +kernel
theorem dX7_executeOne_145 : decode cX7_executeOne 145 = .ok (.ifCond .eq 7, 3) := by decide +kernel
theorem dX7_executeOne_148 : decode cX7_executeOne 148 = .ok (.iconst 0, 1) := by decide +kernel
theorem dX7_executeOne_149 : decode cX7_executeOne 149 = .ok (.goto 5, 3) := by decide +kernel
theorem dX7_executeOne_152 : decode cX7_executeOne 152 = .ok (.bipush (-2), 2) := by decide +kernel
theorem dX7_executeOne_154 : decode cX7_executeOne 154 = .ok (.istore 5, 2) := by decide +kernel
theorem dX7_executeOne_156 : decode cX7_executeOne 156 = .ok (.iload 5, 2) := by decide +kernel
theorem dX7_executeOne_158 : decode cX7_executeOne 158 = .ok (.ifCond .ne 92, 3) := by decide +kernel
theorem dX7_executeOne_161 : decode cX7_executeOne 161 = .ok (.aload_n 0, 1) := by decide +kernel
theorem dX7_executeOne_162 : decode cX7_executeOne 162 = .ok (.iload_n 2, 1) := by decide +kernel
theorem dX7_executeOne_163 : decode cX7_executeOne 163 = .ok (.invokevirtual 78, 3) := by decide +kernel
theorem dX7_executeOne_166 : decode cX7_executeOne 166 = .ok (.goto 84, 3) := by decide +kernel
theorem dX7_executeOne_169 : decode cX7_executeOne 169 = .ok (.aload_n 0, 1) := by decide +kernel
theorem dX7_executeOne_170 : decode cX7_executeOne 170 = .ok (.iload_n 2, 1) := by decide +kernel
theorem dX7_executeOne_171 : decode cX7_executeOne 171 = .ok (.invokevirtual 94, 3) := by decide +kernel
theorem dX7_executeOne_174 : decode cX7_executeOne 174 = .ok (.ifCond .eq 15, 3) := by decide +kernel
theorem dX7_executeOne_177 : decode cX7_executeOne 177 = .ok (.aload_n 0, 1) := by decide +kernel
theorem dX7_executeOne_178 : decode cX7_executeOne 178 = .ok (.iload_n 3, 1) := by decide +kernel
theorem dX7_executeOne_179 : decode cX7_executeOne 179 = .ok (.invokevirtual 52, 3) := by decide +kernel
theorem dX7_executeOne_182 : decode cX7_executeOne 182 = .ok (.ifCond .eq 7, 3) := by decide +kernel
theorem dX7_executeOne_185 : decode cX7_executeOne 185 = .ok (.iconst 0, 1) := by decide +kernel
theorem dX7_executeOne_186 : decode cX7_executeOne 186 = .ok (.goto 4, 3) := by decide +kernel
theorem dX7_executeOne_189 : decode cX7_executeOne 189 = .ok (.iconst (-1), 1) := by decide +kernel
theorem dX7_executeOne_190 : decode cX7_executeOne 190 = .ok (.istore 5, 2) := by decide +kernel
theorem dX7_executeOne_192 : decode cX7_executeOne 192 = .ok (.iload 5, 2) := by decide +kernel
theorem dX7_executeOne_194 : decode cX7_executeOne 194 = .ok (.ifCond .ne 56, 3) := by decide +kernel
theorem dX7_executeOne_197 : decode cX7_executeOne 197 = .ok (.aload_n 0, 1) := by decide +kernel
theorem dX7_executeOne_198 : decode cX7_executeOne 198 = .ok (.iload_n 2, 1) := by decide +kernel
theorem dX7_executeOne_199 : decode cX7_executeOne 199 = .ok (.iload_n 3, 1) := by decide +kernel
theorem dX7_executeOne_200 : decode cX7_executeOne 200 = .ok (.invokevirtual 97, 3) := by decide +kernel
theorem dX7_executeOne_203 : decode cX7_executeOne 203 = .ok (.pop, 1) := by decide +kernel
theorem dX7_executeOne_204 : decode cX7_executeOne 204 = .ok (.goto 46, 3) := by decide +kernel
theorem dX7_executeOne_207 : decode cX7_executeOne 207 = .ok (.aload_n 0, 1) := by decide +kernel
theorem dX7_executeOne_208 : decode cX7_executeOne 208 = .ok (.iload_n 2, 1) := by decide +kernel
theorem dX7_executeOne_209 : decode cX7_executeOne 209 = .ok (.iload_n 3, 1) := by decide +kernel
theorem dX7_executeOne_210 : decode cX7_executeOne 210 = .ok (.invokevirtual 103, 3) := by decide +kernel
theorem dX7_executeOne_213 : decode cX7_executeOne 213 = .ok (.istore 5, 2) := by decide +kernel
theorem dX7_executeOne_215 : decode cX7_executeOne 215 = .ok (.iload 5, 2) := by decide +kernel
theorem dX7_executeOne_217 : decode cX7_executeOne 217 = .ok (.ifCond .ne 33, 3) := by decide +kernel
theorem dX7_executeOne_220 : decode cX7_executeOne 220 = .ok (.aload_n 0, 1) := by decide +kernel
theorem dX7_executeOne_221 : decode cX7_executeOne 221 = .ok (.iload_n 2, 1) := by decide +kernel
theorem dX7_executeOne_222 : decode cX7_executeOne 222 = .ok (.iload_n 3, 1) := by decide +kernel
theorem dX7_executeOne_223 : decode cX7_executeOne 223 = .ok (.invokevirtual 106, 3) := by decide +kernel
theorem dX7_executeOne_226 : decode cX7_executeOne 226 = .ok (.pop, 1) := by decide +kernel
theorem dX7_executeOne_227 : decode cX7_executeOne 227 = .ok (.goto 23, 3) := by decide +kernel
theorem dX7_executeOne_230 : decode cX7_executeOne 230 = .ok (.aload_n 0, 1) := by decide +kernel
theorem dX7_executeOne_231 : decode cX7_executeOne 231 = .ok (.iload_n 2, 1) := by decide +kernel
theorem dX7_executeOne_232 : decode cX7_executeOne 232 = .ok (.iload_n 3, 1) := by decide +kernel
theorem dX7_executeOne_233 : decode cX7_executeOne 233 = .ok (.invokevirtual 69, 3) := by decide +kernel
theorem dX7_executeOne_236 : decode cX7_executeOne 236 = .ok (.istore 5, 2) := by decide +kernel
theorem dX7_executeOne_238 : decode cX7_executeOne 238 = .ok (.iload 5, 2) := by decide +kernel
theorem dX7_executeOne_240 : decode cX7_executeOne 240 = .ok (.ifCond .ne 10, 3) := by decide +kernel
theorem dX7_executeOne_243 : decode cX7_executeOne 243 = .ok (.aload_n 0, 1) := by decide +kernel
theorem dX7_executeOne_244 : decode cX7_executeOne 244 = .ok (.iload_n 2, 1) := by decide +kernel
theorem dX7_executeOne_245 : decode cX7_executeOne 245 = .ok (.iload_n 3, 1) := by decide +kernel
theorem dX7_executeOne_246 : decode cX7_executeOne 246 = .ok (.invokevirtual 72, 3) := by decide +kernel
theorem dX7_executeOne_249 : decode cX7_executeOne 249 = .ok (.pop, 1) := by decide +kernel
theorem dX7_executeOne_250 : decode cX7_executeOne 250 = .ok (.iload 5, 2) := by decide +kernel
theorem dX7_executeOne_252 : decode cX7_executeOne 252 = .ok (.ireturn, 1) := by decide +kernel
theorem dX7_execute_0 : decode cX7_execute 0 = .ok (.aload_n 0, 1) := by decide +kernel
theorem dX7_execute_1 : decode cX7_execute 1 = .ok (.invokevirtual 174, 3) := by decide +kernel
theorem dX7_execute_4 : decode cX7_execute 4 = .ok (.bipush (-6), 2) := by decide +kernel
theorem dX7_execute_6 : decode cX7_execute 6 = .ok (.if_icmp .eq 6, 3) := by decide +kernel
theorem dX7_execute_9 : decode cX7_execute 9 = .ok (.bipush (-5), 2) := by decide +kernel
theorem dX7_execute_11 : decode cX7_execute 11 = .ok (.ireturn, 1) := by decide +kernel
theorem dX7_execute_12 : decode cX7_execute 12 = .ok (.aload_n 0, 1) := by decide +kernel
theorem dX7_execute_13 : decode cX7_execute 13 = .ok (.invokevirtual 49, 3) := by decide +kernel
theorem dX7_execute_16 : decode cX7_execute 16 = .ok (.iconst 0, 1) := by decide +kernel
theorem dX7_execute_17 : decode cX7_execute 17 = .ok (.istore_n 1, 1) := by decide +kernel
theorem dX7_execute_18 : decode cX7_execute 18 = .ok (.iload_n 1, 1) := by decide +kernel
theorem dX7_execute_19 : decode cX7_execute 19 = .ok (.aload_n 0, 1) := by decide +kernel
theorem dX7_execute_20 : decode cX7_execute 20 = .ok (.getfield 162, 3) := by decide +kernel
theorem dX7_execute_23 : decode cX7_execute 23 = .ok (.if_icmp .ge 19, 3) := by decide +kernel
theorem dX7_execute_26 : decode cX7_execute 26 = .ok (.aload_n 0, 1) := by decide +kernel
theorem dX7_execute_27 : decode cX7_execute 27 = .ok (.iconst 4, 1) := by decide +kernel
theorem dX7_execute_28 : decode cX7_execute 28 = .ok (.iload_n 1, 1) := by decide +kernel
theorem dX7_execute_29 : decode cX7_execute 29 = .ok (.imul, 1) := by decide +kernel
theorem dX7_execute_30 : decode cX7_execute 30 = .ok (.invokevirtual 177, 3) := by decide +kernel
theorem dX7_execute_33 : decode cX7_execute 33 = .ok (.ifCond .ne 9, 3) := by decide +kernel
theorem dX7_execute_36 : decode cX7_execute 36 = .ok (.iinc 1 1, 3) := by decide +kernel
theorem dX7_execute_39 : decode cX7_execute 39 = .ok (.goto (-21), 3) := by decide +kernel
theorem dX7_execute_42 : decode cX7_execute 42 = .ok (.aload_n 0, 1) := by decide +kernel
theorem dX7_execute_43 : decode cX7_execute 43 = .ok (.iconst 0, 1) := by decide +kernel
theorem dX7_execute_44 : decode cX7_execute 44 = .ok (.putfield 142, 3) := by decide +kernel
theorem dX7_execute_47 : decode cX7_execute 47 = .ok (.iload_n 1, 1) := by decide +kernel
theorem dX7_execute_48 : decode cX7_execute 48 = .ok (.ireturn, 1) := by decide +kernel
