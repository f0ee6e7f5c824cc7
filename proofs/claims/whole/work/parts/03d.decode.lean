theorem dX10_init_0 : decode cX10_init 0 = .ok (.aload_n 0, 1) := by decide +kernel
theorem dX10_init_1 : decode cX10_init 1 = .ok (.invokespecial 3, 3) := by decide +kernel
theorem dX10_init_4 : decode cX10_init 4 = .ok (.aload_n 0, 1) := by decide +kernel
theorem dX10_init_5 : decode cX10_init 5 = .ok (.new 9, 3) := by decide +kernel
theorem dX10_init_8 : decode cX10_init 8 = .ok (.dup, 1) := by decide +kernel
theorem dX10_init_9 : decode cX10_init 9 = .ok (.invokespecial 11, 3) := by decide +kernel
theorem dX10_init_12 : decode cX10_init 12 = .ok (.putfield 12, 3) := by decide +kernel
theorem dX10_init_15 : decode cX10_init 15 = .ok (.aload_n 0, 1) := by decide +kernel
theorem dX10_init_16 : decode cX10_init 16 = .ok (.iconst 2, 1) := by decide +kernel
theorem dX10_init_17 : decode cX10_init 17 = .ok (.anewarray 9, 3) := by decide +kernel
theorem dX10_init_20 : decode cX10_init 20 = .ok (.dup, 1) := by decide +kernel
theorem dX10_init_21 : decode cX10_init 21 = .ok (.iconst 0, 1) := by decide +kernel
theorem dX10_init_22 : decode cX10_init 22 = .ok (.new 9, 3) := by decide +kernel
theorem dX10_init_25 : decode cX10_init 25 = .ok (.dup, 1) := by decide +kernel
theorem dX10_init_26 : decode cX10_init 26 = .ok (.invokespecial 11, 3) := by decide +kernel
theorem dX10_init_29 : decode cX10_init 29 = .ok (.aastore, 1) := by decide +kernel
theorem dX10_init_30 : decode cX10_init 30 = .ok (.dup, 1) := by decide +kernel
theorem dX10_init_31 : decode cX10_init 31 = .ok (.iconst 1, 1) := by decide +kernel
theorem dX10_init_32 : decode cX10_init 32 = .ok (.new 9, 3) := by decide +kernel
theorem dX10_init_35 : decode cX10_init 35 = .ok (.dup, 1) := by decide +kernel
theorem dX10_init_36 : decode cX10_init 36 = .ok (.invokespecial 11, 3) := by decide +kernel
theorem dX10_init_39 : decode cX10_init 39 = .ok (.aastore, 1) := by decide +kernel
theorem dX10_init_40 : decode cX10_init 40 = .ok (.putfield 16, 3) := by decide +kernel
theorem dX10_init_43 : decode cX10_init 43 = .ok (.aload_n 0, 1) := by decide +kernel
theorem dX10_init_44 : decode cX10_init 44 = .ok (.iconst 4, 1) := by decide +kernel
theorem dX10_init_45 : decode cX10_init 45 = .ok (.anewarray 20, 3) := by decide +kernel
theorem dX10_init_48 : decode cX10_init 48 = .ok (.dup, 1) := by decide +kernel
theorem dX10_init_49 : decode cX10_init 49 = .ok (.iconst 0, 1) := by decide +kernel
theorem dX10_init_50 : decode cX10_init 50 = .ok (.new 20, 3) := by decide +kernel
theorem dX10_init_53 : decode cX10_init 53 = .ok (.dup, 1) := by decide +kernel
theorem dX10_init_54 : decode cX10_init 54 = .ok (.invokespecial 22, 3) := by decide +kernel
theorem dX10_init_57 : decode cX10_init 57 = .ok (.aastore, 1) := by decide +kernel
theorem dX10_init_58 : decode cX10_init 58 = .ok (.dup, 1) := by decide +kernel
theorem dX10_init_59 : decode cX10_init 59 = .ok (.iconst 1, 1) := by decide +kernel
theorem dX10_init_60 : decode cX10_init 60 = .ok (.new 20, 3) := by decide +kernel
theorem dX10_init_63 : decode cX10_init 63 = .ok (.dup, 1) := by decide +kernel
theorem dX10_init_64 : decode cX10_init 64 = .ok (.invokespecial 22, 3) := by decide +kernel
theorem dX10_init_67 : decode cX10_init 67 = .ok (.aastore, 1) := by decide +kernel
theorem dX10_init_68 : decode cX10_init 68 = .ok (.dup, 1) := by decide +kernel
theorem dX10_init_69 : decode cX10_init 69 = .ok (.iconst 2, 1) := by decide +kernel
theorem dX10_init_70 : decode cX10_init 70 = .ok (.new 20, 3) := by decide +kernel
theorem dX10_init_73 : decode cX10_init 73 = .ok (.dup, 1) := by decide +kernel
theorem dX10_init_74 : decode cX10_init 74 = .ok (.invokespecial 22, 3) := by decide +kernel
theorem dX10_init_77 : decode cX10_init 77 = .ok (.aastore, 1) := by decide +kernel
theorem dX10_init_78 : decode cX10_init 78 = .ok (.dup, 1) := by decide +kernel
theorem dX10_init_79 : decode cX10_init 79 = .ok (.iconst 3, 1) := by decide +kernel
theorem dX10_init_80 : decode cX10_init 80 = .ok (.new 20, 3) := by decide +kernel
theorem dX10_init_83 : decode cX10_init 83 = .ok (.dup, 1) := by decide +kernel
theorem dX10_init_84 : decode cX10_init 84 = .ok (.invokespecial 22, 3) := by decide +kernel
theorem dX10_init_87 : decode cX10_init 87 = .ok (.aastore, 1) := by decide +kernel
theorem dX10_init_88 : decode cX10_init 88 = .ok (.putfield 23, 3) := by decide +kernel
theorem dX10_init_91 : decode cX10_init 91 = .ok (.aload_n 0, 1) := by decide +kernel
theorem dX10_init_92 : decode cX10_init 92 = .ok (.new 27, 3) := by decide +kernel
theorem dX10_init_95 : decode cX10_init 95 = .ok (.dup, 1) := by decide +kernel
theorem dX10_init_96 : decode cX10_init 96 = .ok (.invokespecial 29, 3) := by decide +kernel
theorem dX10_init_99 : decode cX10_init 99 = .ok (.putfield 30, 3) := by decide +kernel
theorem dX10_init_102 : decode cX10_init 102 = .ok (.aload_n 0, 1) := by decide +kernel
theorem dX10_init_103 : decode cX10_init 103 = .ok (.new 34, 3) := by decide +kernel
theorem dX10_init_106 : decode cX10_init 106 = .ok (.dup, 1) := by decide +kernel
theorem dX10_init_107 : decode cX10_init 107 = .ok (.invokespecial 36, 3) := by decide +kernel
theorem dX10_init_110 : decode cX10_init 110 = .ok (.putfield 37, 3) := by decide +kernel
theorem dX10_init_113 : decode cX10_init 113 = .ok (.aload_n 0, 1) := by decide +kernel
theorem dX10_init_114 : decode cX10_init 114 = .ok (.new 41, 3) := by decide +kernel
theorem dX10_init_117 : decode cX10_init 117 = .ok (.dup, 1) := by decide +kernel
theorem dX10_init_118 : decode cX10_init 118 = .ok (.invokespecial 43, 3) := by decide +kernel
theorem dX10_init_121 : decode cX10_init 121 = .ok (.putfield 44, 3) := by decide +kernel
theorem dX10_init_124 : decode cX10_init 124 = .ok (.aload_n 0, 1) := by decide +kernel
theorem dX10_init_125 : decode cX10_init 125 = .ok (.new 48, 3) := by decide +kernel
theorem dX10_init_128 : decode cX10_init 128 = .ok (.dup, 1) := by decide +kernel
theorem dX10_init_129 : decode cX10_init 129 = .ok (.aload_n 0, 1) := by decide +kernel
theorem dX10_init_130 : decode cX10_init 130 = .ok (.getfield 44, 3) := by decide +kernel
theorem dX10_init_133 : decode cX10_init 133 = .ok (.invokespecial 50, 3) := by decide +kernel
theorem dX10_init_136 : decode cX10_init 136 = .ok (.putfield 53, 3) := by decide +kernel
theorem dX10_init_139 : decode cX10_init 139 = .ok (.aload_n 0, 1) := by decide +kernel
theorem dX10_init_140 : decode cX10_init 140 = .ok (.new 57, 3) := by decide +kernel
theorem dX10_init_143 : decode cX10_init 143 = .ok (.dup, 1) := by decide +kernel
theorem dX10_init_144 : decode cX10_init 144 = .ok (.invokespecial 59, 3) := by decide +kernel
theorem dX10_init_147 : decode cX10_init 147 = .ok (.putfield 60, 3) := by decide +kernel
theorem dX10_init_150 : decode cX10_init 150 = .ok (.aload_n 0, 1) := by decide +kernel
theorem dX10_init_151 : decode cX10_init 151 = .ok (.new 64, 3) := by decide +kernel
theorem dX10_init_154 : decode cX10_init 154 = .ok (.dup, 1) := by decide +kernel
theorem dX10_init_155 : decode cX10_init 155 = .ok (.invokespecial 66, 3) := by decide +kernel
theorem dX10_init_158 : decode cX10_init 158 = .ok (.putfield 67, 3) := by decide +kernel
theorem dX10_init_161 : decode cX10_init 161 = .ok (.aload_n 0, 1) := by decide +kernel
theorem dX10_init_162 : decode cX10_init 162 = .ok (.bipush 20, 2) := by decide +kernel
theorem dX10_init_164 : decode cX10_init 164 = .ok (.newarray .int, 2) := by decide +kernel
theorem dX10_init_166 : decode cX10_init 166 = .ok (.putfield 71, 3) := by decide +kernel
theorem dX10_init_169 : decode cX10_init 169 = .ok (.aload_n 0, 1) := by decide +kernel
theorem dX10_init_170 : decode cX10_init 170 = .ok (.bipush 64, 2) := by decide +kernel
theorem dX10_init_172 : decode cX10_init 172 = .ok (.newarray .int, 2) := by decide +kernel
theorem dX10_init_174 : decode cX10_init 174 = .ok (.putfield 75, 3) := by decide +kernel
theorem dX10_init_177 : decode cX10_init 177 = .ok (.aload_n 0, 1) := by decide +kernel
theorem dX10_init_178 : decode cX10_init 178 = .ok (.iconst 0, 1) := by decide +kernel
theorem dX10_init_179 : decode cX10_init 179 = .ok (.putfield 78, 3) := by decide +kernel
theorem dX10_init_182 : decode cX10_init 182 = .ok (.return_, 1) := by decide +kernel
theorem dX10_feed_0 : decode cX10_feed 0 = .ok (.aload_n 0, 1) := by decide +kernel
theorem dX10_feed_1 : decode cX10_feed 1 = .ok (.getfield 30, 3) := by decide +kernel
theorem dX10_feed_4 : decode cX10_feed 4 = .ok (.lload_n 1, 1) := by decide +kernel
theorem dX10_feed_5 : decode cX10_feed 5 = .ok (.invokevirtual 82, 3) := by decide +kernel
theorem dX10_feed_8 : decode cX10_feed 8 = .ok (.ifCond .eq 13, 3) := by decide +kernel
theorem dX10_feed_11 : decode cX10_feed 11 = .ok (.aload_n 0, 1) := by decide +kernel
theorem dX10_feed_12 : decode cX10_feed 12 = .ok (.getfield 30, 3) := by decide +kernel
theorem dX10_feed_15 : decode cX10_feed 15 = .ok (.getfield 86, 3) := by decide +kernel
theorem dX10_feed_18 : decode cX10_feed 18 = .ok (.goto 5, 3) := by decide +kernel
theorem dX10_feed_21 : decode cX10_feed 21 = .ok (.bipush (-3), 2) := by decide +kernel
theorem dX10_feed_23 : decode cX10_feed 23 = .ok (.ireturn, 1) := by decide +kernel
theorem dX10_end_0 : decode cX10_end 0 = .ok (.aload_n 0, 1) := by decide +kernel
theorem dX10_end_1 : decode cX10_end 1 = .ok (.getfield 30, 3) := by decide +kernel
theorem dX10_end_4 : decode cX10_end 4 = .ok (.getfield 86, 3) := by decide +kernel
theorem dX10_end_7 : decode cX10_end 7 = .ok (.istore_n 2, 1) := by decide +kernel
theorem dX10_end_8 : decode cX10_end 8 = .ok (.iload_n 1, 1) := by decide +kernel
theorem dX10_end_9 : decode cX10_end 9 = .ok (.iconst 0, 1) := by decide +kernel
theorem dX10_end_10 : decode cX10_end 10 = .ok (.iload_n 2, 1) := by decide +kernel
theorem dX10_end_11 : decode cX10_end 11 = .ok (.invokestatic 89, 3) := by decide +kernel
theorem dX10_end_14 : decode cX10_end 14 = .ok (.ifCond .ne 5, 3) := by decide +kernel
theorem dX10_end_17 : decode cX10_end 17 = .ok (.iconst (-1), 1) := by decide +kernel
theorem dX10_end_18 : decode cX10_end 18 = .ok (.ireturn, 1) := by decide +kernel
theorem dX10_end_19 : decode cX10_end 19 = .ok (.aload_n 0, 1) := by decide +kernel
theorem dX10_end_20 : decode cX10_end 20 = .ok (.getfield 30, 3) := by decide +kernel
theorem dX10_end_23 : decode cX10_end 23 = .ok (.iload_n 1, 1) := by decide +kernel
theorem dX10_end_24 : decode cX10_end 24 = .ok (.putfield 86, 3) := by decide +kernel
theorem dX10_end_27 : decode cX10_end 27 = .ok (.iload_n 2, 1) := by decide +kernel
theorem dX10_end_28 : decode cX10_end 28 = .ok (.ireturn, 1) := by decide +kernel
theorem dX10_road_0 : decode cX10_road 0 = .ok (.aload_n 0, 1) := by decide +kernel
theorem dX10_road_1 : decode cX10_road 1 = .ok (.getfield 30, 3) := by decide +kernel
theorem dX10_road_4 : decode cX10_road 4 = .ok (.aload_n 0, 1) := by decide +kernel
theorem dX10_road_5 : decode cX10_road 5 = .ok (.getfield 37, 3) := by decide +kernel
theorem dX10_road_8 : decode cX10_road 8 = .ok (.invokevirtual 93, 3) := by decide +kernel
theorem dX10_road_11 : decode cX10_road 11 = .ok (.istore_n 1, 1) := by decide +kernel
theorem dX10_road_12 : decode cX10_road 12 = .ok (.iload_n 1, 1) := by decide +kernel
theorem dX10_road_13 : decode cX10_road 13 = .ok (.ifCond .lt 17, 3) := by decide +kernel
theorem dX10_road_16 : decode cX10_road 16 = .ok (.aload_n 0, 1) := by decide +kernel
theorem dX10_road_17 : decode cX10_road 17 = .ok (.getfield 12, 3) := by decide +kernel
theorem dX10_road_20 : decode cX10_road 20 = .ok (.getfield 97, 3) := by decide +kernel
theorem dX10_road_23 : decode cX10_road 23 = .ok (.aload_n 0, 1) := by decide +kernel
theorem dX10_road_24 : decode cX10_road 24 = .ok (.getfield 37, 3) := by decide +kernel
theorem dX10_road_27 : decode cX10_road 27 = .ok (.invokevirtual 100, 3) := by decide +kernel
theorem dX10_road_30 : decode cX10_road 30 = .ok (.iload_n 1, 1) := by decide +kernel
theorem dX10_road_31 : decode cX10_road 31 = .ok (.ireturn, 1) := by decide +kernel
theorem dX10_fault_0 : decode cX10_fault 0 = .ok (.aload_n 0, 1) := by decide +kernel
theorem dX10_fault_1 : decode cX10_fault 1 = .ok (.getfield 30, 3) := by decide +kernel
theorem dX10_fault_4 : decode cX10_fault 4 = .ok (.getfield 104, 3) := by decide +kernel
theorem dX10_fault_7 : decode cX10_fault 7 = .ok (.ireturn, 1) := by decide +kernel
theorem dX10_rule_0 : decode cX10_rule 0 = .ok (.iload_n 1, 1) := by decide +kernel
theorem dX10_rule_1 : decode cX10_rule 1 = .ok (.iconst 0, 1) := by decide +kernel
theorem dX10_rule_2 : decode cX10_rule 2 = .ok (.bipush 9, 2) := by decide +kernel
theorem dX10_rule_4 : decode cX10_rule 4 = .ok (.invokestatic 89, 3) := by decide +kernel
theorem dX10_rule_7 : decode cX10_rule 7 = .ok (.ifCond .eq 18, 3) := by decide +kernel
theorem dX10_rule_10 : decode cX10_rule 10 = .ok (.aload_n 0, 1) := by decide +kernel
theorem dX10_rule_11 : decode cX10_rule 11 = .ok (.getfield 12, 3) := by decide +kernel
theorem dX10_rule_14 : decode cX10_rule 14 = .ok (.getfield 97, 3) := by decide +kernel
theorem dX10_rule_17 : decode cX10_rule 17 = .ok (.getfield 107, 3) := by decide +kernel
theorem dX10_rule_20 : decode cX10_rule 20 = .ok (.iload_n 1, 1) := by decide +kernel
theorem dX10_rule_21 : decode cX10_rule 21 = .ok (.iaload, 1) := by decide +kernel
theorem dX10_rule_22 : decode cX10_rule 22 = .ok (.goto 6, 3) := by decide +kernel
theorem dX10_rule_25 : decode cX10_rule 25 = .ok (.sipush (-1000), 3) := by decide +kernel
theorem dX10_rule_28 : decode cX10_rule 28 = .ok (.ireturn, 1) := by decide +kernel
theorem dX10_mixed_0 : decode cX10_mixed 0 = .ok (.iload_n 1, 1) := by decide +kernel
theorem dX10_mixed_1 : decode cX10_mixed 1 = .ok (.invokestatic 110, 3) := by decide +kernel
theorem dX10_mixed_4 : decode cX10_mixed 4 = .ok (.ifCond .eq 15, 3) := by decide +kernel
theorem dX10_mixed_7 : decode cX10_mixed 7 = .ok (.iload_n 2, 1) := by decide +kernel
theorem dX10_mixed_8 : decode cX10_mixed 8 = .ok (.invokestatic 110, 3) := by decide +kernel
theorem dX10_mixed_11 : decode cX10_mixed 11 = .ok (.ifCond .eq 8, 3) := by decide +kernel
theorem dX10_mixed_14 : decode cX10_mixed 14 = .ok (.iload_n 1, 1) := by decide +kernel
theorem dX10_mixed_15 : decode cX10_mixed 15 = .ok (.iload_n 2, 1) := by decide +kernel
theorem dX10_mixed_16 : decode cX10_mixed 16 = .ok (.if_icmp .ne 5, 3) := by decide +kernel
theorem dX10_mixed_19 : decode cX10_mixed 19 = .ok (.iconst (-1), 1) := by decide +kernel
theorem dX10_mixed_20 : decode cX10_mixed 20 = .ok (.ireturn, 1) := by decide +kernel
theorem dX10_mixed_21 : decode cX10_mixed 21 = .ok (.aload_n 0, 1) := by decide +kernel
theorem dX10_mixed_22 : decode cX10_mixed 22 = .ok (.getfield 12, 3) := by decide +kernel
theorem dX10_mixed_25 : decode cX10_mixed 25 = .ok (.getfield 97, 3) := by decide +kernel
theorem dX10_mixed_28 : decode cX10_mixed 28 = .ok (.getfield 114, 3) := by decide +kernel
theorem dX10_mixed_31 : decode cX10_mixed 31 = .ok (.iload_n 1, 1) := by decide +kernel
theorem dX10_mixed_32 : decode cX10_mixed 32 = .ok (.bipush 8, 2) := by decide +kernel
theorem dX10_mixed_34 : decode cX10_mixed 34 = .ok (.imul, 1) := by decide +kernel
theorem dX10_mixed_35 : decode cX10_mixed 35 = .ok (.iload_n 2, 1) := by decide +kernel
theorem dX10_mixed_36 : decode cX10_mixed 36 = .ok (.iadd, 1) := by decide +kernel
theorem dX10_mixed_37 : decode cX10_mixed 37 = .ok (.iaload, 1) := by decide +kernel
theorem dX10_mixed_38 : decode cX10_mixed 38 = .ok (.ireturn, 1) := by decide +kernel
theorem dX10_setClock_0 : decode cX10_setClock 0 = .ok (.iload_n 1, 1) := by decide +kernel
theorem dX10_setClock_1 : decode cX10_setClock 1 = .ok (.bipush (-99), 2) := by decide +kernel
theorem dX10_setClock_3 : decode cX10_setClock 3 = .ok (.bipush 99, 2) := by decide +kernel
theorem dX10_setClock_5 : decode cX10_setClock 5 = .ok (.invokestatic 89, 3) := by decide +kernel
theorem dX10_setClock_8 : decode cX10_setClock 8 = .ok (.ifCond .ne 7, 3) := by decide +kernel
theorem dX10_setClock_11 : decode cX10_setClock 11 = .ok (.sipush (-1000), 3) := by decide +kernel
theorem dX10_setClock_14 : decode cX10_setClock 14 = .ok (.ireturn, 1) := by decide +kernel
theorem dX10_setClock_15 : decode cX10_setClock 15 = .ok (.aload_n 0, 1) := by decide +kernel
theorem dX10_setClock_16 : decode cX10_setClock 16 = .ok (.getfield 12, 3) := by decide +kernel
theorem dX10_setClock_19 : decode cX10_setClock 19 = .ok (.getfield 97, 3) := by decide +kernel
theorem dX10_setClock_22 : decode cX10_setClock 22 = .ok (.getfield 107, 3) := by decide +kernel
theorem dX10_setClock_25 : decode cX10_setClock 25 = .ok (.bipush 9, 2) := by decide +kernel
theorem dX10_setClock_27 : decode cX10_setClock 27 = .ok (.iaload, 1) := by decide +kernel
theorem dX10_setClock_28 : decode cX10_setClock 28 = .ok (.istore_n 2, 1) := by decide +kernel
theorem dX10_setClock_29 : decode cX10_setClock 29 = .ok (.aload_n 0, 1) := by decide +kernel
theorem dX10_setClock_30 : decode cX10_setClock 30 = .ok (.getfield 12, 3) := by decide +kernel
theorem dX10_setClock_33 : decode cX10_setClock 33 = .ok (.getfield 97, 3) := by decide +kernel
theorem dX10_setClock_36 : decode cX10_setClock 36 = .ok (.getfield 107, 3) := by decide +kernel
theorem dX10_setClock_39 : decode cX10_setClock 39 = .ok (.bipush 9, 2) := by decide +kernel
theorem dX10_setClock_41 : decode cX10_setClock 41 = .ok (.iload_n 1, 1) := by decide +kernel
theorem dX10_setClock_42 : decode cX10_setClock 42 = .ok (.iastore, 1) := by decide +kernel
theorem dX10_setClock_43 : decode cX10_setClock 43 = .ok (.iload_n 2, 1) := by decide +kernel
theorem dX10_setClock_44 : decode cX10_setClock 44 = .ok (.ireturn, 1) := by decide +kernel
theorem dX10_line_0 : decode cX10_line 0 = .ok (.iload_n 1, 1) := by decide +kernel
theorem dX10_line_1 : decode cX10_line 1 = .ok (.invokestatic 117, 3) := by decide +kernel
theorem dX10_line_4 : decode cX10_line 4 = .ok (.ifCond .eq 35, 3) := by decide +kernel
theorem dX10_line_7 : decode cX10_line 7 = .ok (.iload_n 2, 1) := by decide +kernel
theorem dX10_line_8 : decode cX10_line 8 = .ok (.iconst 0, 1) := by decide +kernel
theorem dX10_line_9 : decode cX10_line 9 = .ok (.sipush 999, 3) := by decide +kernel
theorem dX10_line_12 : decode cX10_line 12 = .ok (.invokestatic 89, 3) := by decide +kernel
theorem dX10_line_15 : decode cX10_line 15 = .ok (.ifCond .eq 24, 3) := by decide +kernel
theorem dX10_line_18 : decode cX10_line 18 = .ok (.iload_n 3, 1) := by decide +kernel
theorem dX10_line_19 : decode cX10_line 19 = .ok (.iconst 0, 1) := by decide +kernel
theorem dX10_line_20 : decode cX10_line 20 = .ok (.ldc 120, 2) := by decide +kernel
theorem dX10_line_22 : decode cX10_line 22 = .ok (.invokestatic 89, 3) := by decide +kernel
theorem dX10_line_25 : decode cX10_line 25 = .ok (.ifCond .eq 14, 3) := by decide +kernel
theorem dX10_line_28 : decode cX10_line 28 = .ok (.iload 4, 2) := by decide +kernel
theorem dX10_line_30 : decode cX10_line 30 = .ok (.iconst 0, 1) := by decide +kernel
theorem dX10_line_31 : decode cX10_line 31 = .ok (.bipush 6, 2) := by decide +kernel
theorem dX10_line_33 : decode cX10_line 33 = .ok (.invokestatic 89, 3) := by decide +kernel
theorem dX10_line_36 : decode cX10_line 36 = .ok (.ifCond .ne 5, 3) := by decide +kernel
theorem dX10_line_39 : decode cX10_line 39 = .ok (.iconst (-1), 1) := by decide +kernel
theorem dX10_line_40 : decode cX10_line 40 = .ok (.ireturn, 1) := by decide +kernel
theorem dX10_line_41 : decode cX10_line 41 = .ok (.aload_n 0, 1) := by decide +kernel
theorem dX10_line_42 : decode cX10_line 42 = .ok (.iload_n 1, 1) := by decide +kernel
theorem dX10_line_43 : decode cX10_line 43 = .ok (.invokevirtual 121, 3) := by decide +kernel
theorem dX10_line_46 : decode cX10_line 46 = .ok (.astore 5, 2) := by decide +kernel
theorem dX10_line_48 : decode cX10_line 48 = .ok (.aload 5, 2) := by decide +kernel
theorem dX10_line_50 : decode cX10_line 50 = .ok (.getfield 125, 3) := by decide +kernel
theorem dX10_line_53 : decode cX10_line 53 = .ok (.bipush 10, 2) := by decide +kernel
theorem dX10_line_55 : decode cX10_line 55 = .ok (.if_icmp .lt 6, 3) := by decide +kernel
theorem dX10_line_58 : decode cX10_line 58 = .ok (.bipush (-3), 2) := by decide +kernel
theorem dX10_line_60 : decode cX10_line 60 = .ok (.ireturn, 1) := by decide +kernel
theorem dX10_line_61 : decode cX10_line 61 = .ok (.aload 5, 2) := by decide +kernel
theorem dX10_line_63 : decode cX10_line 63 = .ok (.iload_n 2, 1) := by decide +kernel
theorem dX10_line_64 : decode cX10_line 64 = .ok (.iload 4, 2) := by decide +kernel
theorem dX10_line_66 : decode cX10_line 66 = .ok (.invokevirtual 130, 3) := by decide +kernel
theorem dX10_line_69 : decode cX10_line 69 = .ok (.istore 6, 2) := by decide +kernel
theorem dX10_line_71 : decode cX10_line 71 = .ok (.aload 5, 2) := by decide +kernel
theorem dX10_line_73 : decode cX10_line 73 = .ok (.iload 6, 2) := by decide +kernel
theorem dX10_line_75 : decode cX10_line 75 = .ok (.iload_n 3, 1) := by decide +kernel
theorem dX10_line_76 : decode cX10_line 76 = .ok (.invokevirtual 133, 3) := by decide +kernel
theorem dX10_line_79 : decode cX10_line 79 = .ok (.iload 6, 2) := by decide +kernel
theorem dX10_line_81 : decode cX10_line 81 = .ok (.ireturn, 1) := by decide +kernel
theorem dX10_drop_0 : decode cX10_drop 0 = .ok (.aload_n 0, 1) := by decide +kernel
theorem dX10_drop_1 : decode cX10_drop 1 = .ok (.iload_n 1, 1) := by decide +kernel
theorem dX10_drop_2 : decode cX10_drop 2 = .ok (.iload_n 2, 1) := by decide +kernel
theorem dX10_drop_3 : decode cX10_drop 3 = .ok (.invokevirtual 137, 3) := by decide +kernel
theorem dX10_drop_6 : decode cX10_drop 6 = .ok (.ifCond .ne 5, 3) := by decide +kernel
theorem dX10_drop_9 : decode cX10_drop 9 = .ok (.iconst (-1), 1) := by decide +kernel
theorem dX10_drop_10 : decode cX10_drop 10 = .ok (.ireturn, 1) := by decide +kernel
theorem dX10_drop_11 : decode cX10_drop 11 = .ok (.aload_n 0, 1) := by decide +kernel
theorem dX10_drop_12 : decode cX10_drop 12 = .ok (.iload_n 1, 1) := by decide +kernel
theorem dX10_drop_13 : decode cX10_drop 13 = .ok (.invokevirtual 121, 3) := by decide +kernel
theorem dX10_drop_16 : decode cX10_drop 16 = .ok (.astore_n 3, 1) := by decide +kernel
theorem dX10_drop_17 : decode cX10_drop 17 = .ok (.aload_n 3, 1) := by decide +kernel
theorem dX10_drop_18 : decode cX10_drop 18 = .ok (.iload_n 2, 1) := by decide +kernel
theorem dX10_drop_19 : decode cX10_drop 19 = .ok (.invokevirtual 141, 3) := by decide +kernel
theorem dX10_drop_22 : decode cX10_drop 22 = .ok (.aload_n 3, 1) := by decide +kernel
theorem dX10_drop_23 : decode cX10_drop 23 = .ok (.getfield 125, 3) := by decide +kernel
theorem dX10_drop_26 : decode cX10_drop 26 = .ok (.ireturn, 1) := by decide +kernel
theorem dX10_of_0 : decode cX10_of 0 = .ok (.aload_n 0, 1) := by decide +kernel
theorem dX10_of_1 : decode cX10_of 1 = .ok (.iload_n 1, 1) := by decide +kernel
theorem dX10_of_2 : decode cX10_of 2 = .ok (.iload_n 2, 1) := by decide +kernel
theorem dX10_of_3 : decode cX10_of 3 = .ok (.invokevirtual 137, 3) := by decide +kernel
theorem dX10_of_6 : decode cX10_of 6 = .ok (.ifCond .ne 5, 3) := by decide +kernel
theorem dX10_of_9 : decode cX10_of 9 = .ok (.iconst (-1), 1) := by decide +kernel
theorem dX10_of_10 : decode cX10_of 10 = .ok (.ireturn, 1) := by decide +kernel
theorem dX10_of_11 : decode cX10_of 11 = .ok (.aload_n 0, 1) := by decide +kernel
theorem dX10_of_12 : decode cX10_of 12 = .ok (.iload_n 1, 1) := by decide +kernel
theorem dX10_of_13 : decode cX10_of 13 = .ok (.invokevirtual 121, 3) := by decide +kernel
theorem dX10_of_16 : decode cX10_of 16 = .ok (.astore 4, 2) := by decide +kernel
theorem dX10_of_18 : decode cX10_of 18 = .ok (.iload_n 3, 1) := by decide +kernel
theorem dX10_of_19 : decode cX10_of 19 = .ok (.tableswitch 48 0 2 #[25, 33, 40], 25) := by decide +kernel
theorem dX10_of_44 : decode cX10_of 44 = .ok (.aload 4, 2) := by decide +kernel
theorem dX10_of_46 : decode cX10_of 46 = .ok (.getfield 145, 3) := by decide +kernel
theorem dX10_of_49 : decode cX10_of 49 = .ok (.iload_n 2, 1) := by decide +kernel
theorem dX10_of_50 : decode cX10_of 50 = .ok (.iaload, 1) := by decide +kernel
theorem dX10_of_51 : decode cX10_of 51 = .ok (.ireturn, 1) := by decide +kernel
theorem dX10_of_52 : decode cX10_of 52 = .ok (.aload 4, 2) := by decide +kernel
theorem dX10_of_54 : decode cX10_of 54 = .ok (.iload_n 2, 1) := by decide +kernel
theorem dX10_of_55 : decode cX10_of 55 = .ok (.invokevirtual 148, 3) := by decide +kernel
theorem dX10_of_58 : decode cX10_of 58 = .ok (.ireturn, 1) := by decide +kernel
theorem dX10_of_59 : decode cX10_of 59 = .ok (.aload 4, 2) := by decide +kernel
theorem dX10_of_61 : decode cX10_of 61 = .ok (.getfield 152, 3) := by decide +kernel
theorem dX10_of_64 : decode cX10_of 64 = .ok (.iload_n 2, 1) := by decide +kernel
theorem dX10_of_65 : decode cX10_of 65 = .ok (.iaload, 1) := by decide +kernel
theorem dX10_of_66 : decode cX10_of 66 = .ok (.ireturn, 1) := by decide +kernel
theorem dX10_of_67 : decode cX10_of 67 = .ok (.iload_n 3, 1) := by decide +kernel
theorem dX10_of_68 : decode cX10_of 68 = .ok (.bipush 10, 2) := by decide +kernel
theorem dX10_of_70 : decode cX10_of 70 = .ok (.bipush 13, 2) := by decide +kernel
theorem dX10_of_72 : decode cX10_of 72 = .ok (.invokestatic 89, 3) := by decide +kernel
theorem dX10_of_75 : decode cX10_of 75 = .ok (.ifCond .eq 20, 3) := by decide +kernel
theorem dX10_of_78 : decode cX10_of 78 = .ok (.aload 4, 2) := by decide +kernel
theorem dX10_of_80 : decode cX10_of 80 = .ok (.getfield 155, 3) := by decide +kernel
theorem dX10_of_83 : decode cX10_of 83 = .ok (.iload_n 2, 1) := by decide +kernel
theorem dX10_of_84 : decode cX10_of 84 = .ok (.iconst 4, 1) := by decide +kernel
theorem dX10_of_85 : decode cX10_of 85 = .ok (.imul, 1) := by decide +kernel
theorem dX10_of_86 : decode cX10_of 86 = .ok (.iload_n 3, 1) := by decide +kernel
theorem dX10_of_87 : decode cX10_of 87 = .ok (.iadd, 1) := by decide +kernel
theorem dX10_of_88 : decode cX10_of 88 = .ok (.bipush 10, 2) := by decide +kernel
theorem dX10_of_90 : decode cX10_of 90 = .ok (.isub, 1) := by decide +kernel
theorem dX10_of_91 : decode cX10_of 91 = .ok (.iaload, 1) := by decide +kernel
theorem dX10_of_92 : decode cX10_of 92 = .ok (.goto 4, 3) := by decide +kernel
theorem dX10_of_95 : decode cX10_of 95 = .ok (.iconst (-1), 1) := by decide +kernel
theorem dX10_of_96 : decode cX10_of 96 = .ok (.ireturn, 1) := by decide +kernel
theorem dX10_sign_0 : decode cX10_sign 0 = .ok (.aload_n 0, 1) := by decide +kernel
theorem dX10_sign_1 : decode cX10_sign 1 = .ok (.iload_n 1, 1) := by decide +kernel
theorem dX10_sign_2 : decode cX10_sign 2 = .ok (.iload_n 2, 1) := by decide +kernel
theorem dX10_sign_3 : decode cX10_sign 3 = .ok (.invokevirtual 137, 3) := by decide +kernel
theorem dX10_sign_6 : decode cX10_sign 6 = .ok (.ifCond .eq 23, 3) := by decide +kernel
theorem dX10_sign_9 : decode cX10_sign 9 = .ok (.iload_n 3, 1) := by decide +kernel
theorem dX10_sign_10 : decode cX10_sign 10 = .ok (.iconst 0, 1) := by decide +kernel
theorem dX10_sign_11 : decode cX10_sign 11 = .ok (.iconst 3, 1) := by decide +kernel
theorem dX10_sign_12 : decode cX10_sign 12 = .ok (.invokestatic 89, 3) := by decide +kernel
theorem dX10_sign_15 : decode cX10_sign 15 = .ok (.ifCond .eq 14, 3) := by decide +kernel
theorem dX10_sign_18 : decode cX10_sign 18 = .ok (.iload 4, 2) := by decide +kernel
theorem dX10_sign_20 : decode cX10_sign 20 = .ok (.iconst 0, 1) := by decide +kernel
theorem dX10_sign_21 : decode cX10_sign 21 = .ok (.bipush 16, 2) := by decide +kernel
theorem dX10_sign_23 : decode cX10_sign 23 = .ok (.invokestatic 89, 3) := by decide +kernel
theorem dX10_sign_26 : decode cX10_sign 26 = .ok (.ifCond .ne 5, 3) := by decide +kernel
theorem dX10_sign_29 : decode cX10_sign 29 = .ok (.iconst (-1), 1) := by decide +kernel
theorem dX10_sign_30 : decode cX10_sign 30 = .ok (.ireturn, 1) := by decide +kernel
theorem dX10_sign_31 : decode cX10_sign 31 = .ok (.aload_n 0, 1) := by decide +kernel
theorem dX10_sign_32 : decode cX10_sign 32 = .ok (.iload_n 1, 1) := by decide +kernel
theorem dX10_sign_33 : decode cX10_sign 33 = .ok (.invokevirtual 121, 3) := by decide +kernel
theorem dX10_sign_36 : decode cX10_sign 36 = .ok (.astore 5, 2) := by decide +kernel
theorem dX10_sign_38 : decode cX10_sign 38 = .ok (.aload 5, 2) := by decide +kernel
theorem dX10_sign_40 : decode cX10_sign 40 = .ok (.getfield 155, 3) := by decide +kernel
theorem dX10_sign_43 : decode cX10_sign 43 = .ok (.iload_n 2, 1) := by decide +kernel
theorem dX10_sign_44 : decode cX10_sign 44 = .ok (.iconst 4, 1) := by decide +kernel
theorem dX10_sign_45 : decode cX10_sign 45 = .ok (.imul, 1) := by decide +kernel
theorem dX10_sign_46 : decode cX10_sign 46 = .ok (.iload_n 3, 1) := by decide +kernel
theorem dX10_sign_47 : decode cX10_sign 47 = .ok (.iadd, 1) := by decide +kernel
theorem dX10_sign_48 : decode cX10_sign 48 = .ok (.iaload, 1) := by decide +kernel
theorem dX10_sign_49 : decode cX10_sign 49 = .ok (.istore 6, 2) := by decide +kernel
theorem dX10_sign_51 : decode cX10_sign 51 = .ok (.aload 5, 2) := by decide +kernel
theorem dX10_sign_53 : decode cX10_sign 53 = .ok (.getfield 155, 3) := by decide +kernel
theorem dX10_sign_56 : decode cX10_sign 56 = .ok (.iload_n 2, 1) := by decide +kernel
theorem dX10_sign_57 : decode cX10_sign 57 = .ok (.iconst 4, 1) := by decide +kernel
theorem dX10_sign_58 : decode cX10_sign 58 = .ok (.imul, 1) := by decide +kernel
theorem dX10_sign_59 : decode cX10_sign 59 = .ok (.iload_n 3, 1) := by decide +kernel
theorem dX10_sign_60 : decode cX10_sign 60 = .ok (.iadd, 1) := by decide +kernel
theorem dX10_sign_61 : decode cX10_sign 61 = .ok (.iload 4, 2) := by decide +kernel
theorem dX10_sign_63 : decode cX10_sign 63 = .ok (.iastore, 1) := by decide +kernel
theorem dX10_sign_64 : decode cX10_sign 64 = .ok (.iload 6, 2) := by decide +kernel
theorem dX10_sign_66 : decode cX10_sign 66 = .ok (.ireturn, 1) := by decide +kernel
theorem dX10_took_0 : decode cX10_took 0 = .ok (.aload_n 0, 1) := by decide +kernel
theorem dX10_took_1 : decode cX10_took 1 = .ok (.iload_n 1, 1) := by decide +kernel
theorem dX10_took_2 : decode cX10_took 2 = .ok (.iload_n 2, 1) := by decide +kernel
theorem dX10_took_3 : decode cX10_took 3 = .ok (.invokevirtual 158, 3) := by decide +kernel
theorem dX10_took_6 : decode cX10_took 6 = .ok (.ifCond .eq 12, 3) := by decide +kernel
theorem dX10_took_9 : decode cX10_took 9 = .ok (.aload_n 0, 1) := by decide +kernel
theorem dX10_took_10 : decode cX10_took 10 = .ok (.iload_n 1, 1) := by decide +kernel
theorem dX10_took_11 : decode cX10_took 11 = .ok (.iload_n 2, 1) := by decide +kernel
theorem dX10_took_12 : decode cX10_took 12 = .ok (.invokevirtual 161, 3) := by decide +kernel
theorem dX10_took_15 : decode cX10_took 15 = .ok (.goto 6, 3) := by decide +kernel
theorem dX10_took_18 : decode cX10_took 18 = .ok (.sipush (-10000), 3) := by decide +kernel
theorem dX10_took_21 : decode cX10_took 21 = .ok (.ireturn, 1) := by decide +kernel
theorem dX10_cost_0 : decode cX10_cost 0 = .ok (.aload_n 0, 1) := by decide +kernel
theorem dX10_cost_1 : decode cX10_cost 1 = .ok (.iload_n 1, 1) := by decide +kernel
theorem dX10_cost_2 : decode cX10_cost 2 = .ok (.iload_n 2, 1) := by decide +kernel
theorem dX10_cost_3 : decode cX10_cost 3 = .ok (.invokevirtual 158, 3) := by decide +kernel
theorem dX10_cost_6 : decode cX10_cost 6 = .ok (.ifCond .ne 5, 3) := by decide +kernel
theorem dX10_cost_9 : decode cX10_cost 9 = .ok (.iconst (-1), 1) := by decide +kernel
theorem dX10_cost_10 : decode cX10_cost 10 = .ok (.ireturn, 1) := by decide +kernel
theorem dX10_cost_11 : decode cX10_cost 11 = .ok (.aload_n 0, 1) := by decide +kernel
theorem dX10_cost_12 : decode cX10_cost 12 = .ok (.bipush 15, 2) := by decide +kernel
theorem dX10_cost_14 : decode cX10_cost 14 = .ok (.invokevirtual 164, 3) := by decide +kernel
theorem dX10_cost_17 : decode cX10_cost 17 = .ok (.aload_n 0, 1) := by decide +kernel
theorem dX10_cost_18 : decode cX10_cost 18 = .ok (.getfield 44, 3) := by decide +kernel
theorem dX10_cost_21 : decode cX10_cost 21 = .ok (.iload_n 1, 1) := by decide +kernel
theorem dX10_cost_22 : decode cX10_cost 22 = .ok (.iload_n 2, 1) := by decide +kernel
theorem dX10_cost_23 : decode cX10_cost 23 = .ok (.invokevirtual 167, 3) := by decide +kernel
theorem dX10_cost_26 : decode cX10_cost 26 = .ok (.ireturn, 1) := by decide +kernel
theorem dX10_why_0 : decode cX10_why 0 = .ok (.aload_n 0, 1) := by decide +kernel
theorem dX10_why_1 : decode cX10_why 1 = .ok (.iload_n 1, 1) := by decide +kernel
theorem dX10_why_2 : decode cX10_why 2 = .ok (.iload_n 2, 1) := by decide +kernel
theorem dX10_why_3 : decode cX10_why 3 = .ok (.invokevirtual 158, 3) := by decide +kernel
theorem dX10_why_6 : decode cX10_why 6 = .ok (.ifCond .ne 5, 3) := by decide +kernel
theorem dX10_why_9 : decode cX10_why 9 = .ok (.iconst (-1), 1) := by decide +kernel
theorem dX10_why_10 : decode cX10_why 10 = .ok (.ireturn, 1) := by decide +kernel
theorem dX10_why_11 : decode cX10_why 11 = .ok (.aload_n 0, 1) := by decide +kernel
theorem dX10_why_12 : decode cX10_why 12 = .ok (.getfield 12, 3) := by decide +kernel
theorem dX10_why_15 : decode cX10_why 15 = .ok (.getfield 97, 3) := by decide +kernel
theorem dX10_why_18 : decode cX10_why 18 = .ok (.getfield 107, 3) := by decide +kernel
theorem dX10_why_21 : decode cX10_why 21 = .ok (.astore_n 3, 1) := by decide +kernel
theorem dX10_why_22 : decode cX10_why 22 = .ok (.aload_n 0, 1) := by decide +kernel
theorem dX10_why_23 : decode cX10_why 23 = .ok (.iload_n 1, 1) := by decide +kernel
theorem dX10_why_24 : decode cX10_why 24 = .ok (.iload_n 2, 1) := by decide +kernel
theorem dX10_why_25 : decode cX10_why 25 = .ok (.invokevirtual 161, 3) := by decide +kernel
theorem dX10_why_28 : decode cX10_why 28 = .ok (.aload_n 3, 1) := by decide +kernel
theorem dX10_why_29 : decode cX10_why 29 = .ok (.iconst 0, 1) := by decide +kernel
theorem dX10_why_30 : decode cX10_why 30 = .ok (.iaload, 1) := by decide +kernel
theorem dX10_why_31 : decode cX10_why 31 = .ok (.aload_n 3, 1) := by decide +kernel
theorem dX10_why_32 : decode cX10_why 32 = .ok (.iconst 1, 1) := by decide +kernel
theorem dX10_why_33 : decode cX10_why 33 = .ok (.iaload, 1) := by decide +kernel
theorem dX10_why_34 : decode cX10_why 34 = .ok (.invokestatic 89, 3) := by decide +kernel
theorem dX10_why_37 : decode cX10_why 37 = .ok (.ifCond .eq 7, 3) := by decide +kernel
theorem dX10_why_40 : decode cX10_why 40 = .ok (.iconst 0, 1) := by decide +kernel
theorem dX10_why_41 : decode cX10_why 41 = .ok (.goto 5, 3) := by decide +kernel
theorem dX10_why_44 : decode cX10_why 44 = .ok (.bipush 16, 2) := by decide +kernel
theorem dX10_why_46 : decode cX10_why 46 = .ok (.istore 4, 2) := by decide +kernel
theorem dX10_why_48 : decode cX10_why 48 = .ok (.iconst 0, 1) := by decide +kernel
theorem dX10_why_49 : decode cX10_why 49 = .ok (.istore 5, 2) := by decide +kernel
theorem dX10_why_51 : decode cX10_why 51 = .ok (.iload 5, 2) := by decide +kernel
theorem dX10_why_53 : decode cX10_why 53 = .ok (.iconst 4, 1) := by decide +kernel
theorem dX10_why_54 : decode cX10_why 54 = .ok (.if_icmp .ge 75, 3) := by decide +kernel
theorem dX10_why_57 : decode cX10_why 57 = .ok (.aload_n 0, 1) := by decide +kernel
theorem dX10_why_58 : decode cX10_why 58 = .ok (.getfield 12, 3) := by decide +kernel
theorem dX10_why_61 : decode cX10_why 61 = .ok (.getfield 170, 3) := by decide +kernel
theorem dX10_why_64 : decode cX10_why 64 = .ok (.getfield 155, 3) := by decide +kernel
theorem dX10_why_67 : decode cX10_why 67 = .ok (.iload_n 1, 1) := by decide +kernel
theorem dX10_why_68 : decode cX10_why 68 = .ok (.iconst 4, 1) := by decide +kernel
theorem dX10_why_69 : decode cX10_why 69 = .ok (.imul, 1) := by decide +kernel
theorem dX10_why_70 : decode cX10_why 70 = .ok (.iload 5, 2) := by decide +kernel
theorem dX10_why_72 : decode cX10_why 72 = .ok (.iadd, 1) := by decide +kernel
theorem dX10_why_73 : decode cX10_why 73 = .ok (.iaload, 1) := by decide +kernel
theorem dX10_why_74 : decode cX10_why 74 = .ok (.istore 6, 2) := by decide +kernel
theorem dX10_why_76 : decode cX10_why 76 = .ok (.aload_n 0, 1) := by decide +kernel
theorem dX10_why_77 : decode cX10_why 77 = .ok (.getfield 12, 3) := by decide +kernel
theorem dX10_why_80 : decode cX10_why 80 = .ok (.getfield 174, 3) := by decide +kernel
theorem dX10_why_83 : decode cX10_why 83 = .ok (.getfield 155, 3) := by decide +kernel
theorem dX10_why_86 : decode cX10_why 86 = .ok (.iload_n 2, 1) := by decide +kernel
theorem dX10_why_87 : decode cX10_why 87 = .ok (.iconst 4, 1) := by decide +kernel
theorem dX10_why_88 : decode cX10_why 88 = .ok (.imul, 1) := by decide +kernel
theorem dX10_why_89 : decode cX10_why 89 = .ok (.iload 5, 2) := by decide +kernel
theorem dX10_why_91 : decode cX10_why 91 = .ok (.iadd, 1) := by decide +kernel
theorem dX10_why_92 : decode cX10_why 92 = .ok (.iaload, 1) := by decide +kernel
theorem dX10_why_93 : decode cX10_why 93 = .ok (.istore 7, 2) := by decide +kernel
theorem dX10_why_95 : decode cX10_why 95 = .ok (.aload_n 0, 1) := by decide +kernel
theorem dX10_why_96 : decode cX10_why 96 = .ok (.getfield 12, 3) := by decide +kernel
theorem dX10_why_99 : decode cX10_why 99 = .ok (.getfield 97, 3) := by decide +kernel
theorem dX10_why_102 : decode cX10_why 102 = .ok (.iload 6, 2) := by decide +kernel
theorem dX10_why_104 : decode cX10_why 104 = .ok (.iload 7, 2) := by decide +kernel
theorem dX10_why_106 : decode cX10_why 106 = .ok (.invokevirtual 177, 3) := by decide +kernel
theorem dX10_why_109 : decode cX10_why 109 = .ok (.bipush (-4), 2) := by decide +kernel
theorem dX10_why_111 : decode cX10_why 111 = .ok (.if_icmp .ne 12, 3) := by decide +kernel
theorem dX10_why_114 : decode cX10_why 114 = .ok (.iload 4, 2) := by decide +kernel
theorem dX10_why_116 : decode cX10_why 116 = .ok (.iconst 1, 1) := by decide +kernel
theorem dX10_why_117 : decode cX10_why 117 = .ok (.iload 5, 2) := by decide +kernel
theorem dX10_why_119 : decode cX10_why 119 = .ok (.ishl, 1) := by decide +kernel
theorem dX10_why_120 : decode cX10_why 120 = .ok (.ior, 1) := by decide +kernel
theorem dX10_why_121 : decode cX10_why 121 = .ok (.istore 4, 2) := by decide +kernel
theorem dX10_why_123 : decode cX10_why 123 = .ok (.iinc 5 1, 3) := by decide +kernel
theorem dX10_why_126 : decode cX10_why 126 = .ok (.goto (-75), 3) := by decide +kernel
theorem dX10_why_129 : decode cX10_why 129 = .ok (.iload 4, 2) := by decide +kernel
theorem dX10_why_131 : decode cX10_why 131 = .ok (.ireturn, 1) := by decide +kernel
theorem dX10_best_0 : decode cX10_best 0 = .ok (.iload_n 1, 1) := by decide +kernel
theorem dX10_best_1 : decode cX10_best 1 = .ok (.iconst 0, 1) := by decide +kernel
theorem dX10_best_2 : decode cX10_best 2 = .ok (.iconst 3, 1) := by decide +kernel
theorem dX10_best_3 : decode cX10_best 3 = .ok (.invokestatic 89, 3) := by decide +kernel
theorem dX10_best_6 : decode cX10_best 6 = .ok (.ifCond .ne 7, 3) := by decide +kernel
theorem dX10_best_9 : decode cX10_best 9 = .ok (.ldc2_w 180, 3) := by decide +kernel
theorem dX10_best_12 : decode cX10_best 12 = .ok (.lreturn, 1) := by decide +kernel
theorem dX10_best_13 : decode cX10_best 13 = .ok (.aload_n 0, 1) := by decide +kernel
theorem dX10_best_14 : decode cX10_best 14 = .ok (.bipush 15, 2) := by decide +kernel
theorem dX10_best_16 : decode cX10_best 16 = .ok (.invokevirtual 164, 3) := by decide +kernel
theorem dX10_best_19 : decode cX10_best 19 = .ok (.iload_n 1, 1) := by decide +kernel
theorem dX10_best_20 : decode cX10_best 20 = .ok (.tableswitch 64 0 2 #[28, 36, 48], 28) := by decide +kernel
theorem dX10_best_48 : decode cX10_best 48 = .ok (.aload_n 0, 1) := by decide +kernel
theorem dX10_best_49 : decode cX10_best 49 = .ok (.getfield 53, 3) := by decide +kernel
theorem dX10_best_52 : decode cX10_best 52 = .ok (.invokevirtual 182, 3) := by decide +kernel
theorem dX10_best_55 : decode cX10_best 55 = .ok (.lreturn, 1) := by decide +kernel
theorem dX10_best_56 : decode cX10_best 56 = .ok (.aload_n 0, 1) := by decide +kernel
theorem dX10_best_57 : decode cX10_best 57 = .ok (.getfield 60, 3) := by decide +kernel
theorem dX10_best_60 : decode cX10_best 60 = .ok (.aload_n 0, 1) := by decide +kernel
theorem dX10_best_61 : decode cX10_best 61 = .ok (.getfield 44, 3) := by decide +kernel
theorem dX10_best_64 : decode cX10_best 64 = .ok (.invokevirtual 186, 3) := by decide +kernel
theorem dX10_best_67 : decode cX10_best 67 = .ok (.lreturn, 1) := by decide +kernel
theorem dX10_best_68 : decode cX10_best 68 = .ok (.aload_n 0, 1) := by decide +kernel
theorem dX10_best_69 : decode cX10_best 69 = .ok (.getfield 60, 3) := by decide +kernel
theorem dX10_best_72 : decode cX10_best 72 = .ok (.aload_n 0, 1) := by decide +kernel
theorem dX10_best_73 : decode cX10_best 73 = .ok (.getfield 44, 3) := by decide +kernel
theorem dX10_best_76 : decode cX10_best 76 = .ok (.bipush (-4), 2) := by decide +kernel
theorem dX10_best_78 : decode cX10_best 78 = .ok (.bipush (-4), 2) := by decide +kernel
theorem dX10_best_80 : decode cX10_best 80 = .ok (.invokevirtual 190, 3) := by decide +kernel
theorem dX10_best_83 : decode cX10_best 83 = .ok (.lreturn, 1) := by decide +kernel
theorem dX10_best_84 : decode cX10_best 84 = .ok (.aload_n 0, 1) := by decide +kernel
theorem dX10_best_85 : decode cX10_best 85 = .ok (.getfield 44, 3) := by decide +kernel
theorem dX10_best_88 : decode cX10_best 88 = .ok (.getfield 194, 3) := by decide +kernel
theorem dX10_best_91 : decode cX10_best 91 = .ok (.i2l, 1) := by decide +kernel
theorem dX10_best_92 : decode cX10_best 92 = .ok (.lreturn, 1) := by decide +kernel
theorem dX10_first_0 : decode cX10_first 0 = .ok (.aload_n 0, 1) := by decide +kernel
theorem dX10_first_1 : decode cX10_first 1 = .ok (.getfield 12, 3) := by decide +kernel
theorem dX10_first_4 : decode cX10_first 4 = .ok (.getfield 170, 3) := by decide +kernel
theorem dX10_first_7 : decode cX10_first 7 = .ok (.iload_n 1, 1) := by decide +kernel
theorem dX10_first_8 : decode cX10_first 8 = .ok (.invokevirtual 197, 3) := by decide +kernel
theorem dX10_first_11 : decode cX10_first 11 = .ok (.ifCond .ne 5, 3) := by decide +kernel
theorem dX10_first_14 : decode cX10_first 14 = .ok (.iconst (-1), 1) := by decide +kernel
theorem dX10_first_15 : decode cX10_first 15 = .ok (.ireturn, 1) := by decide +kernel
theorem dX10_first_16 : decode cX10_first 16 = .ok (.aload_n 0, 1) := by decide +kernel
theorem dX10_first_17 : decode cX10_first 17 = .ok (.invokevirtual 200, 3) := by decide +kernel
theorem dX10_first_20 : decode cX10_first 20 = .ok (.aload_n 0, 1) := by decide +kernel
theorem dX10_first_21 : decode cX10_first 21 = .ok (.getfield 53, 3) := by decide +kernel
theorem dX10_first_24 : decode cX10_first 24 = .ok (.getfield 203, 3) := by decide +kernel
theorem dX10_first_27 : decode cX10_first 27 = .ok (.iload_n 1, 1) := by decide +kernel
theorem dX10_first_28 : decode cX10_first 28 = .ok (.iaload, 1) := by decide +kernel
theorem dX10_first_29 : decode cX10_first 29 = .ok (.ireturn, 1) := by decide +kernel
theorem dX10_sure_0 : decode cX10_sure 0 = .ok (.aload_n 0, 1) := by decide +kernel
theorem dX10_sure_1 : decode cX10_sure 1 = .ok (.iload_n 1, 1) := by decide +kernel
theorem dX10_sure_2 : decode cX10_sure 2 = .ok (.iload_n 2, 1) := by decide +kernel
theorem dX10_sure_3 : decode cX10_sure 3 = .ok (.invokevirtual 158, 3) := by decide +kernel
theorem dX10_sure_6 : decode cX10_sure 6 = .ok (.ifCond .ne 5, 3) := by decide +kernel
theorem dX10_sure_9 : decode cX10_sure 9 = .ok (.iconst (-1), 1) := by decide +kernel
theorem dX10_sure_10 : decode cX10_sure 10 = .ok (.ireturn, 1) := by decide +kernel
theorem dX10_sure_11 : decode cX10_sure 11 = .ok (.aload_n 0, 1) := by decide +kernel
theorem dX10_sure_12 : decode cX10_sure 12 = .ok (.bipush 15, 2) := by decide +kernel
theorem dX10_sure_14 : decode cX10_sure 14 = .ok (.invokevirtual 164, 3) := by decide +kernel
theorem dX10_sure_17 : decode cX10_sure 17 = .ok (.aload_n 0, 1) := by decide +kernel
theorem dX10_sure_18 : decode cX10_sure 18 = .ok (.getfield 44, 3) := by decide +kernel
theorem dX10_sure_21 : decode cX10_sure 21 = .ok (.iload_n 1, 1) := by decide +kernel
theorem dX10_sure_22 : decode cX10_sure 22 = .ok (.iload_n 2, 1) := by decide +kernel
theorem dX10_sure_23 : decode cX10_sure 23 = .ok (.invokevirtual 206, 3) := by decide +kernel
theorem dX10_sure_26 : decode cX10_sure 26 = .ok (.ifCond .eq 23, 3) := by decide +kernel
theorem dX10_sure_29 : decode cX10_sure 29 = .ok (.aload_n 0, 1) := by decide +kernel
theorem dX10_sure_30 : decode cX10_sure 30 = .ok (.getfield 53, 3) := by decide +kernel
theorem dX10_sure_33 : decode cX10_sure 33 = .ok (.iload_n 1, 1) := by decide +kernel
theorem dX10_sure_34 : decode cX10_sure 34 = .ok (.iload_n 2, 1) := by decide +kernel
theorem dX10_sure_35 : decode cX10_sure 35 = .ok (.invokevirtual 209, 3) := by decide +kernel
theorem dX10_sure_38 : decode cX10_sure 38 = .ok (.aload_n 0, 1) := by decide +kernel
theorem dX10_sure_39 : decode cX10_sure 39 = .ok (.getfield 53, 3) := by decide +kernel
theorem dX10_sure_42 : decode cX10_sure 42 = .ok (.invokevirtual 182, 3) := by decide +kernel
theorem dX10_sure_45 : decode cX10_sure 45 = .ok (.lcmp, 1) := by decide +kernel
theorem dX10_sure_46 : decode cX10_sure 46 = .ok (.ifCond .le 5, 3) := by decide +kernel
theorem dX10_sure_49 : decode cX10_sure 49 = .ok (.iconst 0, 1) := by decide +kernel
theorem dX10_sure_50 : decode cX10_sure 50 = .ok (.ireturn, 1) := by decide +kernel
theorem dX10_sure_51 : decode cX10_sure 51 = .ok (.aload_n 0, 1) := by decide +kernel
theorem dX10_sure_52 : decode cX10_sure 52 = .ok (.getfield 53, 3) := by decide +kernel
theorem dX10_sure_55 : decode cX10_sure 55 = .ok (.iload_n 1, 1) := by decide +kernel
theorem dX10_sure_56 : decode cX10_sure 56 = .ok (.iload_n 2, 1) := by decide +kernel
theorem dX10_sure_57 : decode cX10_sure 57 = .ok (.invokevirtual 213, 3) := by decide +kernel
theorem dX10_sure_60 : decode cX10_sure 60 = .ok (.ifCond .eq 7, 3) := by decide +kernel
theorem dX10_sure_63 : decode cX10_sure 63 = .ok (.iconst 2, 1) := by decide +kernel
theorem dX10_sure_64 : decode cX10_sure 64 = .ok (.goto 4, 3) := by decide +kernel
theorem dX10_sure_67 : decode cX10_sure 67 = .ok (.iconst 1, 1) := by decide +kernel
theorem dX10_sure_68 : decode cX10_sure 68 = .ok (.ireturn, 1) := by decide +kernel
theorem dX10_share_0 : decode cX10_share 0 = .ok (.aload_n 0, 1) := by decide +kernel
theorem dX10_share_1 : decode cX10_share 1 = .ok (.iload_n 1, 1) := by decide +kernel
theorem dX10_share_2 : decode cX10_share 2 = .ok (.iload_n 2, 1) := by decide +kernel
theorem dX10_share_3 : decode cX10_share 3 = .ok (.invokevirtual 158, 3) := by decide +kernel
theorem dX10_share_6 : decode cX10_share 6 = .ok (.ifCond .eq 12, 3) := by decide +kernel
theorem dX10_share_9 : decode cX10_share 9 = .ok (.iload_n 3, 1) := by decide +kernel
theorem dX10_share_10 : decode cX10_share 10 = .ok (.iconst 0, 1) := by decide +kernel
theorem dX10_share_11 : decode cX10_share 11 = .ok (.iconst 1, 1) := by decide +kernel
theorem dX10_share_12 : decode cX10_share 12 = .ok (.invokestatic 89, 3) := by decide +kernel
theorem dX10_share_15 : decode cX10_share 15 = .ok (.ifCond .ne 7, 3) := by decide +kernel
theorem dX10_share_18 : decode cX10_share 18 = .ok (.ldc2_w 180, 3) := by decide +kernel
theorem dX10_share_21 : decode cX10_share 21 = .ok (.lreturn, 1) := by decide +kernel
theorem dX10_share_22 : decode cX10_share 22 = .ok (.aload_n 0, 1) := by decide +kernel
theorem dX10_share_23 : decode cX10_share 23 = .ok (.bipush 15, 2) := by decide +kernel
theorem dX10_share_25 : decode cX10_share 25 = .ok (.invokevirtual 164, 3) := by decide +kernel
theorem dX10_share_28 : decode cX10_share 28 = .ok (.aload_n 0, 1) := by decide +kernel
theorem dX10_share_29 : decode cX10_share 29 = .ok (.getfield 44, 3) := by decide +kernel
theorem dX10_share_32 : decode cX10_share 32 = .ok (.iload_n 1, 1) := by decide +kernel
theorem dX10_share_33 : decode cX10_share 33 = .ok (.iload_n 2, 1) := by decide +kernel
theorem dX10_share_34 : decode cX10_share 34 = .ok (.invokevirtual 206, 3) := by decide +kernel
theorem dX10_share_37 : decode cX10_share 37 = .ok (.ifCond .eq 19, 3) := by decide +kernel
theorem dX10_share_40 : decode cX10_share 40 = .ok (.aload_n 0, 1) := by decide +kernel
theorem dX10_share_41 : decode cX10_share 41 = .ok (.getfield 60, 3) := by decide +kernel
theorem dX10_share_44 : decode cX10_share 44 = .ok (.aload_n 0, 1) := by decide +kernel
theorem dX10_share_45 : decode cX10_share 45 = .ok (.getfield 44, 3) := by decide +kernel
theorem dX10_share_48 : decode cX10_share 48 = .ok (.iload_n 1, 1) := by decide +kernel
theorem dX10_share_49 : decode cX10_share 49 = .ok (.iload_n 2, 1) := by decide +kernel
theorem dX10_share_50 : decode cX10_share 50 = .ok (.invokevirtual 190, 3) := by decide +kernel
theorem dX10_share_53 : decode cX10_share 53 = .ok (.goto 4, 3) := by decide +kernel
theorem dX10_share_56 : decode cX10_share 56 = .ok (.lconst 0, 1) := by decide +kernel
theorem dX10_share_57 : decode cX10_share 57 = .ok (.lstore 4, 2) := by decide +kernel
theorem dX10_share_59 : decode cX10_share 59 = .ok (.aload_n 0, 1) := by decide +kernel
theorem dX10_share_60 : decode cX10_share 60 = .ok (.getfield 60, 3) := by decide +kernel
theorem dX10_share_63 : decode cX10_share 63 = .ok (.aload_n 0, 1) := by decide +kernel
theorem dX10_share_64 : decode cX10_share 64 = .ok (.getfield 44, 3) := by decide +kernel
theorem dX10_share_67 : decode cX10_share 67 = .ok (.bipush (-4), 2) := by decide +kernel
theorem dX10_share_69 : decode cX10_share 69 = .ok (.bipush (-4), 2) := by decide +kernel
theorem dX10_share_71 : decode cX10_share 71 = .ok (.invokevirtual 190, 3) := by decide +kernel
theorem dX10_share_74 : decode cX10_share 74 = .ok (.lstore 6, 2) := by decide +kernel
theorem dX10_share_76 : decode cX10_share 76 = .ok (.lload 4, 2) := by decide +kernel
theorem dX10_share_78 : decode cX10_share 78 = .ok (.lload 6, 2) := by decide +kernel
theorem dX10_share_80 : decode cX10_share 80 = .ok (.iload_n 3, 1) := by decide +kernel
theorem dX10_share_81 : decode cX10_share 81 = .ok (.invokestatic 216, 3) := by decide +kernel
theorem dX10_share_84 : decode cX10_share 84 = .ok (.lreturn, 1) := by decide +kernel
theorem dX10_ifMust_0 : decode cX10_ifMust 0 = .ok (.aload_n 0, 1) := by decide +kernel
theorem dX10_ifMust_1 : decode cX10_ifMust 1 = .ok (.iload_n 1, 1) := by decide +kernel
theorem dX10_ifMust_2 : decode cX10_ifMust 2 = .ok (.iload_n 2, 1) := by decide +kernel
theorem dX10_ifMust_3 : decode cX10_ifMust 3 = .ok (.invokevirtual 158, 3) := by decide +kernel
theorem dX10_ifMust_6 : decode cX10_ifMust 6 = .ok (.ifCond .ne 5, 3) := by decide +kernel
theorem dX10_ifMust_9 : decode cX10_ifMust 9 = .ok (.iconst (-1), 1) := by decide +kernel
theorem dX10_ifMust_10 : decode cX10_ifMust 10 = .ok (.ireturn, 1) := by decide +kernel
theorem dX10_ifMust_11 : decode cX10_ifMust 11 = .ok (.aload_n 0, 1) := by decide +kernel
theorem dX10_ifMust_12 : decode cX10_ifMust 12 = .ok (.bipush 15, 2) := by decide +kernel
theorem dX10_ifMust_14 : decode cX10_ifMust 14 = .ok (.invokevirtual 164, 3) := by decide +kernel
theorem dX10_ifMust_17 : decode cX10_ifMust 17 = .ok (.iload_n 3, 1) := by decide +kernel
theorem dX10_ifMust_18 : decode cX10_ifMust 18 = .ok (.ifCond .ne 22, 3) := by decide +kernel
theorem dX10_ifMust_21 : decode cX10_ifMust 21 = .ok (.aload_n 0, 1) := by decide +kernel
theorem dX10_ifMust_22 : decode cX10_ifMust 22 = .ok (.getfield 53, 3) := by decide +kernel
theorem dX10_ifMust_25 : decode cX10_ifMust 25 = .ok (.iload_n 1, 1) := by decide +kernel
theorem dX10_ifMust_26 : decode cX10_ifMust 26 = .ok (.iload_n 2, 1) := by decide +kernel
theorem dX10_ifMust_27 : decode cX10_ifMust 27 = .ok (.invokevirtual 220, 3) := by decide +kernel
theorem dX10_ifMust_30 : decode cX10_ifMust 30 = .ok (.aload_n 0, 1) := by decide +kernel
theorem dX10_ifMust_31 : decode cX10_ifMust 31 = .ok (.getfield 53, 3) := by decide +kernel
theorem dX10_ifMust_34 : decode cX10_ifMust 34 = .ok (.invokevirtual 182, 3) := by decide +kernel
theorem dX10_ifMust_37 : decode cX10_ifMust 37 = .ok (.lsub, 1) := by decide +kernel
theorem dX10_ifMust_38 : decode cX10_ifMust 38 = .ok (.l2i, 1) := by decide +kernel
theorem dX10_ifMust_39 : decode cX10_ifMust 39 = .ok (.ireturn, 1) := by decide +kernel
theorem dX10_ifMust_40 : decode cX10_ifMust 40 = .ok (.aload_n 0, 1) := by decide +kernel
theorem dX10_ifMust_41 : decode cX10_ifMust 41 = .ok (.getfield 44, 3) := by decide +kernel
theorem dX10_ifMust_44 : decode cX10_ifMust 44 = .ok (.iload_n 1, 1) := by decide +kernel
theorem dX10_ifMust_45 : decode cX10_ifMust 45 = .ok (.iload_n 2, 1) := by decide +kernel
theorem dX10_ifMust_46 : decode cX10_ifMust 46 = .ok (.invokevirtual 206, 3) := by decide +kernel
theorem dX10_ifMust_49 : decode cX10_ifMust 49 = .ok (.ifCond .eq 24, 3) := by decide +kernel
theorem dX10_ifMust_52 : decode cX10_ifMust 52 = .ok (.aload_n 0, 1) := by decide +kernel
theorem dX10_ifMust_53 : decode cX10_ifMust 53 = .ok (.getfield 53, 3) := by decide +kernel
theorem dX10_ifMust_56 : decode cX10_ifMust 56 = .ok (.iload_n 1, 1) := by decide +kernel
theorem dX10_ifMust_57 : decode cX10_ifMust 57 = .ok (.iload_n 2, 1) := by decide +kernel
theorem dX10_ifMust_58 : decode cX10_ifMust 58 = .ok (.invokevirtual 209, 3) := by decide +kernel
theorem dX10_ifMust_61 : decode cX10_ifMust 61 = .ok (.aload_n 0, 1) := by decide +kernel
theorem dX10_ifMust_62 : decode cX10_ifMust 62 = .ok (.getfield 53, 3) := by decide +kernel
theorem dX10_ifMust_65 : decode cX10_ifMust 65 = .ok (.invokevirtual 182, 3) := by decide +kernel
theorem dX10_ifMust_68 : decode cX10_ifMust 68 = .ok (.lsub, 1) := by decide +kernel
theorem dX10_ifMust_69 : decode cX10_ifMust 69 = .ok (.l2i, 1) := by decide +kernel
theorem dX10_ifMust_70 : decode cX10_ifMust 70 = .ok (.goto 5, 3) := by decide +kernel
theorem dX10_ifMust_73 : decode cX10_ifMust 73 = .ok (.bipush (-4), 2) := by decide +kernel
theorem dX10_ifMust_75 : decode cX10_ifMust 75 = .ok (.ireturn, 1) := by decide +kernel
theorem dX10_alone_0 : decode cX10_alone 0 = .ok (.iload_n 1, 1) := by decide +kernel
theorem dX10_alone_1 : decode cX10_alone 1 = .ok (.invokestatic 117, 3) := by decide +kernel
theorem dX10_alone_4 : decode cX10_alone 4 = .ok (.ifCond .eq 12, 3) := by decide +kernel
theorem dX10_alone_7 : decode cX10_alone 7 = .ok (.iload_n 2, 1) := by decide +kernel
theorem dX10_alone_8 : decode cX10_alone 8 = .ok (.iconst 0, 1) := by decide +kernel
theorem dX10_alone_9 : decode cX10_alone 9 = .ok (.iconst 2, 1) := by decide +kernel
theorem dX10_alone_10 : decode cX10_alone 10 = .ok (.invokestatic 89, 3) := by decide +kernel
theorem dX10_alone_13 : decode cX10_alone 13 = .ok (.ifCond .ne 5, 3) := by decide +kernel
theorem dX10_alone_16 : decode cX10_alone 16 = .ok (.iconst (-1), 1) := by decide +kernel
theorem dX10_alone_17 : decode cX10_alone 17 = .ok (.ireturn, 1) := by decide +kernel
theorem dX10_alone_18 : decode cX10_alone 18 = .ok (.aload_n 0, 1) := by decide +kernel
theorem dX10_alone_19 : decode cX10_alone 19 = .ok (.bipush 15, 2) := by decide +kernel
theorem dX10_alone_21 : decode cX10_alone 21 = .ok (.invokevirtual 164, 3) := by decide +kernel
theorem dX10_alone_24 : decode cX10_alone 24 = .ok (.iconst 0, 1) := by decide +kernel
theorem dX10_alone_25 : decode cX10_alone 25 = .ok (.istore_n 3, 1) := by decide +kernel
theorem dX10_alone_26 : decode cX10_alone 26 = .ok (.aload_n 0, 1) := by decide +kernel
theorem dX10_alone_27 : decode cX10_alone 27 = .ok (.iload_n 1, 1) := by decide +kernel
theorem dX10_alone_28 : decode cX10_alone 28 = .ok (.invokevirtual 121, 3) := by decide +kernel
theorem dX10_alone_31 : decode cX10_alone 31 = .ok (.getfield 125, 3) := by decide +kernel
theorem dX10_alone_34 : decode cX10_alone 34 = .ok (.istore 4, 2) := by decide +kernel
theorem dX10_alone_36 : decode cX10_alone 36 = .ok (.iconst 0, 1) := by decide +kernel
theorem dX10_alone_37 : decode cX10_alone 37 = .ok (.istore 5, 2) := by decide +kernel
theorem dX10_alone_39 : decode cX10_alone 39 = .ok (.iload 5, 2) := by decide +kernel
theorem dX10_alone_41 : decode cX10_alone 41 = .ok (.iload 4, 2) := by decide +kernel
theorem dX10_alone_43 : decode cX10_alone 43 = .ok (.if_icmp .ge 59, 3) := by decide +kernel
theorem dX10_alone_46 : decode cX10_alone 46 = .ok (.iload_n 2, 1) := by decide +kernel
theorem dX10_alone_47 : decode cX10_alone 47 = .ok (.iconst 2, 1) := by decide +kernel
theorem dX10_alone_48 : decode cX10_alone 48 = .ok (.if_icmp .ne 19, 3) := by decide +kernel
theorem dX10_alone_51 : decode cX10_alone 51 = .ok (.aload_n 0, 1) := by decide +kernel
theorem dX10_alone_52 : decode cX10_alone 52 = .ok (.getfield 44, 3) := by decide +kernel
theorem dX10_alone_55 : decode cX10_alone 55 = .ok (.iload_n 1, 1) := by decide +kernel
theorem dX10_alone_56 : decode cX10_alone 56 = .ok (.iload 5, 2) := by decide +kernel
theorem dX10_alone_58 : decode cX10_alone 58 = .ok (.invokevirtual 223, 3) := by decide +kernel
theorem dX10_alone_61 : decode cX10_alone 61 = .ok (.ifCond .eq 35, 3) := by decide +kernel
theorem dX10_alone_64 : decode cX10_alone 64 = .ok (.goto 25, 3) := by decide +kernel
theorem dX10_alone_67 : decode cX10_alone 67 = .ok (.aload_n 0, 1) := by decide +kernel
theorem dX10_alone_68 : decode cX10_alone 68 = .ok (.getfield 53, 3) := by decide +kernel
theorem dX10_alone_71 : decode cX10_alone 71 = .ok (.iload_n 1, 1) := by decide +kernel
theorem dX10_alone_72 : decode cX10_alone 72 = .ok (.iload 5, 2) := by decide +kernel
theorem dX10_alone_74 : decode cX10_alone 74 = .ok (.iload_n 2, 1) := by decide +kernel
theorem dX10_alone_75 : decode cX10_alone 75 = .ok (.ifCond .ne 7, 3) := by decide +kernel
theorem dX10_alone_78 : decode cX10_alone 78 = .ok (.iconst 1, 1) := by decide +kernel
theorem dX10_alone_79 : decode cX10_alone 79 = .ok (.goto 4, 3) := by decide +kernel
theorem dX10_alone_82 : decode cX10_alone 82 = .ok (.iconst 0, 1) := by decide +kernel
theorem dX10_alone_83 : decode cX10_alone 83 = .ok (.invokevirtual 226, 3) := by decide +kernel
theorem dX10_alone_86 : decode cX10_alone 86 = .ok (.ifCond .eq 10, 3) := by decide +kernel
theorem dX10_alone_89 : decode cX10_alone 89 = .ok (.iload_n 3, 1) := by decide +kernel
theorem dX10_alone_90 : decode cX10_alone 90 = .ok (.iconst 1, 1) := by decide +kernel
theorem dX10_alone_91 : decode cX10_alone 91 = .ok (.iload 5, 2) := by decide +kernel
theorem dX10_alone_93 : decode cX10_alone 93 = .ok (.ishl, 1) := by decide +kernel
theorem dX10_alone_94 : decode cX10_alone 94 = .ok (.ior, 1) := by decide +kernel
theorem dX10_alone_95 : decode cX10_alone 95 = .ok (.istore_n 3, 1) := by decide +kernel
theorem dX10_alone_96 : decode cX10_alone 96 = .ok (.iinc 5 1, 3) := by decide +kernel
theorem dX10_alone_99 : decode cX10_alone 99 = .ok (.goto (-60), 3) := by decide +kernel
theorem dX10_alone_102 : decode cX10_alone 102 = .ok (.iload_n 3, 1) := by decide +kernel
theorem dX10_alone_103 : decode cX10_alone 103 = .ok (.ireturn, 1) := by decide +kernel
theorem dX10_many_0 : decode cX10_many 0 = .ok (.iload_n 1, 1) := by decide +kernel
theorem dX10_many_1 : decode cX10_many 1 = .ok (.iconst 0, 1) := by decide +kernel
theorem dX10_many_2 : decode cX10_many 2 = .ok (.iconst 1, 1) := by decide +kernel
theorem dX10_many_3 : decode cX10_many 3 = .ok (.invokestatic 89, 3) := by decide +kernel
theorem dX10_many_6 : decode cX10_many 6 = .ok (.ifCond .ne 5, 3) := by decide +kernel
theorem dX10_many_9 : decode cX10_many 9 = .ok (.iconst (-1), 1) := by decide +kernel
theorem dX10_many_10 : decode cX10_many 10 = .ok (.ireturn, 1) := by decide +kernel
theorem dX10_many_11 : decode cX10_many 11 = .ok (.aload_n 0, 1) := by decide +kernel
theorem dX10_many_12 : decode cX10_many 12 = .ok (.bipush 15, 2) := by decide +kernel
theorem dX10_many_14 : decode cX10_many 14 = .ok (.invokevirtual 164, 3) := by decide +kernel
theorem dX10_many_17 : decode cX10_many 17 = .ok (.iload_n 1, 1) := by decide +kernel
theorem dX10_many_18 : decode cX10_many 18 = .ok (.ifCond .ne 13, 3) := by decide +kernel
theorem dX10_many_21 : decode cX10_many 21 = .ok (.aload_n 0, 1) := by decide +kernel
theorem dX10_many_22 : decode cX10_many 22 = .ok (.getfield 53, 3) := by decide +kernel
theorem dX10_many_25 : decode cX10_many 25 = .ok (.invokevirtual 230, 3) := by decide +kernel
theorem dX10_many_28 : decode cX10_many 28 = .ok (.goto 10, 3) := by decide +kernel
theorem dX10_many_31 : decode cX10_many 31 = .ok (.aload_n 0, 1) := by decide +kernel
theorem dX10_many_32 : decode cX10_many 32 = .ok (.getfield 53, 3) := by decide +kernel
theorem dX10_many_35 : decode cX10_many 35 = .ok (.invokevirtual 234, 3) := by decide +kernel
theorem dX10_many_38 : decode cX10_many 38 = .ok (.ireturn, 1) := by decide +kernel
theorem dX10_ways_0 : decode cX10_ways 0 = .ok (.iload_n 1, 1) := by decide +kernel
theorem dX10_ways_1 : decode cX10_ways 1 = .ok (.iconst 0, 1) := by decide +kernel
theorem dX10_ways_2 : decode cX10_ways 2 = .ok (.bipush 10, 2) := by decide +kernel
theorem dX10_ways_4 : decode cX10_ways 4 = .ok (.invokestatic 89, 3) := by decide +kernel
theorem dX10_ways_7 : decode cX10_ways 7 = .ok (.ifCond .ne 7, 3) := by decide +kernel
theorem dX10_ways_10 : decode cX10_ways 10 = .ok (.ldc2_w 180, 3) := by decide +kernel
theorem dX10_ways_13 : decode cX10_ways 13 = .ok (.lreturn, 1) := by decide +kernel
theorem dX10_ways_14 : decode cX10_ways 14 = .ok (.aload_n 0, 1) := by decide +kernel
theorem dX10_ways_15 : decode cX10_ways 15 = .ok (.bipush 15, 2) := by decide +kernel
theorem dX10_ways_17 : decode cX10_ways 17 = .ok (.invokevirtual 164, 3) := by decide +kernel
theorem dX10_ways_20 : decode cX10_ways 20 = .ok (.aload_n 0, 1) := by decide +kernel
theorem dX10_ways_21 : decode cX10_ways 21 = .ok (.getfield 60, 3) := by decide +kernel
theorem dX10_ways_24 : decode cX10_ways 24 = .ok (.aload_n 0, 1) := by decide +kernel
theorem dX10_ways_25 : decode cX10_ways 25 = .ok (.getfield 44, 3) := by decide +kernel
theorem dX10_ways_28 : decode cX10_ways 28 = .ok (.bipush (-4), 2) := by decide +kernel
theorem dX10_ways_30 : decode cX10_ways 30 = .ok (.bipush (-4), 2) := by decide +kernel
theorem dX10_ways_32 : decode cX10_ways 32 = .ok (.invokevirtual 237, 3) := by decide +kernel
theorem dX10_ways_35 : decode cX10_ways 35 = .ok (.aload_n 0, 1) := by decide +kernel
theorem dX10_ways_36 : decode cX10_ways 36 = .ok (.getfield 60, 3) := by decide +kernel
theorem dX10_ways_39 : decode cX10_ways 39 = .ok (.aload_n 0, 1) := by decide +kernel
theorem dX10_ways_40 : decode cX10_ways 40 = .ok (.getfield 44, 3) := by decide +kernel
theorem dX10_ways_43 : decode cX10_ways 43 = .ok (.iload_n 1, 1) := by decide +kernel
theorem dX10_ways_44 : decode cX10_ways 44 = .ok (.invokevirtual 241, 3) := by decide +kernel
theorem dX10_ways_47 : decode cX10_ways 47 = .ok (.lreturn, 1) := by decide +kernel
theorem dX10_tell_0 : decode cX10_tell 0 = .ok (.iload_n 1, 1) := by decide +kernel
theorem dX10_tell_1 : decode cX10_tell 1 = .ok (.iconst 0, 1) := by decide +kernel
theorem dX10_tell_2 : decode cX10_tell 2 = .ok (.bipush 9, 2) := by decide +kernel
theorem dX10_tell_4 : decode cX10_tell 4 = .ok (.invokestatic 89, 3) := by decide +kernel
theorem dX10_tell_7 : decode cX10_tell 7 = .ok (.ifCond .eq 19, 3) := by decide +kernel
theorem dX10_tell_10 : decode cX10_tell 10 = .ok (.iload_n 2, 1) := by decide +kernel
theorem dX10_tell_11 : decode cX10_tell 11 = .ok (.bipush (-4), 2) := by decide +kernel
theorem dX10_tell_13 : decode cX10_tell 13 = .ok (.if_icmp .eq 15, 3) := by decide +kernel
theorem dX10_tell_16 : decode cX10_tell 16 = .ok (.iload_n 2, 1) := by decide +kernel
theorem dX10_tell_17 : decode cX10_tell 17 = .ok (.iconst 0, 1) := by decide +kernel
theorem dX10_tell_18 : decode cX10_tell 18 = .ok (.bipush 9, 2) := by decide +kernel
theorem dX10_tell_20 : decode cX10_tell 20 = .ok (.invokestatic 89, 3) := by decide +kernel
theorem dX10_tell_23 : decode cX10_tell 23 = .ok (.ifCond .ne 5, 3) := by decide +kernel
theorem dX10_tell_26 : decode cX10_tell 26 = .ok (.iconst (-1), 1) := by decide +kernel
theorem dX10_tell_27 : decode cX10_tell 27 = .ok (.ireturn, 1) := by decide +kernel
theorem dX10_tell_28 : decode cX10_tell 28 = .ok (.aload_n 0, 1) := by decide +kernel
theorem dX10_tell_29 : decode cX10_tell 29 = .ok (.getfield 12, 3) := by decide +kernel
theorem dX10_tell_32 : decode cX10_tell 32 = .ok (.getfield 245, 3) := by decide +kernel
theorem dX10_tell_35 : decode cX10_tell 35 = .ok (.iload_n 1, 1) := by decide +kernel
theorem dX10_tell_36 : decode cX10_tell 36 = .ok (.iaload, 1) := by decide +kernel
theorem dX10_tell_37 : decode cX10_tell 37 = .ok (.istore_n 3, 1) := by decide +kernel
theorem dX10_tell_38 : decode cX10_tell 38 = .ok (.aload_n 0, 1) := by decide +kernel
theorem dX10_tell_39 : decode cX10_tell 39 = .ok (.getfield 12, 3) := by decide +kernel
theorem dX10_tell_42 : decode cX10_tell 42 = .ok (.getfield 245, 3) := by decide +kernel
theorem dX10_tell_45 : decode cX10_tell 45 = .ok (.iload_n 1, 1) := by decide +kernel
theorem dX10_tell_46 : decode cX10_tell 46 = .ok (.iload_n 2, 1) := by decide +kernel
theorem dX10_tell_47 : decode cX10_tell 47 = .ok (.iastore, 1) := by decide +kernel
theorem dX10_tell_48 : decode cX10_tell 48 = .ok (.iload_n 3, 1) := by decide +kernel
theorem dX10_tell_49 : decode cX10_tell 49 = .ok (.ireturn, 1) := by decide +kernel
theorem dX10_adopt_0 : decode cX10_adopt 0 = .ok (.aload_n 0, 1) := by decide +kernel
theorem dX10_adopt_1 : decode cX10_adopt 1 = .ok (.invokevirtual 200, 3) := by decide +kernel
theorem dX10_adopt_4 : decode cX10_adopt 4 = .ok (.aload_n 0, 1) := by decide +kernel
theorem dX10_adopt_5 : decode cX10_adopt 5 = .ok (.getfield 53, 3) := by decide +kernel
theorem dX10_adopt_8 : decode cX10_adopt 8 = .ok (.getfield 203, 3) := by decide +kernel
theorem dX10_adopt_11 : decode cX10_adopt 11 = .ok (.iconst 0, 1) := by decide +kernel
theorem dX10_adopt_12 : decode cX10_adopt 12 = .ok (.aload_n 0, 1) := by decide +kernel
theorem dX10_adopt_13 : decode cX10_adopt 13 = .ok (.getfield 12, 3) := by decide +kernel
theorem dX10_adopt_16 : decode cX10_adopt 16 = .ok (.getfield 245, 3) := by decide +kernel
theorem dX10_adopt_19 : decode cX10_adopt 19 = .ok (.iconst 0, 1) := by decide +kernel
theorem dX10_adopt_20 : decode cX10_adopt 20 = .ok (.bipush 10, 2) := by decide +kernel
theorem dX10_adopt_22 : decode cX10_adopt 22 = .ok (.invokestatic 248, 3) := by decide +kernel
theorem dX10_adopt_25 : decode cX10_adopt 25 = .ok (.aload_n 0, 1) := by decide +kernel
theorem dX10_adopt_26 : decode cX10_adopt 26 = .ok (.getfield 53, 3) := by decide +kernel
theorem dX10_adopt_29 : decode cX10_adopt 29 = .ok (.invokevirtual 254, 3) := by decide +kernel
theorem dX10_adopt_32 : decode cX10_adopt 32 = .ok (.ireturn, 1) := by decide +kernel
theorem dX10_judge_0 : decode cX10_judge 0 = .ok (.iload_n 1, 1) := by decide +kernel
theorem dX10_judge_1 : decode cX10_judge 1 = .ok (.iconst 0, 1) := by decide +kernel
theorem dX10_judge_2 : decode cX10_judge 2 = .ok (.iconst 3, 1) := by decide +kernel
theorem dX10_judge_3 : decode cX10_judge 3 = .ok (.invokestatic 89, 3) := by decide +kernel
theorem dX10_judge_6 : decode cX10_judge 6 = .ok (.ifCond .ne 5, 3) := by decide +kernel
theorem dX10_judge_9 : decode cX10_judge 9 = .ok (.iconst (-1), 1) := by decide +kernel
theorem dX10_judge_10 : decode cX10_judge 10 = .ok (.ireturn, 1) := by decide +kernel
theorem dX10_judge_11 : decode cX10_judge 11 = .ok (.aload_n 0, 1) := by decide +kernel
theorem dX10_judge_12 : decode cX10_judge 12 = .ok (.bipush 15, 2) := by decide +kernel
theorem dX10_judge_14 : decode cX10_judge 14 = .ok (.invokevirtual 164, 3) := by decide +kernel
theorem dX10_judge_17 : decode cX10_judge 17 = .ok (.aload_n 0, 1) := by decide +kernel
theorem dX10_judge_18 : decode cX10_judge 18 = .ok (.invokevirtual 257, 3) := by decide +kernel
theorem dX10_judge_21 : decode cX10_judge 21 = .ok (.istore_n 2, 1) := by decide +kernel
theorem dX10_judge_22 : decode cX10_judge 22 = .ok (.iload_n 1, 1) := by decide +kernel
theorem dX10_judge_23 : decode cX10_judge 23 = .ok (.tableswitch 59 0 2 #[25, 27, 43], 25) := by decide +kernel
theorem dX10_judge_48 : decode cX10_judge 48 = .ok (.iload_n 2, 1) := by decide +kernel
theorem dX10_judge_49 : decode cX10_judge 49 = .ok (.ireturn, 1) := by decide +kernel
theorem dX10_judge_50 : decode cX10_judge 50 = .ok (.iload_n 2, 1) := by decide +kernel
theorem dX10_judge_51 : decode cX10_judge 51 = .ok (.bipush (-4), 2) := by decide +kernel
theorem dX10_judge_53 : decode cX10_judge 53 = .ok (.if_icmp .ne 7, 3) := by decide +kernel
theorem dX10_judge_56 : decode cX10_judge 56 = .ok (.iconst 0, 1) := by decide +kernel
theorem dX10_judge_57 : decode cX10_judge 57 = .ok (.goto 8, 3) := by decide +kernel
theorem dX10_judge_60 : decode cX10_judge 60 = .ok (.aload_n 0, 1) := by decide +kernel
theorem dX10_judge_61 : decode cX10_judge 61 = .ok (.iload_n 2, 1) := by decide +kernel
theorem dX10_judge_62 : decode cX10_judge 62 = .ok (.invokevirtual 260, 3) := by decide +kernel
theorem dX10_judge_65 : decode cX10_judge 65 = .ok (.ireturn, 1) := by decide +kernel
theorem dX10_judge_66 : decode cX10_judge 66 = .ok (.iload_n 2, 1) := by decide +kernel
theorem dX10_judge_67 : decode cX10_judge 67 = .ok (.bipush (-4), 2) := by decide +kernel
theorem dX10_judge_69 : decode cX10_judge 69 = .ok (.if_icmp .ne 10, 3) := by decide +kernel
theorem dX10_judge_72 : decode cX10_judge 72 = .ok (.aload_n 0, 1) := by decide +kernel
theorem dX10_judge_73 : decode cX10_judge 73 = .ok (.invokevirtual 263, 3) := by decide +kernel
theorem dX10_judge_76 : decode cX10_judge 76 = .ok (.goto 5, 3) := by decide +kernel
theorem dX10_judge_79 : decode cX10_judge 79 = .ok (.bipush (-4), 2) := by decide +kernel
theorem dX10_judge_81 : decode cX10_judge 81 = .ok (.ireturn, 1) := by decide +kernel
theorem dX10_judge_82 : decode cX10_judge 82 = .ok (.iload_n 2, 1) := by decide +kernel
theorem dX10_judge_83 : decode cX10_judge 83 = .ok (.bipush (-4), 2) := by decide +kernel
theorem dX10_judge_85 : decode cX10_judge 85 = .ok (.if_icmp .ne 20, 3) := by decide +kernel
theorem dX10_judge_88 : decode cX10_judge 88 = .ok (.aload_n 0, 1) := by decide +kernel
theorem dX10_judge_89 : decode cX10_judge 89 = .ok (.invokevirtual 263, 3) := by decide +kernel
theorem dX10_judge_92 : decode cX10_judge 92 = .ok (.i2l, 1) := by decide +kernel
theorem dX10_judge_93 : decode cX10_judge 93 = .ok (.aload_n 0, 1) := by decide +kernel
theorem dX10_judge_94 : decode cX10_judge 94 = .ok (.getfield 53, 3) := by decide +kernel
theorem dX10_judge_97 : decode cX10_judge 97 = .ok (.invokevirtual 182, 3) := by decide +kernel
theorem dX10_judge_100 : decode cX10_judge 100 = .ok (.lsub, 1) := by decide +kernel
theorem dX10_judge_101 : decode cX10_judge 101 = .ok (.l2i, 1) := by decide +kernel
theorem dX10_judge_102 : decode cX10_judge 102 = .ok (.goto 5, 3) := by decide +kernel
theorem dX10_judge_105 : decode cX10_judge 105 = .ok (.bipush (-4), 2) := by decide +kernel
theorem dX10_judge_107 : decode cX10_judge 107 = .ok (.ireturn, 1) := by decide +kernel
theorem dX10_prices_0 : decode cX10_prices 0 = .ok (.aload_n 0, 1) := by decide +kernel
theorem dX10_prices_1 : decode cX10_prices 1 = .ok (.iload_n 1, 1) := by decide +kernel
theorem dX10_prices_2 : decode cX10_prices 2 = .ok (.invokevirtual 266, 3) := by decide +kernel
theorem dX10_prices_5 : decode cX10_prices 5 = .ok (.ifCond .eq 20, 3) := by decide +kernel
theorem dX10_prices_8 : decode cX10_prices 8 = .ok (.iload_n 2, 1) := by decide +kernel
theorem dX10_prices_9 : decode cX10_prices 9 = .ok (.invokestatic 269, 3) := by decide +kernel
theorem dX10_prices_12 : decode cX10_prices 12 = .ok (.ifCond .eq 13, 3) := by decide +kernel
theorem dX10_prices_15 : decode cX10_prices 15 = .ok (.iload 4, 2) := by decide +kernel
theorem dX10_prices_17 : decode cX10_prices 17 = .ok (.iconst 0, 1) := by decide +kernel
theorem dX10_prices_18 : decode cX10_prices 18 = .ok (.iconst 4, 1) := by decide +kernel
theorem dX10_prices_19 : decode cX10_prices 19 = .ok (.invokestatic 89, 3) := by decide +kernel
theorem dX10_prices_22 : decode cX10_prices 22 = .ok (.ifCond .ne 7, 3) := by decide +kernel
theorem dX10_prices_25 : decode cX10_prices 25 = .ok (.ldc_w 272, 3) := by decide +kernel
theorem dX10_prices_28 : decode cX10_prices 28 = .ok (.ireturn, 1) := by decide +kernel
theorem dX10_prices_29 : decode cX10_prices 29 = .ok (.aload_n 0, 1) := by decide +kernel
theorem dX10_prices_30 : decode cX10_prices 30 = .ok (.aload_n 0, 1) := by decide +kernel
theorem dX10_prices_31 : decode cX10_prices 31 = .ok (.getfield 23, 3) := by decide +kernel
theorem dX10_prices_34 : decode cX10_prices 34 = .ok (.iload_n 1, 1) := by decide +kernel
theorem dX10_prices_35 : decode cX10_prices 35 = .ok (.aaload, 1) := by decide +kernel
theorem dX10_prices_36 : decode cX10_prices 36 = .ok (.iload_n 2, 1) := by decide +kernel
theorem dX10_prices_37 : decode cX10_prices 37 = .ok (.iload_n 3, 1) := by decide +kernel
theorem dX10_prices_38 : decode cX10_prices 38 = .ok (.invokevirtual 273, 3) := by decide +kernel
theorem dX10_prices_41 : decode cX10_prices 41 = .ok (.istore 5, 2) := by decide +kernel
theorem dX10_prices_43 : decode cX10_prices 43 = .ok (.iload 5, 2) := by decide +kernel
theorem dX10_prices_45 : decode cX10_prices 45 = .ok (.ifCond .eq 6, 3) := by decide +kernel
theorem dX10_prices_48 : decode cX10_prices 48 = .ok (.iload 5, 2) := by decide +kernel
theorem dX10_prices_50 : decode cX10_prices 50 = .ok (.ireturn, 1) := by decide +kernel
theorem dX10_prices_51 : decode cX10_prices 51 = .ok (.aload_n 0, 1) := by decide +kernel
theorem dX10_prices_52 : decode cX10_prices 52 = .ok (.bipush 15, 2) := by decide +kernel
theorem dX10_prices_54 : decode cX10_prices 54 = .ok (.invokevirtual 164, 3) := by decide +kernel
theorem dX10_prices_57 : decode cX10_prices 57 = .ok (.aload_n 0, 1) := by decide +kernel
theorem dX10_prices_58 : decode cX10_prices 58 = .ok (.invokevirtual 277, 3) := by decide +kernel
theorem dX10_prices_61 : decode cX10_prices 61 = .ok (.istore 6, 2) := by decide +kernel
theorem dX10_prices_63 : decode cX10_prices 63 = .ok (.aload_n 0, 1) := by decide +kernel
theorem dX10_prices_64 : decode cX10_prices 64 = .ok (.invokevirtual 280, 3) := by decide +kernel
theorem dX10_prices_67 : decode cX10_prices 67 = .ok (.istore 7, 2) := by decide +kernel
theorem dX10_prices_69 : decode cX10_prices 69 = .ok (.iload 6, 2) := by decide +kernel
theorem dX10_prices_71 : decode cX10_prices 71 = .ok (.bipush (-4), 2) := by decide +kernel
theorem dX10_prices_73 : decode cX10_prices 73 = .ok (.if_icmp .ne 14, 3) := by decide +kernel
theorem dX10_prices_76 : decode cX10_prices 76 = .ok (.iload 7, 2) := by decide +kernel
theorem dX10_prices_78 : decode cX10_prices 78 = .ok (.bipush (-4), 2) := by decide +kernel
theorem dX10_prices_80 : decode cX10_prices 80 = .ok (.if_icmp .ne 7, 3) := by decide +kernel
theorem dX10_prices_83 : decode cX10_prices 83 = .ok (.iconst 1, 1) := by decide +kernel
theorem dX10_prices_84 : decode cX10_prices 84 = .ok (.goto 4, 3) := by decide +kernel
theorem dX10_prices_87 : decode cX10_prices 87 = .ok (.iconst 0, 1) := by decide +kernel
theorem dX10_prices_88 : decode cX10_prices 88 = .ok (.istore 8, 2) := by decide +kernel
theorem dX10_prices_90 : decode cX10_prices 90 = .ok (.iload 4, 2) := by decide +kernel
theorem dX10_prices_92 : decode cX10_prices 92 = .ok (.tableswitch 64 0 3 #[32, 43, 46, 49], 32) := by decide +kernel
theorem dX10_prices_124 : decode cX10_prices 124 = .ok (.iload 8, 2) := by decide +kernel
theorem dX10_prices_126 : decode cX10_prices 126 = .ok (.ifCond .eq 7, 3) := by decide +kernel
theorem dX10_prices_129 : decode cX10_prices 129 = .ok (.iconst 1, 1) := by decide +kernel
theorem dX10_prices_130 : decode cX10_prices 130 = .ok (.goto 4, 3) := by decide +kernel
theorem dX10_prices_133 : decode cX10_prices 133 = .ok (.iconst 0, 1) := by decide +kernel
theorem dX10_prices_134 : decode cX10_prices 134 = .ok (.ireturn, 1) := by decide +kernel
theorem dX10_prices_135 : decode cX10_prices 135 = .ok (.iload 6, 2) := by decide +kernel
theorem dX10_prices_137 : decode cX10_prices 137 = .ok (.ireturn, 1) := by decide +kernel
theorem dX10_prices_138 : decode cX10_prices 138 = .ok (.iload 7, 2) := by decide +kernel
theorem dX10_prices_140 : decode cX10_prices 140 = .ok (.ireturn, 1) := by decide +kernel
theorem dX10_prices_141 : decode cX10_prices 141 = .ok (.iload 8, 2) := by decide +kernel
theorem dX10_prices_143 : decode cX10_prices 143 = .ok (.ifCond .eq 10, 3) := by decide +kernel
theorem dX10_prices_146 : decode cX10_prices 146 = .ok (.aload_n 0, 1) := by decide +kernel
theorem dX10_prices_147 : decode cX10_prices 147 = .ok (.invokevirtual 283, 3) := by decide +kernel
theorem dX10_prices_150 : decode cX10_prices 150 = .ok (.goto 5, 3) := by decide +kernel
theorem dX10_prices_153 : decode cX10_prices 153 = .ok (.bipush (-4), 2) := by decide +kernel
theorem dX10_prices_155 : decode cX10_prices 155 = .ok (.ireturn, 1) := by decide +kernel
theorem dX10_prices_156 : decode cX10_prices 156 = .ok (.iload 8, 2) := by decide +kernel
theorem dX10_prices_158 : decode cX10_prices 158 = .ok (.ifCond .eq 20, 3) := by decide +kernel
theorem dX10_prices_161 : decode cX10_prices 161 = .ok (.aload_n 0, 1) := by decide +kernel
theorem dX10_prices_162 : decode cX10_prices 162 = .ok (.getfield 53, 3) := by decide +kernel
theorem dX10_prices_165 : decode cX10_prices 165 = .ok (.invokevirtual 182, 3) := by decide +kernel
theorem dX10_prices_168 : decode cX10_prices 168 = .ok (.aload_n 0, 1) := by decide +kernel
theorem dX10_prices_169 : decode cX10_prices 169 = .ok (.invokevirtual 283, 3) := by decide +kernel
theorem dX10_prices_172 : decode cX10_prices 172 = .ok (.i2l, 1) := by decide +kernel
theorem dX10_prices_173 : decode cX10_prices 173 = .ok (.lsub, 1) := by decide +kernel
theorem dX10_prices_174 : decode cX10_prices 174 = .ok (.l2i, 1) := by decide +kernel
theorem dX10_prices_175 : decode cX10_prices 175 = .ok (.goto 5, 3) := by decide +kernel
theorem dX10_prices_178 : decode cX10_prices 178 = .ok (.bipush (-4), 2) := by decide +kernel
theorem dX10_prices_180 : decode cX10_prices 180 = .ok (.ireturn, 1) := by decide +kernel
theorem dX10_times_0 : decode cX10_times 0 = .ok (.iload_n 1, 1) := by decide +kernel
theorem dX10_times_1 : decode cX10_times 1 = .ok (.iconst 0, 1) := by decide +kernel
theorem dX10_times_2 : decode cX10_times 2 = .ok (.bipush 6, 2) := by decide +kernel
theorem dX10_times_4 : decode cX10_times 4 = .ok (.invokestatic 89, 3) := by decide +kernel
theorem dX10_times_7 : decode cX10_times 7 = .ok (.ifCond .ne 7, 3) := by decide +kernel
theorem dX10_times_10 : decode cX10_times 10 = .ok (.sipush (-10000), 3) := by decide +kernel
theorem dX10_times_13 : decode cX10_times 13 = .ok (.ireturn, 1) := by decide +kernel
theorem dX10_times_14 : decode cX10_times 14 = .ok (.aload_n 0, 1) := by decide +kernel
theorem dX10_times_15 : decode cX10_times 15 = .ok (.invokevirtual 200, 3) := by decide +kernel
theorem dX10_times_18 : decode cX10_times 18 = .ok (.iload_n 1, 1) := by decide +kernel
theorem dX10_times_19 : decode cX10_times 19 = .ok (.ifCond .ne 11, 3) := by decide +kernel
theorem dX10_times_22 : decode cX10_times 22 = .ok (.aload_n 0, 1) := by decide +kernel
theorem dX10_times_23 : decode cX10_times 23 = .ok (.getfield 53, 3) := by decide +kernel
theorem dX10_times_26 : decode cX10_times 26 = .ok (.invokevirtual 254, 3) := by decide +kernel
theorem dX10_times_29 : decode cX10_times 29 = .ok (.ireturn, 1) := by decide +kernel
theorem dX10_times_30 : decode cX10_times 30 = .ok (.iload_n 1, 1) := by decide +kernel
theorem dX10_times_31 : decode cX10_times 31 = .ok (.iconst 2, 1) := by decide +kernel
theorem dX10_times_32 : decode cX10_times 32 = .ok (.if_icmp .gt 18, 3) := by decide +kernel
theorem dX10_times_35 : decode cX10_times 35 = .ok (.aload_n 0, 1) := by decide +kernel
theorem dX10_times_36 : decode cX10_times 36 = .ok (.iload_n 1, 1) := by decide +kernel
theorem dX10_times_37 : decode cX10_times 37 = .ok (.iconst 1, 1) := by decide +kernel
theorem dX10_times_38 : decode cX10_times 38 = .ok (.if_icmp .ne 7, 3) := by decide +kernel
theorem dX10_times_41 : decode cX10_times 41 = .ok (.iconst 1, 1) := by decide +kernel
theorem dX10_times_42 : decode cX10_times 42 = .ok (.goto 4, 3) := by decide +kernel
theorem dX10_times_45 : decode cX10_times 45 = .ok (.iconst 0, 1) := by decide +kernel
theorem dX10_times_46 : decode cX10_times 46 = .ok (.invokevirtual 286, 3) := by decide +kernel
theorem dX10_times_49 : decode cX10_times 49 = .ok (.ireturn, 1) := by decide +kernel
theorem dX10_times_50 : decode cX10_times 50 = .ok (.aload_n 0, 1) := by decide +kernel
theorem dX10_times_51 : decode cX10_times 51 = .ok (.iload_n 1, 1) := by decide +kernel
theorem dX10_times_52 : decode cX10_times 52 = .ok (.iconst 5, 1) := by decide +kernel
theorem dX10_times_53 : decode cX10_times 53 = .ok (.if_icmp .lt 7, 3) := by decide +kernel
theorem dX10_times_56 : decode cX10_times 56 = .ok (.iconst 1, 1) := by decide +kernel
theorem dX10_times_57 : decode cX10_times 57 = .ok (.goto 4, 3) := by decide +kernel
theorem dX10_times_60 : decode cX10_times 60 = .ok (.iconst 0, 1) := by decide +kernel
theorem dX10_times_61 : decode cX10_times 61 = .ok (.iload_n 1, 1) := by decide +kernel
theorem dX10_times_62 : decode cX10_times 62 = .ok (.iconst 3, 1) := by decide +kernel
theorem dX10_times_63 : decode cX10_times 63 = .ok (.isub, 1) := by decide +kernel
theorem dX10_times_64 : decode cX10_times 64 = .ok (.iconst 2, 1) := by decide +kernel
theorem dX10_times_65 : decode cX10_times 65 = .ok (.irem, 1) := by decide +kernel
theorem dX10_times_66 : decode cX10_times 66 = .ok (.invokevirtual 290, 3) := by decide +kernel
theorem dX10_times_69 : decode cX10_times 69 = .ok (.ireturn, 1) := by decide +kernel
theorem dX10_clock_0 : decode cX10_clock 0 = .ok (.iload_n 1, 1) := by decide +kernel
theorem dX10_clock_1 : decode cX10_clock 1 = .ok (.iconst 0, 1) := by decide +kernel
theorem dX10_clock_2 : decode cX10_clock 2 = .ok (.iconst 1, 1) := by decide +kernel
theorem dX10_clock_3 : decode cX10_clock 3 = .ok (.invokestatic 89, 3) := by decide +kernel
theorem dX10_clock_6 : decode cX10_clock 6 = .ok (.ifCond .ne 7, 3) := by decide +kernel
theorem dX10_clock_9 : decode cX10_clock 9 = .ok (.sipush (-1000), 3) := by decide +kernel
theorem dX10_clock_12 : decode cX10_clock 12 = .ok (.ireturn, 1) := by decide +kernel
theorem dX10_clock_13 : decode cX10_clock 13 = .ok (.aload_n 0, 1) := by decide +kernel
theorem dX10_clock_14 : decode cX10_clock 14 = .ok (.getfield 12, 3) := by decide +kernel
theorem dX10_clock_17 : decode cX10_clock 17 = .ok (.getfield 97, 3) := by decide +kernel
theorem dX10_clock_20 : decode cX10_clock 20 = .ok (.getfield 107, 3) := by decide +kernel
theorem dX10_clock_23 : decode cX10_clock 23 = .ok (.bipush 9, 2) := by decide +kernel
theorem dX10_clock_25 : decode cX10_clock 25 = .ok (.iaload, 1) := by decide +kernel
theorem dX10_clock_26 : decode cX10_clock 26 = .ok (.istore_n 2, 1) := by decide +kernel
theorem dX10_clock_27 : decode cX10_clock 27 = .ok (.bipush (-30), 2) := by decide +kernel
theorem dX10_clock_29 : decode cX10_clock 29 = .ok (.istore_n 3, 1) := by decide +kernel
theorem dX10_clock_30 : decode cX10_clock 30 = .ok (.ldc2_w 296, 3) := by decide +kernel
theorem dX10_clock_33 : decode cX10_clock 33 = .ok (.lstore 4, 2) := by decide +kernel
theorem dX10_clock_35 : decode cX10_clock 35 = .ok (.aload_n 0, 1) := by decide +kernel
theorem dX10_clock_36 : decode cX10_clock 36 = .ok (.getfield 44, 3) := by decide +kernel
theorem dX10_clock_39 : decode cX10_clock 39 = .ok (.aload_n 0, 1) := by decide +kernel
theorem dX10_clock_40 : decode cX10_clock 40 = .ok (.getfield 12, 3) := by decide +kernel
theorem dX10_clock_43 : decode cX10_clock 43 = .ok (.bipush 15, 2) := by decide +kernel
theorem dX10_clock_45 : decode cX10_clock 45 = .ok (.invokevirtual 298, 3) := by decide +kernel
theorem dX10_clock_48 : decode cX10_clock 48 = .ok (.bipush (-30), 2) := by decide +kernel
theorem dX10_clock_50 : decode cX10_clock 50 = .ok (.istore 6, 2) := by decide +kernel
theorem dX10_clock_52 : decode cX10_clock 52 = .ok (.iload 6, 2) := by decide +kernel
theorem dX10_clock_54 : decode cX10_clock 54 = .ok (.bipush 30, 2) := by decide +kernel
theorem dX10_clock_56 : decode cX10_clock 56 = .ok (.if_icmp .gt 70, 3) := by decide +kernel
theorem dX10_clock_59 : decode cX10_clock 59 = .ok (.aload_n 0, 1) := by decide +kernel
theorem dX10_clock_60 : decode cX10_clock 60 = .ok (.getfield 44, 3) := by decide +kernel
theorem dX10_clock_63 : decode cX10_clock 63 = .ok (.aload_n 0, 1) := by decide +kernel
theorem dX10_clock_64 : decode cX10_clock 64 = .ok (.getfield 12, 3) := by decide +kernel
theorem dX10_clock_67 : decode cX10_clock 67 = .ok (.iload 6, 2) := by decide +kernel
theorem dX10_clock_69 : decode cX10_clock 69 = .ok (.invokevirtual 302, 3) := by decide +kernel
theorem dX10_clock_72 : decode cX10_clock 72 = .ok (.aload_n 0, 1) := by decide +kernel
theorem dX10_clock_73 : decode cX10_clock 73 = .ok (.getfield 53, 3) := by decide +kernel
theorem dX10_clock_76 : decode cX10_clock 76 = .ok (.invokevirtual 182, 3) := by decide +kernel
theorem dX10_clock_79 : decode cX10_clock 79 = .ok (.lstore 7, 2) := by decide +kernel
theorem dX10_clock_81 : decode cX10_clock 81 = .ok (.lload 7, 2) := by decide +kernel
theorem dX10_clock_83 : decode cX10_clock 83 = .ok (.lload 4, 2) := by decide +kernel
theorem dX10_clock_85 : decode cX10_clock 85 = .ok (.lcmp, 1) := by decide +kernel
theorem dX10_clock_86 : decode cX10_clock 86 = .ok (.ifCond .lt 27, 3) := by decide +kernel
theorem dX10_clock_89 : decode cX10_clock 89 = .ok (.lload 7, 2) := by decide +kernel
theorem dX10_clock_91 : decode cX10_clock 91 = .ok (.lload 4, 2) := by decide +kernel
theorem dX10_clock_93 : decode cX10_clock 93 = .ok (.lcmp, 1) := by decide +kernel
theorem dX10_clock_94 : decode cX10_clock 94 = .ok (.ifCond .ne 26, 3) := by decide +kernel
theorem dX10_clock_97 : decode cX10_clock 97 = .ok (.iload 6, 2) := by decide +kernel
theorem dX10_clock_99 : decode cX10_clock 99 = .ok (.iload_n 2, 1) := by decide +kernel
theorem dX10_clock_100 : decode cX10_clock 100 = .ok (.isub, 1) := by decide +kernel
theorem dX10_clock_101 : decode cX10_clock 101 = .ok (.invokestatic 305, 3) := by decide +kernel
theorem dX10_clock_104 : decode cX10_clock 104 = .ok (.iload_n 3, 1) := by decide +kernel
theorem dX10_clock_105 : decode cX10_clock 105 = .ok (.iload_n 2, 1) := by decide +kernel
theorem dX10_clock_106 : decode cX10_clock 106 = .ok (.isub, 1) := by decide +kernel
theorem dX10_clock_107 : decode cX10_clock 107 = .ok (.invokestatic 305, 3) := by decide +kernel
theorem dX10_clock_110 : decode cX10_clock 110 = .ok (.if_icmp .ge 10, 3) := by decide +kernel
theorem dX10_clock_113 : decode cX10_clock 113 = .ok (.lload 7, 2) := by decide +kernel
theorem dX10_clock_115 : decode cX10_clock 115 = .ok (.lstore 4, 2) := by decide +kernel
theorem dX10_clock_117 : decode cX10_clock 117 = .ok (.iload 6, 2) := by decide +kernel
theorem dX10_clock_119 : decode cX10_clock 119 = .ok (.istore_n 3, 1) := by decide +kernel
theorem dX10_clock_120 : decode cX10_clock 120 = .ok (.iinc 6 1, 3) := by decide +kernel
theorem dX10_clock_123 : decode cX10_clock 123 = .ok (.goto (-71), 3) := by decide +kernel
theorem dX10_clock_126 : decode cX10_clock 126 = .ok (.iload_n 1, 1) := by decide +kernel
theorem dX10_clock_127 : decode cX10_clock 127 = .ok (.ifCond .ne 7, 3) := by decide +kernel
theorem dX10_clock_130 : decode cX10_clock 130 = .ok (.iload_n 3, 1) := by decide +kernel
theorem dX10_clock_131 : decode cX10_clock 131 = .ok (.goto 6, 3) := by decide +kernel
theorem dX10_clock_134 : decode cX10_clock 134 = .ok (.lload 4, 2) := by decide +kernel
theorem dX10_clock_136 : decode cX10_clock 136 = .ok (.l2i, 1) := by decide +kernel
theorem dX10_clock_137 : decode cX10_clock 137 = .ok (.ireturn, 1) := by decide +kernel
theorem dX10_passed_0 : decode cX10_passed 0 = .ok (.iload_n 1, 1) := by decide +kernel
theorem dX10_passed_1 : decode cX10_passed 1 = .ok (.iconst 0, 1) := by decide +kernel
theorem dX10_passed_2 : decode cX10_passed 2 = .ok (.iconst 2, 1) := by decide +kernel
theorem dX10_passed_3 : decode cX10_passed 3 = .ok (.invokestatic 89, 3) := by decide +kernel
theorem dX10_passed_6 : decode cX10_passed 6 = .ok (.ifCond .ne 5, 3) := by decide +kernel
theorem dX10_passed_9 : decode cX10_passed 9 = .ok (.iconst (-1), 1) := by decide +kernel
theorem dX10_passed_10 : decode cX10_passed 10 = .ok (.ireturn, 1) := by decide +kernel
theorem dX10_passed_11 : decode cX10_passed 11 = .ok (.aload_n 0, 1) := by decide +kernel
theorem dX10_passed_12 : decode cX10_passed 12 = .ok (.invokevirtual 200, 3) := by decide +kernel
theorem dX10_passed_15 : decode cX10_passed 15 = .ok (.iload_n 1, 1) := by decide +kernel
theorem dX10_passed_16 : decode cX10_passed 16 = .ok (.lookupswitch 38 #[(0, 28), (1, 33)], 28) := by decide +kernel
theorem dX10_passed_44 : decode cX10_passed 44 = .ok (.aload_n 0, 1) := by decide +kernel
theorem dX10_passed_45 : decode cX10_passed 45 = .ok (.invokevirtual 310, 3) := by decide +kernel
theorem dX10_passed_48 : decode cX10_passed 48 = .ok (.ireturn, 1) := by decide +kernel
theorem dX10_passed_49 : decode cX10_passed 49 = .ok (.aload_n 0, 1) := by decide +kernel
theorem dX10_passed_50 : decode cX10_passed 50 = .ok (.invokevirtual 313, 3) := by decide +kernel
theorem dX10_passed_53 : decode cX10_passed 53 = .ok (.ireturn, 1) := by decide +kernel
theorem dX10_passed_54 : decode cX10_passed 54 = .ok (.aload_n 0, 1) := by decide +kernel
theorem dX10_passed_55 : decode cX10_passed 55 = .ok (.invokevirtual 316, 3) := by decide +kernel
theorem dX10_passed_58 : decode cX10_passed 58 = .ok (.ireturn, 1) := by decide +kernel
theorem dX10_reads_0 : decode cX10_reads 0 = .ok (.iload_n 1, 1) := by decide +kernel
theorem dX10_reads_1 : decode cX10_reads 1 = .ok (.invokestatic 110, 3) := by decide +kernel
theorem dX10_reads_4 : decode cX10_reads 4 = .ok (.ifCond .eq 10, 3) := by decide +kernel
theorem dX10_reads_7 : decode cX10_reads 7 = .ok (.iload_n 2, 1) := by decide +kernel
theorem dX10_reads_8 : decode cX10_reads 8 = .ok (.invokestatic 110, 3) := by decide +kernel
theorem dX10_reads_11 : decode cX10_reads 11 = .ok (.ifCond .ne 5, 3) := by decide +kernel
theorem dX10_reads_14 : decode cX10_reads 14 = .ok (.iconst (-1), 1) := by decide +kernel
theorem dX10_reads_15 : decode cX10_reads 15 = .ok (.ireturn, 1) := by decide +kernel
theorem dX10_reads_16 : decode cX10_reads 16 = .ok (.aload_n 0, 1) := by decide +kernel
theorem dX10_reads_17 : decode cX10_reads 17 = .ok (.invokevirtual 200, 3) := by decide +kernel
theorem dX10_reads_20 : decode cX10_reads 20 = .ok (.aload_n 0, 1) := by decide +kernel
theorem dX10_reads_21 : decode cX10_reads 21 = .ok (.invokevirtual 319, 3) := by decide +kernel
theorem dX10_reads_24 : decode cX10_reads 24 = .ok (.aload_n 0, 1) := by decide +kernel
theorem dX10_reads_25 : decode cX10_reads 25 = .ok (.getfield 75, 3) := by decide +kernel
theorem dX10_reads_28 : decode cX10_reads 28 = .ok (.iload_n 1, 1) := by decide +kernel
theorem dX10_reads_29 : decode cX10_reads 29 = .ok (.bipush 8, 2) := by decide +kernel
theorem dX10_reads_31 : decode cX10_reads 31 = .ok (.imul, 1) := by decide +kernel
theorem dX10_reads_32 : decode cX10_reads 32 = .ok (.iload_n 2, 1) := by decide +kernel
theorem dX10_reads_33 : decode cX10_reads 33 = .ok (.iadd, 1) := by decide +kernel
theorem dX10_reads_34 : decode cX10_reads 34 = .ok (.iaload, 1) := by decide +kernel
theorem dX10_reads_35 : decode cX10_reads 35 = .ok (.ireturn, 1) := by decide +kernel
theorem dX10_blame_0 : decode cX10_blame 0 = .ok (.iload_n 1, 1) := by decide +kernel
theorem dX10_blame_1 : decode cX10_blame 1 = .ok (.iconst 0, 1) := by decide +kernel
theorem dX10_blame_2 : decode cX10_blame 2 = .ok (.iconst 2, 1) := by decide +kernel
theorem dX10_blame_3 : decode cX10_blame 3 = .ok (.invokestatic 89, 3) := by decide +kernel
theorem dX10_blame_6 : decode cX10_blame 6 = .ok (.ifCond .ne 5, 3) := by decide +kernel
theorem dX10_blame_9 : decode cX10_blame 9 = .ok (.iconst (-1), 1) := by decide +kernel
theorem dX10_blame_10 : decode cX10_blame 10 = .ok (.ireturn, 1) := by decide +kernel
theorem dX10_blame_11 : decode cX10_blame 11 = .ok (.aload_n 0, 1) := by decide +kernel
theorem dX10_blame_12 : decode cX10_blame 12 = .ok (.invokevirtual 200, 3) := by decide +kernel
theorem dX10_blame_15 : decode cX10_blame 15 = .ok (.aload_n 0, 1) := by decide +kernel
theorem dX10_blame_16 : decode cX10_blame 16 = .ok (.invokevirtual 319, 3) := by decide +kernel
theorem dX10_blame_19 : decode cX10_blame 19 = .ok (.aload_n 0, 1) := by decide +kernel
theorem dX10_blame_20 : decode cX10_blame 20 = .ok (.invokevirtual 322, 3) := by decide +kernel
theorem dX10_blame_23 : decode cX10_blame 23 = .ok (.istore_n 2, 1) := by decide +kernel
theorem dX10_blame_24 : decode cX10_blame 24 = .ok (.iload_n 2, 1) := by decide +kernel
theorem dX10_blame_25 : decode cX10_blame 25 = .ok (.bipush (-4), 2) := by decide +kernel
theorem dX10_blame_27 : decode cX10_blame 27 = .ok (.if_icmp .ne 6, 3) := by decide +kernel
theorem dX10_blame_30 : decode cX10_blame 30 = .ok (.bipush (-4), 2) := by decide +kernel
theorem dX10_blame_32 : decode cX10_blame 32 = .ok (.ireturn, 1) := by decide +kernel
theorem dX10_blame_33 : decode cX10_blame 33 = .ok (.iload_n 1, 1) := by decide +kernel
theorem dX10_blame_34 : decode cX10_blame 34 = .ok (.lookupswitch 36 #[(0, 26), (1, 31)], 26) := by decide +kernel
theorem dX10_blame_60 : decode cX10_blame 60 = .ok (.iload_n 2, 1) := by decide +kernel
theorem dX10_blame_61 : decode cX10_blame 61 = .ok (.bipush 8, 2) := by decide +kernel
theorem dX10_blame_63 : decode cX10_blame 63 = .ok (.idiv, 1) := by decide +kernel
theorem dX10_blame_64 : decode cX10_blame 64 = .ok (.ireturn, 1) := by decide +kernel
theorem dX10_blame_65 : decode cX10_blame 65 = .ok (.iload_n 2, 1) := by decide +kernel
theorem dX10_blame_66 : decode cX10_blame 66 = .ok (.bipush 8, 2) := by decide +kernel
theorem dX10_blame_68 : decode cX10_blame 68 = .ok (.irem, 1) := by decide +kernel
theorem dX10_blame_69 : decode cX10_blame 69 = .ok (.ireturn, 1) := by decide +kernel
theorem dX10_blame_70 : decode cX10_blame 70 = .ok (.aload_n 0, 1) := by decide +kernel
theorem dX10_blame_71 : decode cX10_blame 71 = .ok (.getfield 75, 3) := by decide +kernel
theorem dX10_blame_74 : decode cX10_blame 74 = .ok (.iload_n 2, 1) := by decide +kernel
theorem dX10_blame_75 : decode cX10_blame 75 = .ok (.iaload, 1) := by decide +kernel
theorem dX10_blame_76 : decode cX10_blame 76 = .ok (.ireturn, 1) := by decide +kernel
theorem dX10_learn_0 : decode cX10_learn 0 = .ok (.iload_n 1, 1) := by decide +kernel
theorem dX10_learn_1 : decode cX10_learn 1 = .ok (.iconst 0, 1) := by decide +kernel
theorem dX10_learn_2 : decode cX10_learn 2 = .ok (.bipush 50, 2) := by decide +kernel
theorem dX10_learn_4 : decode cX10_learn 4 = .ok (.invokestatic 89, 3) := by decide +kernel
theorem dX10_learn_7 : decode cX10_learn 7 = .ok (.ifCond .ne 5, 3) := by decide +kernel
theorem dX10_learn_10 : decode cX10_learn 10 = .ok (.iconst (-1), 1) := by decide +kernel
theorem dX10_learn_11 : decode cX10_learn 11 = .ok (.ireturn, 1) := by decide +kernel
theorem dX10_learn_12 : decode cX10_learn 12 = .ok (.aload_n 0, 1) := by decide +kernel
theorem dX10_learn_13 : decode cX10_learn 13 = .ok (.invokevirtual 200, 3) := by decide +kernel
theorem dX10_learn_16 : decode cX10_learn 16 = .ok (.aload_n 0, 1) := by decide +kernel
theorem dX10_learn_17 : decode cX10_learn 17 = .ok (.invokevirtual 319, 3) := by decide +kernel
theorem dX10_learn_20 : decode cX10_learn 20 = .ok (.aload_n 0, 1) := by decide +kernel
theorem dX10_learn_21 : decode cX10_learn 21 = .ok (.invokevirtual 322, 3) := by decide +kernel
theorem dX10_learn_24 : decode cX10_learn 24 = .ok (.istore_n 2, 1) := by decide +kernel
theorem dX10_learn_25 : decode cX10_learn 25 = .ok (.iload_n 2, 1) := by decide +kernel
theorem dX10_learn_26 : decode cX10_learn 26 = .ok (.bipush (-4), 2) := by decide +kernel
theorem dX10_learn_28 : decode cX10_learn 28 = .ok (.if_icmp .ne 6, 3) := by decide +kernel
theorem dX10_learn_31 : decode cX10_learn 31 = .ok (.bipush (-2), 2) := by decide +kernel
theorem dX10_learn_33 : decode cX10_learn 33 = .ok (.ireturn, 1) := by decide +kernel
theorem dX10_learn_34 : decode cX10_learn 34 = .ok (.aload_n 0, 1) := by decide +kernel
theorem dX10_learn_35 : decode cX10_learn 35 = .ok (.getfield 12, 3) := by decide +kernel
theorem dX10_learn_38 : decode cX10_learn 38 = .ok (.getfield 97, 3) := by decide +kernel
theorem dX10_learn_41 : decode cX10_learn 41 = .ok (.getfield 114, 3) := by decide +kernel
theorem dX10_learn_44 : decode cX10_learn 44 = .ok (.iload_n 2, 1) := by decide +kernel
theorem dX10_learn_45 : decode cX10_learn 45 = .ok (.iaload, 1) := by decide +kernel
theorem dX10_learn_46 : decode cX10_learn 46 = .ok (.istore_n 3, 1) := by decide +kernel
theorem dX10_learn_47 : decode cX10_learn 47 = .ok (.aload_n 0, 1) := by decide +kernel
theorem dX10_learn_48 : decode cX10_learn 48 = .ok (.getfield 12, 3) := by decide +kernel
theorem dX10_learn_51 : decode cX10_learn 51 = .ok (.getfield 97, 3) := by decide +kernel
theorem dX10_learn_54 : decode cX10_learn 54 = .ok (.getfield 114, 3) := by decide +kernel
theorem dX10_learn_57 : decode cX10_learn 57 = .ok (.iload_n 2, 1) := by decide +kernel
theorem dX10_learn_58 : decode cX10_learn 58 = .ok (.iload_n 1, 1) := by decide +kernel
theorem dX10_learn_59 : decode cX10_learn 59 = .ok (.iastore, 1) := by decide +kernel
theorem dX10_learn_60 : decode cX10_learn 60 = .ok (.iload_n 3, 1) := by decide +kernel
theorem dX10_learn_61 : decode cX10_learn 61 = .ok (.ireturn, 1) := by decide +kernel
theorem dX10_enough_0 : decode cX10_enough 0 = .ok (.iload_n 1, 1) := by decide +kernel
theorem dX10_enough_1 : decode cX10_enough 1 = .ok (.iconst 0, 1) := by decide +kernel
theorem dX10_enough_2 : decode cX10_enough 2 = .ok (.iconst 1, 1) := by decide +kernel
theorem dX10_enough_3 : decode cX10_enough 3 = .ok (.invokestatic 89, 3) := by decide +kernel
theorem dX10_enough_6 : decode cX10_enough 6 = .ok (.ifCond .ne 5, 3) := by decide +kernel
theorem dX10_enough_9 : decode cX10_enough 9 = .ok (.iconst (-1), 1) := by decide +kernel
theorem dX10_enough_10 : decode cX10_enough 10 = .ok (.ireturn, 1) := by decide +kernel
theorem dX10_enough_11 : decode cX10_enough 11 = .ok (.aload_n 0, 1) := by decide +kernel
theorem dX10_enough_12 : decode cX10_enough 12 = .ok (.invokevirtual 325, 3) := by decide +kernel
theorem dX10_enough_15 : decode cX10_enough 15 = .ok (.istore_n 2, 1) := by decide +kernel
theorem dX10_enough_16 : decode cX10_enough 16 = .ok (.iload_n 2, 1) := by decide +kernel
theorem dX10_enough_17 : decode cX10_enough 17 = .ok (.bipush (-4), 2) := by decide +kernel
theorem dX10_enough_19 : decode cX10_enough 19 = .ok (.if_icmp .eq 8, 3) := by decide +kernel
theorem dX10_enough_22 : decode cX10_enough 22 = .ok (.iload_n 1, 1) := by decide +kernel
theorem dX10_enough_23 : decode cX10_enough 23 = .ok (.iconst 1, 1) := by decide +kernel
theorem dX10_enough_24 : decode cX10_enough 24 = .ok (.if_icmp .ne 7, 3) := by decide +kernel
theorem dX10_enough_27 : decode cX10_enough 27 = .ok (.iload_n 2, 1) := by decide +kernel
theorem dX10_enough_28 : decode cX10_enough 28 = .ok (.goto 7, 3) := by decide +kernel
theorem dX10_enough_31 : decode cX10_enough 31 = .ok (.iload_n 2, 1) := by decide +kernel
theorem dX10_enough_32 : decode cX10_enough 32 = .ok (.invokestatic 328, 3) := by decide +kernel
theorem dX10_enough_35 : decode cX10_enough 35 = .ok (.ireturn, 1) := by decide +kernel
theorem dX10_round_0 : decode cX10_round 0 = .ok (.aload_n 0, 1) := by decide +kernel
theorem dX10_round_1 : decode cX10_round 1 = .ok (.iload_n 1, 1) := by decide +kernel
theorem dX10_round_2 : decode cX10_round 2 = .ok (.iload_n 2, 1) := by decide +kernel
theorem dX10_round_3 : decode cX10_round 3 = .ok (.invokevirtual 137, 3) := by decide +kernel
theorem dX10_round_6 : decode cX10_round 6 = .ok (.ifCond .eq 17, 3) := by decide +kernel
theorem dX10_round_9 : decode cX10_round 9 = .ok (.aload_n 0, 1) := by decide +kernel
theorem dX10_round_10 : decode cX10_round 10 = .ok (.iload_n 1, 1) := by decide +kernel
theorem dX10_round_11 : decode cX10_round 11 = .ok (.iload_n 3, 1) := by decide +kernel
theorem dX10_round_12 : decode cX10_round 12 = .ok (.invokevirtual 137, 3) := by decide +kernel
theorem dX10_round_15 : decode cX10_round 15 = .ok (.ifCond .eq 8, 3) := by decide +kernel
theorem dX10_round_18 : decode cX10_round 18 = .ok (.iload_n 2, 1) := by decide +kernel
theorem dX10_round_19 : decode cX10_round 19 = .ok (.iload_n 3, 1) := by decide +kernel
theorem dX10_round_20 : decode cX10_round 20 = .ok (.if_icmp .ne 5, 3) := by decide +kernel
theorem dX10_round_23 : decode cX10_round 23 = .ok (.iconst (-1), 1) := by decide +kernel
theorem dX10_round_24 : decode cX10_round 24 = .ok (.ireturn, 1) := by decide +kernel
theorem dX10_round_25 : decode cX10_round 25 = .ok (.aload_n 0, 1) := by decide +kernel
theorem dX10_round_26 : decode cX10_round 26 = .ok (.iload_n 1, 1) := by decide +kernel
theorem dX10_round_27 : decode cX10_round 27 = .ok (.invokevirtual 121, 3) := by decide +kernel
theorem dX10_round_30 : decode cX10_round 30 = .ok (.iload_n 2, 1) := by decide +kernel
theorem dX10_round_31 : decode cX10_round 31 = .ok (.iload_n 3, 1) := by decide +kernel
theorem dX10_round_32 : decode cX10_round 32 = .ok (.invokevirtual 333, 3) := by decide +kernel
theorem dX10_round_35 : decode cX10_round 35 = .ok (.ifCond .eq 7, 3) := by decide +kernel
theorem dX10_round_38 : decode cX10_round 38 = .ok (.iconst 1, 1) := by decide +kernel
theorem dX10_round_39 : decode cX10_round 39 = .ok (.goto 4, 3) := by decide +kernel
theorem dX10_round_42 : decode cX10_round 42 = .ok (.iconst 0, 1) := by decide +kernel
theorem dX10_round_43 : decode cX10_round 43 = .ok (.ireturn, 1) := by decide +kernel
theorem dX10_cars_0 : decode cX10_cars 0 = .ok (.iload_n 1, 1) := by decide +kernel
theorem dX10_cars_1 : decode cX10_cars 1 = .ok (.invokestatic 117, 3) := by decide +kernel
theorem dX10_cars_4 : decode cX10_cars 4 = .ok (.ifCond .eq 12, 3) := by decide +kernel
theorem dX10_cars_7 : decode cX10_cars 7 = .ok (.iload_n 2, 1) := by decide +kernel
theorem dX10_cars_8 : decode cX10_cars 8 = .ok (.iconst 0, 1) := by decide +kernel
theorem dX10_cars_9 : decode cX10_cars 9 = .ok (.iconst 1, 1) := by decide +kernel
theorem dX10_cars_10 : decode cX10_cars 10 = .ok (.invokestatic 89, 3) := by decide +kernel
theorem dX10_cars_13 : decode cX10_cars 13 = .ok (.ifCond .ne 5, 3) := by decide +kernel
theorem dX10_cars_16 : decode cX10_cars 16 = .ok (.iconst (-1), 1) := by decide +kernel
theorem dX10_cars_17 : decode cX10_cars 17 = .ok (.ireturn, 1) := by decide +kernel
theorem dX10_cars_18 : decode cX10_cars 18 = .ok (.aload_n 0, 1) := by decide +kernel
theorem dX10_cars_19 : decode cX10_cars 19 = .ok (.iload_n 1, 1) := by decide +kernel
theorem dX10_cars_20 : decode cX10_cars 20 = .ok (.invokevirtual 121, 3) := by decide +kernel
theorem dX10_cars_23 : decode cX10_cars 23 = .ok (.astore_n 3, 1) := by decide +kernel
theorem dX10_cars_24 : decode cX10_cars 24 = .ok (.iload_n 2, 1) := by decide +kernel
theorem dX10_cars_25 : decode cX10_cars 25 = .ok (.ifCond .ne 10, 3) := by decide +kernel
theorem dX10_cars_28 : decode cX10_cars 28 = .ok (.aload_n 3, 1) := by decide +kernel
theorem dX10_cars_29 : decode cX10_cars 29 = .ok (.getfield 125, 3) := by decide +kernel
theorem dX10_cars_32 : decode cX10_cars 32 = .ok (.goto 8, 3) := by decide +kernel
theorem dX10_cars_35 : decode cX10_cars 35 = .ok (.aload_n 0, 1) := by decide +kernel
theorem dX10_cars_36 : decode cX10_cars 36 = .ok (.aload_n 3, 1) := by decide +kernel
theorem dX10_cars_37 : decode cX10_cars 37 = .ok (.invokevirtual 336, 3) := by decide +kernel
theorem dX10_cars_40 : decode cX10_cars 40 = .ok (.ireturn, 1) := by decide +kernel
theorem dX10_keep_0 : decode cX10_keep 0 = .ok (.aload_n 0, 1) := by decide +kernel
theorem dX10_keep_1 : decode cX10_keep 1 = .ok (.iload_n 1, 1) := by decide +kernel
theorem dX10_keep_2 : decode cX10_keep 2 = .ok (.invokevirtual 340, 3) := by decide +kernel
theorem dX10_keep_5 : decode cX10_keep 5 = .ok (.ifCond .ne 5, 3) := by decide +kernel
theorem dX10_keep_8 : decode cX10_keep 8 = .ok (.iconst (-1), 1) := by decide +kernel
theorem dX10_keep_9 : decode cX10_keep 9 = .ok (.ireturn, 1) := by decide +kernel
theorem dX10_keep_10 : decode cX10_keep 10 = .ok (.aload_n 0, 1) := by decide +kernel
theorem dX10_keep_11 : decode cX10_keep 11 = .ok (.getfield 16, 3) := by decide +kernel
theorem dX10_keep_14 : decode cX10_keep 14 = .ok (.iload_n 1, 1) := by decide +kernel
theorem dX10_keep_15 : decode cX10_keep 15 = .ok (.aaload, 1) := by decide +kernel
theorem dX10_keep_16 : decode cX10_keep 16 = .ok (.getfield 343, 3) := by decide +kernel
theorem dX10_keep_19 : decode cX10_keep 19 = .ok (.ifCond .eq 7, 3) := by decide +kernel
theorem dX10_keep_22 : decode cX10_keep 22 = .ok (.iconst 1, 1) := by decide +kernel
theorem dX10_keep_23 : decode cX10_keep 23 = .ok (.goto 4, 3) := by decide +kernel
theorem dX10_keep_26 : decode cX10_keep 26 = .ok (.iconst 0, 1) := by decide +kernel
theorem dX10_keep_27 : decode cX10_keep 27 = .ok (.istore_n 2, 1) := by decide +kernel
theorem dX10_keep_28 : decode cX10_keep 28 = .ok (.aload_n 0, 1) := by decide +kernel
theorem dX10_keep_29 : decode cX10_keep 29 = .ok (.getfield 16, 3) := by decide +kernel
theorem dX10_keep_32 : decode cX10_keep 32 = .ok (.iload_n 1, 1) := by decide +kernel
theorem dX10_keep_33 : decode cX10_keep 33 = .ok (.aaload, 1) := by decide +kernel
theorem dX10_keep_34 : decode cX10_keep 34 = .ok (.aload_n 0, 1) := by decide +kernel
theorem dX10_keep_35 : decode cX10_keep 35 = .ok (.getfield 12, 3) := by decide +kernel
theorem dX10_keep_38 : decode cX10_keep 38 = .ok (.invokevirtual 347, 3) := by decide +kernel
theorem dX10_keep_41 : decode cX10_keep 41 = .ok (.aload_n 0, 1) := by decide +kernel
theorem dX10_keep_42 : decode cX10_keep 42 = .ok (.getfield 16, 3) := by decide +kernel
theorem dX10_keep_45 : decode cX10_keep 45 = .ok (.iload_n 1, 1) := by decide +kernel
theorem dX10_keep_46 : decode cX10_keep 46 = .ok (.aaload, 1) := by decide +kernel
theorem dX10_keep_47 : decode cX10_keep 47 = .ok (.iconst 1, 1) := by decide +kernel
theorem dX10_keep_48 : decode cX10_keep 48 = .ok (.putfield 343, 3) := by decide +kernel
theorem dX10_keep_51 : decode cX10_keep 51 = .ok (.iload_n 2, 1) := by decide +kernel
theorem dX10_keep_52 : decode cX10_keep 52 = .ok (.ireturn, 1) := by decide +kernel
theorem dX10_back_0 : decode cX10_back 0 = .ok (.aload_n 0, 1) := by decide +kernel
theorem dX10_back_1 : decode cX10_back 1 = .ok (.iload_n 1, 1) := by decide +kernel
theorem dX10_back_2 : decode cX10_back 2 = .ok (.invokevirtual 340, 3) := by decide +kernel
theorem dX10_back_5 : decode cX10_back 5 = .ok (.ifCond .ne 5, 3) := by decide +kernel
theorem dX10_back_8 : decode cX10_back 8 = .ok (.iconst (-1), 1) := by decide +kernel
theorem dX10_back_9 : decode cX10_back 9 = .ok (.ireturn, 1) := by decide +kernel
theorem dX10_back_10 : decode cX10_back 10 = .ok (.aload_n 0, 1) := by decide +kernel
theorem dX10_back_11 : decode cX10_back 11 = .ok (.getfield 16, 3) := by decide +kernel
theorem dX10_back_14 : decode cX10_back 14 = .ok (.iload_n 1, 1) := by decide +kernel
theorem dX10_back_15 : decode cX10_back 15 = .ok (.aaload, 1) := by decide +kernel
theorem dX10_back_16 : decode cX10_back 16 = .ok (.getfield 343, 3) := by decide +kernel
theorem dX10_back_19 : decode cX10_back 19 = .ok (.ifCond .ne 6, 3) := by decide +kernel
theorem dX10_back_22 : decode cX10_back 22 = .ok (.bipush (-2), 2) := by decide +kernel
theorem dX10_back_24 : decode cX10_back 24 = .ok (.ireturn, 1) := by decide +kernel
theorem dX10_back_25 : decode cX10_back 25 = .ok (.aload_n 0, 1) := by decide +kernel
theorem dX10_back_26 : decode cX10_back 26 = .ok (.getfield 12, 3) := by decide +kernel
theorem dX10_back_29 : decode cX10_back 29 = .ok (.aload_n 0, 1) := by decide +kernel
theorem dX10_back_30 : decode cX10_back 30 = .ok (.getfield 16, 3) := by decide +kernel
theorem dX10_back_33 : decode cX10_back 33 = .ok (.iload_n 1, 1) := by decide +kernel
theorem dX10_back_34 : decode cX10_back 34 = .ok (.aaload, 1) := by decide +kernel
theorem dX10_back_35 : decode cX10_back 35 = .ok (.invokevirtual 347, 3) := by decide +kernel
theorem dX10_back_38 : decode cX10_back 38 = .ok (.aload_n 0, 1) := by decide +kernel
theorem dX10_back_39 : decode cX10_back 39 = .ok (.getfield 12, 3) := by decide +kernel
theorem dX10_back_42 : decode cX10_back 42 = .ok (.getfield 170, 3) := by decide +kernel
theorem dX10_back_45 : decode cX10_back 45 = .ok (.getfield 125, 3) := by decide +kernel
theorem dX10_back_48 : decode cX10_back 48 = .ok (.aload_n 0, 1) := by decide +kernel
theorem dX10_back_49 : decode cX10_back 49 = .ok (.getfield 12, 3) := by decide +kernel
theorem dX10_back_52 : decode cX10_back 52 = .ok (.getfield 174, 3) := by decide +kernel
theorem dX10_back_55 : decode cX10_back 55 = .ok (.getfield 125, 3) := by decide +kernel
theorem dX10_back_58 : decode cX10_back 58 = .ok (.iadd, 1) := by decide +kernel
theorem dX10_back_59 : decode cX10_back 59 = .ok (.ireturn, 1) := by decide +kernel
theorem dX10_sheet_0 : decode cX10_sheet 0 = .ok (.aload_n 0, 1) := by decide +kernel
theorem dX10_sheet_1 : decode cX10_sheet 1 = .ok (.iload_n 1, 1) := by decide +kernel
theorem dX10_sheet_2 : decode cX10_sheet 2 = .ok (.invokevirtual 266, 3) := by decide +kernel
theorem dX10_sheet_5 : decode cX10_sheet 5 = .ok (.ifCond .eq 16, 3) := by decide +kernel
theorem dX10_sheet_8 : decode cX10_sheet 8 = .ok (.iload_n 2, 1) := by decide +kernel
theorem dX10_sheet_9 : decode cX10_sheet 9 = .ok (.invokestatic 269, 3) := by decide +kernel
theorem dX10_sheet_12 : decode cX10_sheet 12 = .ok (.ifCond .eq 9, 3) := by decide +kernel
theorem dX10_sheet_15 : decode cX10_sheet 15 = .ok (.iload_n 3, 1) := by decide +kernel
theorem dX10_sheet_16 : decode cX10_sheet 16 = .ok (.bipush 64, 2) := by decide +kernel
theorem dX10_sheet_18 : decode cX10_sheet 18 = .ok (.if_icmp .le 5, 3) := by decide +kernel
theorem dX10_sheet_21 : decode cX10_sheet 21 = .ok (.iconst (-1), 1) := by decide +kernel
theorem dX10_sheet_22 : decode cX10_sheet 22 = .ok (.ireturn, 1) := by decide +kernel
theorem dX10_sheet_23 : decode cX10_sheet 23 = .ok (.iload_n 3, 1) := by decide +kernel
theorem dX10_sheet_24 : decode cX10_sheet 24 = .ok (.ifCond .ge 6, 3) := by decide +kernel
theorem dX10_sheet_27 : decode cX10_sheet 27 = .ok (.bipush (-14), 2) := by decide +kernel
theorem dX10_sheet_29 : decode cX10_sheet 29 = .ok (.ireturn, 1) := by decide +kernel
theorem dX10_sheet_30 : decode cX10_sheet 30 = .ok (.aload_n 0, 1) := by decide +kernel
theorem dX10_sheet_31 : decode cX10_sheet 31 = .ok (.getfield 23, 3) := by decide +kernel
theorem dX10_sheet_34 : decode cX10_sheet 34 = .ok (.iload_n 1, 1) := by decide +kernel
theorem dX10_sheet_35 : decode cX10_sheet 35 = .ok (.aaload, 1) := by decide +kernel
theorem dX10_sheet_36 : decode cX10_sheet 36 = .ok (.iload_n 2, 1) := by decide +kernel
theorem dX10_sheet_37 : decode cX10_sheet 37 = .ok (.iload_n 3, 1) := by decide +kernel
theorem dX10_sheet_38 : decode cX10_sheet 38 = .ok (.invokevirtual 350, 3) := by decide +kernel
theorem dX10_sheet_41 : decode cX10_sheet 41 = .ok (.iconst 1, 1) := by decide +kernel
theorem dX10_sheet_42 : decode cX10_sheet 42 = .ok (.ireturn, 1) := by decide +kernel
theorem dX10_lay_0 : decode cX10_lay 0 = .ok (.aload_n 0, 1) := by decide +kernel
theorem dX10_lay_1 : decode cX10_lay 1 = .ok (.iload_n 1, 1) := by decide +kernel
theorem dX10_lay_2 : decode cX10_lay 2 = .ok (.invokevirtual 266, 3) := by decide +kernel
theorem dX10_lay_5 : decode cX10_lay 5 = .ok (.ifCond .ne 5, 3) := by decide +kernel
theorem dX10_lay_8 : decode cX10_lay 8 = .ok (.iconst (-1), 1) := by decide +kernel
theorem dX10_lay_9 : decode cX10_lay 9 = .ok (.ireturn, 1) := by decide +kernel
theorem dX10_lay_10 : decode cX10_lay 10 = .ok (.aload_n 0, 1) := by decide +kernel
theorem dX10_lay_11 : decode cX10_lay 11 = .ok (.getfield 23, 3) := by decide +kernel
theorem dX10_lay_14 : decode cX10_lay 14 = .ok (.iload_n 1, 1) := by decide +kernel
theorem dX10_lay_15 : decode cX10_lay 15 = .ok (.aaload, 1) := by decide +kernel
theorem dX10_lay_16 : decode cX10_lay 16 = .ok (.astore 4, 2) := by decide +kernel
theorem dX10_lay_18 : decode cX10_lay 18 = .ok (.aload 4, 2) := by decide +kernel
theorem dX10_lay_20 : decode cX10_lay 20 = .ok (.getfield 353, 3) := by decide +kernel
theorem dX10_lay_23 : decode cX10_lay 23 = .ok (.ifCond .ne 6, 3) := by decide +kernel
theorem dX10_lay_26 : decode cX10_lay 26 = .ok (.bipush (-11), 2) := by decide +kernel
theorem dX10_lay_28 : decode cX10_lay 28 = .ok (.ireturn, 1) := by decide +kernel
theorem dX10_lay_29 : decode cX10_lay 29 = .ok (.iload_n 2, 1) := by decide +kernel
theorem dX10_lay_30 : decode cX10_lay 30 = .ok (.iconst 0, 1) := by decide +kernel
theorem dX10_lay_31 : decode cX10_lay 31 = .ok (.aload 4, 2) := by decide +kernel
theorem dX10_lay_33 : decode cX10_lay 33 = .ok (.getfield 356, 3) := by decide +kernel
theorem dX10_lay_36 : decode cX10_lay 36 = .ok (.iconst 1, 1) := by decide +kernel
theorem dX10_lay_37 : decode cX10_lay 37 = .ok (.isub, 1) := by decide +kernel
theorem dX10_lay_38 : decode cX10_lay 38 = .ok (.invokestatic 89, 3) := by decide +kernel
theorem dX10_lay_41 : decode cX10_lay 41 = .ok (.ifCond .ne 6, 3) := by decide +kernel
theorem dX10_lay_44 : decode cX10_lay 44 = .ok (.bipush (-12), 2) := by decide +kernel
theorem dX10_lay_46 : decode cX10_lay 46 = .ok (.ireturn, 1) := by decide +kernel
theorem dX10_lay_47 : decode cX10_lay 47 = .ok (.aload 4, 2) := by decide +kernel
theorem dX10_lay_49 : decode cX10_lay 49 = .ok (.iload_n 2, 1) := by decide +kernel
theorem dX10_lay_50 : decode cX10_lay 50 = .ok (.iload_n 3, 1) := by decide +kernel
theorem dX10_lay_51 : decode cX10_lay 51 = .ok (.invokevirtual 357, 3) := by decide +kernel
theorem dX10_lay_54 : decode cX10_lay 54 = .ok (.iconst 1, 1) := by decide +kernel
theorem dX10_lay_55 : decode cX10_lay 55 = .ok (.ireturn, 1) := by decide +kernel
theorem dX10_read_0 : decode cX10_read 0 = .ok (.aload_n 0, 1) := by decide +kernel
theorem dX10_read_1 : decode cX10_read 1 = .ok (.iload_n 1, 1) := by decide +kernel
theorem dX10_read_2 : decode cX10_read 2 = .ok (.invokevirtual 266, 3) := by decide +kernel
theorem dX10_read_5 : decode cX10_read 5 = .ok (.ifCond .eq 29, 3) := by decide +kernel
theorem dX10_read_8 : decode cX10_read 8 = .ok (.iload_n 2, 1) := by decide +kernel
theorem dX10_read_9 : decode cX10_read 9 = .ok (.invokestatic 269, 3) := by decide +kernel
theorem dX10_read_12 : decode cX10_read 12 = .ok (.ifCond .eq 22, 3) := by decide +kernel
theorem dX10_read_15 : decode cX10_read 15 = .ok (.iload 4, 2) := by decide +kernel
theorem dX10_read_17 : decode cX10_read 17 = .ok (.iconst 0, 1) := by decide +kernel
theorem dX10_read_18 : decode cX10_read 18 = .ok (.bipush 10, 2) := by decide +kernel
theorem dX10_read_20 : decode cX10_read 20 = .ok (.invokestatic 89, 3) := by decide +kernel
theorem dX10_read_23 : decode cX10_read 23 = .ok (.ifCond .eq 11, 3) := by decide +kernel
theorem dX10_read_26 : decode cX10_read 26 = .ok (.iload 5, 2) := by decide +kernel
theorem dX10_read_28 : decode cX10_read 28 = .ok (.invokestatic 117, 3) := by decide +kernel
theorem dX10_read_31 : decode cX10_read 31 = .ok (.ifCond .ne 5, 3) := by decide +kernel
theorem dX10_read_34 : decode cX10_read 34 = .ok (.iconst (-1), 1) := by decide +kernel
theorem dX10_read_35 : decode cX10_read 35 = .ok (.ireturn, 1) := by decide +kernel
theorem dX10_read_36 : decode cX10_read 36 = .ok (.aload_n 0, 1) := by decide +kernel
theorem dX10_read_37 : decode cX10_read 37 = .ok (.getfield 23, 3) := by decide +kernel
theorem dX10_read_40 : decode cX10_read 40 = .ok (.iload_n 1, 1) := by decide +kernel
theorem dX10_read_41 : decode cX10_read 41 = .ok (.aaload, 1) := by decide +kernel
theorem dX10_read_42 : decode cX10_read 42 = .ok (.astore 6, 2) := by decide +kernel
theorem dX10_read_44 : decode cX10_read 44 = .ok (.iload 4, 2) := by decide +kernel
theorem dX10_read_46 : decode cX10_read 46 = .ok (.ifCond .ne 7, 3) := by decide +kernel
theorem dX10_read_49 : decode cX10_read 49 = .ok (.iconst 0, 1) := by decide +kernel
theorem dX10_read_50 : decode cX10_read 50 = .ok (.goto 9, 3) := by decide +kernel
theorem dX10_read_53 : decode cX10_read 53 = .ok (.aload 6, 2) := by decide +kernel
theorem dX10_read_55 : decode cX10_read 55 = .ok (.iload_n 2, 1) := by decide +kernel
theorem dX10_read_56 : decode cX10_read 56 = .ok (.invokevirtual 360, 3) := by decide +kernel
theorem dX10_read_59 : decode cX10_read 59 = .ok (.istore 7, 2) := by decide +kernel
theorem dX10_read_61 : decode cX10_read 61 = .ok (.iload 7, 2) := by decide +kernel
theorem dX10_read_63 : decode cX10_read 63 = .ok (.ifCond .ne 17, 3) := by decide +kernel
theorem dX10_read_66 : decode cX10_read 66 = .ok (.iload 4, 2) := by decide +kernel
theorem dX10_read_68 : decode cX10_read 68 = .ok (.aload 6, 2) := by decide +kernel
theorem dX10_read_70 : decode cX10_read 70 = .ok (.iload_n 3, 1) := by decide +kernel
theorem dX10_read_71 : decode cX10_read 71 = .ok (.invokevirtual 363, 3) := by decide +kernel
theorem dX10_read_74 : decode cX10_read 74 = .ok (.invokestatic 366, 3) := by decide +kernel
theorem dX10_read_77 : decode cX10_read 77 = .ok (.goto 4, 3) := by decide +kernel
theorem dX10_read_80 : decode cX10_read 80 = .ok (.iconst 0, 1) := by decide +kernel
theorem dX10_read_81 : decode cX10_read 81 = .ok (.istore 8, 2) := by decide +kernel
theorem dX10_read_83 : decode cX10_read 83 = .ok (.iload 7, 2) := by decide +kernel
theorem dX10_read_85 : decode cX10_read 85 = .ok (.ifCond .ne 13, 3) := by decide +kernel
theorem dX10_read_88 : decode cX10_read 88 = .ok (.iload 8, 2) := by decide +kernel
theorem dX10_read_90 : decode cX10_read 90 = .ok (.iload 4, 2) := by decide +kernel
theorem dX10_read_92 : decode cX10_read 92 = .ok (.if_icmp .ge 6, 3) := by decide +kernel
theorem dX10_read_95 : decode cX10_read 95 = .ok (.iconst 2, 1) := by decide +kernel
theorem dX10_read_96 : decode cX10_read 96 = .ok (.istore 7, 2) := by decide +kernel
theorem dX10_read_98 : decode cX10_read 98 = .ok (.aload_n 0, 1) := by decide +kernel
theorem dX10_read_99 : decode cX10_read 99 = .ok (.iload 5, 2) := by decide +kernel
theorem dX10_read_101 : decode cX10_read 101 = .ok (.invokevirtual 121, 3) := by decide +kernel
theorem dX10_read_104 : decode cX10_read 104 = .ok (.astore 9, 2) := by decide +kernel
theorem dX10_read_106 : decode cX10_read 106 = .ok (.aload 6, 2) := by decide +kernel
theorem dX10_read_108 : decode cX10_read 108 = .ok (.iload_n 3, 1) := by decide +kernel
theorem dX10_read_109 : decode cX10_read 109 = .ok (.iload 8, 2) := by decide +kernel
theorem dX10_read_111 : decode cX10_read 111 = .ok (.aload 9, 2) := by decide +kernel
theorem dX10_read_113 : decode cX10_read 113 = .ok (.invokestatic 369, 3) := by decide +kernel
theorem dX10_read_116 : decode cX10_read 116 = .ok (.istore 10, 2) := by decide +kernel
theorem dX10_read_118 : decode cX10_read 118 = .ok (.iload 10, 2) := by decide +kernel
theorem dX10_read_120 : decode cX10_read 120 = .ok (.ifCond .eq 6, 3) := by decide +kernel
theorem dX10_read_123 : decode cX10_read 123 = .ok (.iload 10, 2) := by decide +kernel
theorem dX10_read_125 : decode cX10_read 125 = .ok (.ireturn, 1) := by decide +kernel
theorem dX10_read_126 : decode cX10_read 126 = .ok (.iconst 0, 1) := by decide +kernel
theorem dX10_read_127 : decode cX10_read 127 = .ok (.istore 11, 2) := by decide +kernel
theorem dX10_read_129 : decode cX10_read 129 = .ok (.iload 11, 2) := by decide +kernel
theorem dX10_read_131 : decode cX10_read 131 = .ok (.iload 8, 2) := by decide +kernel
theorem dX10_read_133 : decode cX10_read 133 = .ok (.if_icmp .ge 23, 3) := by decide +kernel
theorem dX10_read_136 : decode cX10_read 136 = .ok (.aload 6, 2) := by decide +kernel
theorem dX10_read_138 : decode cX10_read 138 = .ok (.iload_n 3, 1) := by decide +kernel
theorem dX10_read_139 : decode cX10_read 139 = .ok (.bipush 6, 2) := by decide +kernel
theorem dX10_read_141 : decode cX10_read 141 = .ok (.iload 11, 2) := by decide +kernel
theorem dX10_read_143 : decode cX10_read 143 = .ok (.imul, 1) := by decide +kernel
theorem dX10_read_144 : decode cX10_read 144 = .ok (.iadd, 1) := by decide +kernel
theorem dX10_read_145 : decode cX10_read 145 = .ok (.aload 9, 2) := by decide +kernel
theorem dX10_read_147 : decode cX10_read 147 = .ok (.invokevirtual 373, 3) := by decide +kernel
theorem dX10_read_150 : decode cX10_read 150 = .ok (.iinc 11 1, 3) := by decide +kernel
theorem dX10_read_153 : decode cX10_read 153 = .ok (.goto (-24), 3) := by decide +kernel
theorem dX10_read_156 : decode cX10_read 156 = .ok (.aload_n 0, 1) := by decide +kernel
theorem dX10_read_157 : decode cX10_read 157 = .ok (.iload 7, 2) := by decide +kernel
theorem dX10_read_159 : decode cX10_read 159 = .ok (.putfield 78, 3) := by decide +kernel
theorem dX10_read_162 : decode cX10_read 162 = .ok (.iload 8, 2) := by decide +kernel
theorem dX10_read_164 : decode cX10_read 164 = .ok (.ireturn, 1) := by decide +kernel
theorem dX10_torn_0 : decode cX10_torn 0 = .ok (.aload_n 0, 1) := by decide +kernel
theorem dX10_torn_1 : decode cX10_torn 1 = .ok (.getfield 78, 3) := by decide +kernel
theorem dX10_torn_4 : decode cX10_torn 4 = .ok (.ireturn, 1) := by decide +kernel
theorem dX10_count_0 : decode cX10_count 0 = .ok (.iload_n 1, 1) := by decide +kernel
theorem dX10_count_1 : decode cX10_count 1 = .ok (.tableswitch 137 0 5 #[39, 50, 61, 66, 102, 110], 39) := by decide +kernel
theorem dX10_count_40 : decode cX10_count 40 = .ok (.aload_n 0, 1) := by decide +kernel
theorem dX10_count_41 : decode cX10_count 41 = .ok (.getfield 12, 3) := by decide +kernel
theorem dX10_count_44 : decode cX10_count 44 = .ok (.getfield 170, 3) := by decide +kernel
theorem dX10_count_47 : decode cX10_count 47 = .ok (.getfield 125, 3) := by decide +kernel
theorem dX10_count_50 : decode cX10_count 50 = .ok (.ireturn, 1) := by decide +kernel
theorem dX10_count_51 : decode cX10_count 51 = .ok (.aload_n 0, 1) := by decide +kernel
theorem dX10_count_52 : decode cX10_count 52 = .ok (.getfield 12, 3) := by decide +kernel
theorem dX10_count_55 : decode cX10_count 55 = .ok (.getfield 174, 3) := by decide +kernel
theorem dX10_count_58 : decode cX10_count 58 = .ok (.getfield 125, 3) := by decide +kernel
theorem dX10_count_61 : decode cX10_count 61 = .ok (.ireturn, 1) := by decide +kernel
theorem dX10_count_62 : decode cX10_count 62 = .ok (.aload_n 0, 1) := by decide +kernel
theorem dX10_count_63 : decode cX10_count 63 = .ok (.invokevirtual 377, 3) := by decide +kernel
theorem dX10_count_66 : decode cX10_count 66 = .ok (.ireturn, 1) := by decide +kernel
theorem dX10_count_67 : decode cX10_count 67 = .ok (.aload_n 0, 1) := by decide +kernel
theorem dX10_count_68 : decode cX10_count 68 = .ok (.getfield 16, 3) := by decide +kernel
theorem dX10_count_71 : decode cX10_count 71 = .ok (.iconst 0, 1) := by decide +kernel
theorem dX10_count_72 : decode cX10_count 72 = .ok (.aaload, 1) := by decide +kernel
theorem dX10_count_73 : decode cX10_count 73 = .ok (.getfield 343, 3) := by decide +kernel
theorem dX10_count_76 : decode cX10_count 76 = .ok (.ifCond .eq 7, 3) := by decide +kernel
theorem dX10_count_79 : decode cX10_count 79 = .ok (.iconst 1, 1) := by decide +kernel
theorem dX10_count_80 : decode cX10_count 80 = .ok (.goto 4, 3) := by decide +kernel
theorem dX10_count_83 : decode cX10_count 83 = .ok (.iconst 0, 1) := by decide +kernel
theorem dX10_count_84 : decode cX10_count 84 = .ok (.aload_n 0, 1) := by decide +kernel
theorem dX10_count_85 : decode cX10_count 85 = .ok (.getfield 16, 3) := by decide +kernel
theorem dX10_count_88 : decode cX10_count 88 = .ok (.iconst 1, 1) := by decide +kernel
theorem dX10_count_89 : decode cX10_count 89 = .ok (.aaload, 1) := by decide +kernel
theorem dX10_count_90 : decode cX10_count 90 = .ok (.getfield 343, 3) := by decide +kernel
theorem dX10_count_93 : decode cX10_count 93 = .ok (.ifCond .eq 7, 3) := by decide +kernel
theorem dX10_count_96 : decode cX10_count 96 = .ok (.iconst 1, 1) := by decide +kernel
theorem dX10_count_97 : decode cX10_count 97 = .ok (.goto 4, 3) := by decide +kernel
theorem dX10_count_100 : decode cX10_count 100 = .ok (.iconst 0, 1) := by decide +kernel
theorem dX10_count_101 : decode cX10_count 101 = .ok (.iadd, 1) := by decide +kernel
theorem dX10_count_102 : decode cX10_count 102 = .ok (.ireturn, 1) := by decide +kernel
theorem dX10_count_103 : decode cX10_count 103 = .ok (.aload_n 0, 1) := by decide +kernel
theorem dX10_count_104 : decode cX10_count 104 = .ok (.getfield 30, 3) := by decide +kernel
theorem dX10_count_107 : decode cX10_count 107 = .ok (.getfield 86, 3) := by decide +kernel
theorem dX10_count_110 : decode cX10_count 110 = .ok (.ireturn, 1) := by decide +kernel
theorem dX10_count_111 : decode cX10_count 111 = .ok (.aload_n 0, 1) := by decide +kernel
theorem dX10_count_112 : decode cX10_count 112 = .ok (.getfield 23, 3) := by decide +kernel
theorem dX10_count_115 : decode cX10_count 115 = .ok (.iconst 0, 1) := by decide +kernel
theorem dX10_count_116 : decode cX10_count 116 = .ok (.aaload, 1) := by decide +kernel
theorem dX10_count_117 : decode cX10_count 117 = .ok (.getfield 353, 3) := by decide +kernel
theorem dX10_count_120 : decode cX10_count 120 = .ok (.ifCond .eq 15, 3) := by decide +kernel
theorem dX10_count_123 : decode cX10_count 123 = .ok (.aload_n 0, 1) := by decide +kernel
theorem dX10_count_124 : decode cX10_count 124 = .ok (.getfield 23, 3) := by decide +kernel
theorem dX10_count_127 : decode cX10_count 127 = .ok (.iconst 0, 1) := by decide +kernel
theorem dX10_count_128 : decode cX10_count 128 = .ok (.aaload, 1) := by decide +kernel
theorem dX10_count_129 : decode cX10_count 129 = .ok (.getfield 356, 3) := by decide +kernel
theorem dX10_count_132 : decode cX10_count 132 = .ok (.goto 5, 3) := by decide +kernel
theorem dX10_count_135 : decode cX10_count 135 = .ok (.bipush (-4), 2) := by decide +kernel
theorem dX10_count_137 : decode cX10_count 137 = .ok (.ireturn, 1) := by decide +kernel
theorem dX10_count_138 : decode cX10_count 138 = .ok (.iconst (-1), 1) := by decide +kernel
theorem dX10_count_139 : decode cX10_count 139 = .ok (.ireturn, 1) := by decide +kernel
theorem dX10_within_0 : decode cX10_within 0 = .ok (.iload_n 0, 1) := by decide +kernel
theorem dX10_within_1 : decode cX10_within 1 = .ok (.iload_n 1, 1) := by decide +kernel
theorem dX10_within_2 : decode cX10_within 2 = .ok (.if_icmp .lt 12, 3) := by decide +kernel
theorem dX10_within_5 : decode cX10_within 5 = .ok (.iload_n 0, 1) := by decide +kernel
theorem dX10_within_6 : decode cX10_within 6 = .ok (.iload_n 2, 1) := by decide +kernel
theorem dX10_within_7 : decode cX10_within 7 = .ok (.if_icmp .gt 7, 3) := by decide +kernel
theorem dX10_within_10 : decode cX10_within 10 = .ok (.iconst 1, 1) := by decide +kernel
theorem dX10_within_11 : decode cX10_within 11 = .ok (.goto 4, 3) := by decide +kernel
theorem dX10_within_14 : decode cX10_within 14 = .ok (.iconst 0, 1) := by decide +kernel
theorem dX10_within_15 : decode cX10_within 15 = .ok (.ireturn, 1) := by decide +kernel
theorem dX10_isEnd_0 : decode cX10_isEnd 0 = .ok (.iload_n 0, 1) := by decide +kernel
theorem dX10_isEnd_1 : decode cX10_isEnd 1 = .ok (.ifCond .eq 8, 3) := by decide +kernel
theorem dX10_isEnd_4 : decode cX10_isEnd 4 = .ok (.iload_n 0, 1) := by decide +kernel
theorem dX10_isEnd_5 : decode cX10_isEnd 5 = .ok (.iconst 1, 1) := by decide +kernel
theorem dX10_isEnd_6 : decode cX10_isEnd 6 = .ok (.if_icmp .ne 7, 3) := by decide +kernel
theorem dX10_isEnd_9 : decode cX10_isEnd 9 = .ok (.iconst 1, 1) := by decide +kernel
theorem dX10_isEnd_10 : decode cX10_isEnd 10 = .ok (.goto 4, 3) := by decide +kernel
theorem dX10_isEnd_13 : decode cX10_isEnd 13 = .ok (.iconst 0, 1) := by decide +kernel
theorem dX10_isEnd_14 : decode cX10_isEnd 14 = .ok (.ireturn, 1) := by decide +kernel
theorem dX10_isLetter_0 : decode cX10_isLetter 0 = .ok (.iload_n 0, 1) := by decide +kernel
theorem dX10_isLetter_1 : decode cX10_isLetter 1 = .ok (.iconst 0, 1) := by decide +kernel
theorem dX10_isLetter_2 : decode cX10_isLetter 2 = .ok (.bipush 7, 2) := by decide +kernel
theorem dX10_isLetter_4 : decode cX10_isLetter 4 = .ok (.invokestatic 89, 3) := by decide +kernel
theorem dX10_isLetter_7 : decode cX10_isLetter 7 = .ok (.ireturn, 1) := by decide +kernel
theorem dX10_isImage_0 : decode cX10_isImage 0 = .ok (.iload_n 1, 1) := by decide +kernel
theorem dX10_isImage_1 : decode cX10_isImage 1 = .ok (.iconst 0, 1) := by decide +kernel
theorem dX10_isImage_2 : decode cX10_isImage 2 = .ok (.aload_n 0, 1) := by decide +kernel
theorem dX10_isImage_3 : decode cX10_isImage 3 = .ok (.getfield 16, 3) := by decide +kernel
theorem dX10_isImage_6 : decode cX10_isImage 6 = .ok (.arraylength, 1) := by decide +kernel
theorem dX10_isImage_7 : decode cX10_isImage 7 = .ok (.iconst 1, 1) := by decide +kernel
theorem dX10_isImage_8 : decode cX10_isImage 8 = .ok (.isub, 1) := by decide +kernel
theorem dX10_isImage_9 : decode cX10_isImage 9 = .ok (.invokestatic 89, 3) := by decide +kernel
theorem dX10_isImage_12 : decode cX10_isImage 12 = .ok (.ireturn, 1) := by decide +kernel
theorem dX10_isSheet_0 : decode cX10_isSheet 0 = .ok (.iload_n 1, 1) := by decide +kernel
theorem dX10_isSheet_1 : decode cX10_isSheet 1 = .ok (.iconst 0, 1) := by decide +kernel
theorem dX10_isSheet_2 : decode cX10_isSheet 2 = .ok (.aload_n 0, 1) := by decide +kernel
theorem dX10_isSheet_3 : decode cX10_isSheet 3 = .ok (.getfield 23, 3) := by decide +kernel
theorem dX10_isSheet_6 : decode cX10_isSheet 6 = .ok (.arraylength, 1) := by decide +kernel
theorem dX10_isSheet_7 : decode cX10_isSheet 7 = .ok (.iconst 1, 1) := by decide +kernel
theorem dX10_isSheet_8 : decode cX10_isSheet 8 = .ok (.isub, 1) := by decide +kernel
theorem dX10_isSheet_9 : decode cX10_isSheet 9 = .ok (.invokestatic 89, 3) := by decide +kernel
theorem dX10_isSheet_12 : decode cX10_isSheet 12 = .ok (.ireturn, 1) := by decide +kernel
theorem dX10_isLane_0 : decode cX10_isLane 0 = .ok (.iload_n 0, 1) := by decide +kernel
theorem dX10_isLane_1 : decode cX10_isLane 1 = .ok (.iconst 0, 1) := by decide +kernel
theorem dX10_isLane_2 : decode cX10_isLane 2 = .ok (.iconst 2, 1) := by decide +kernel
theorem dX10_isLane_3 : decode cX10_isLane 3 = .ok (.invokestatic 89, 3) := by decide +kernel
theorem dX10_isLane_6 : decode cX10_isLane 6 = .ok (.ireturn, 1) := by decide +kernel
theorem dX10_linesAt_0 : decode cX10_linesAt 0 = .ok (.iload_n 1, 1) := by decide +kernel
theorem dX10_linesAt_1 : decode cX10_linesAt 1 = .ok (.ifCond .ne 13, 3) := by decide +kernel
theorem dX10_linesAt_4 : decode cX10_linesAt 4 = .ok (.aload_n 0, 1) := by decide +kernel
theorem dX10_linesAt_5 : decode cX10_linesAt 5 = .ok (.getfield 12, 3) := by decide +kernel
theorem dX10_linesAt_8 : decode cX10_linesAt 8 = .ok (.getfield 170, 3) := by decide +kernel
theorem dX10_linesAt_11 : decode cX10_linesAt 11 = .ok (.goto 10, 3) := by decide +kernel
theorem dX10_linesAt_14 : decode cX10_linesAt 14 = .ok (.aload_n 0, 1) := by decide +kernel
theorem dX10_linesAt_15 : decode cX10_linesAt 15 = .ok (.getfield 12, 3) := by decide +kernel
theorem dX10_linesAt_18 : decode cX10_linesAt 18 = .ok (.getfield 174, 3) := by decide +kernel
theorem dX10_linesAt_21 : decode cX10_linesAt 21 = .ok (.areturn, 1) := by decide +kernel
theorem dX10_hasLine_0 : decode cX10_hasLine 0 = .ok (.iload_n 1, 1) := by decide +kernel
theorem dX10_hasLine_1 : decode cX10_hasLine 1 = .ok (.invokestatic 117, 3) := by decide +kernel
theorem dX10_hasLine_4 : decode cX10_hasLine 4 = .ok (.ifCond .eq 19, 3) := by decide +kernel
theorem dX10_hasLine_7 : decode cX10_hasLine 7 = .ok (.aload_n 0, 1) := by decide +kernel
theorem dX10_hasLine_8 : decode cX10_hasLine 8 = .ok (.iload_n 1, 1) := by decide +kernel
theorem dX10_hasLine_9 : decode cX10_hasLine 9 = .ok (.invokevirtual 121, 3) := by decide +kernel
theorem dX10_hasLine_12 : decode cX10_hasLine 12 = .ok (.iload_n 2, 1) := by decide +kernel
theorem dX10_hasLine_13 : decode cX10_hasLine 13 = .ok (.invokevirtual 197, 3) := by decide +kernel
theorem dX10_hasLine_16 : decode cX10_hasLine 16 = .ok (.ifCond .eq 7, 3) := by decide +kernel
theorem dX10_hasLine_19 : decode cX10_hasLine 19 = .ok (.iconst 1, 1) := by decide +kernel
theorem dX10_hasLine_20 : decode cX10_hasLine 20 = .ok (.goto 4, 3) := by decide +kernel
theorem dX10_hasLine_23 : decode cX10_hasLine 23 = .ok (.iconst 0, 1) := by decide +kernel
theorem dX10_hasLine_24 : decode cX10_hasLine 24 = .ok (.ireturn, 1) := by decide +kernel
theorem dX10_hasPair_0 : decode cX10_hasPair 0 = .ok (.aload_n 0, 1) := by decide +kernel
theorem dX10_hasPair_1 : decode cX10_hasPair 1 = .ok (.getfield 12, 3) := by decide +kernel
theorem dX10_hasPair_4 : decode cX10_hasPair 4 = .ok (.getfield 170, 3) := by decide +kernel
theorem dX10_hasPair_7 : decode cX10_hasPair 7 = .ok (.iload_n 1, 1) := by decide +kernel
theorem dX10_hasPair_8 : decode cX10_hasPair 8 = .ok (.invokevirtual 197, 3) := by decide +kernel
theorem dX10_hasPair_11 : decode cX10_hasPair 11 = .ok (.ifCond .eq 21, 3) := by decide +kernel
theorem dX10_hasPair_14 : decode cX10_hasPair 14 = .ok (.aload_n 0, 1) := by decide +kernel
theorem dX10_hasPair_15 : decode cX10_hasPair 15 = .ok (.getfield 12, 3) := by decide +kernel
theorem dX10_hasPair_18 : decode cX10_hasPair 18 = .ok (.getfield 174, 3) := by decide +kernel
theorem dX10_hasPair_21 : decode cX10_hasPair 21 = .ok (.iload_n 2, 1) := by decide +kernel
theorem dX10_hasPair_22 : decode cX10_hasPair 22 = .ok (.invokevirtual 197, 3) := by decide +kernel
theorem dX10_hasPair_25 : decode cX10_hasPair 25 = .ok (.ifCond .eq 7, 3) := by decide +kernel
theorem dX10_hasPair_28 : decode cX10_hasPair 28 = .ok (.iconst 1, 1) := by decide +kernel
theorem dX10_hasPair_29 : decode cX10_hasPair 29 = .ok (.goto 4, 3) := by decide +kernel
theorem dX10_hasPair_32 : decode cX10_hasPair 32 = .ok (.iconst 0, 1) := by decide +kernel
theorem dX10_hasPair_33 : decode cX10_hasPair 33 = .ok (.ireturn, 1) := by decide +kernel
theorem dX10_tookNow_0 : decode cX10_tookNow 0 = .ok (.aload_n 0, 1) := by decide +kernel
theorem dX10_tookNow_1 : decode cX10_tookNow 1 = .ok (.getfield 12, 3) := by decide +kernel
theorem dX10_tookNow_4 : decode cX10_tookNow 4 = .ok (.iload_n 1, 1) := by decide +kernel
theorem dX10_tookNow_5 : decode cX10_tookNow 5 = .ok (.iload_n 2, 1) := by decide +kernel
theorem dX10_tookNow_6 : decode cX10_tookNow 6 = .ok (.aload_n 0, 1) := by decide +kernel
theorem dX10_tookNow_7 : decode cX10_tookNow 7 = .ok (.getfield 12, 3) := by decide +kernel
theorem dX10_tookNow_10 : decode cX10_tookNow 10 = .ok (.getfield 97, 3) := by decide +kernel
theorem dX10_tookNow_13 : decode cX10_tookNow 13 = .ok (.getfield 107, 3) := by decide +kernel
theorem dX10_tookNow_16 : decode cX10_tookNow 16 = .ok (.bipush 9, 2) := by decide +kernel
theorem dX10_tookNow_18 : decode cX10_tookNow 18 = .ok (.iaload, 1) := by decide +kernel
theorem dX10_tookNow_19 : decode cX10_tookNow 19 = .ok (.invokevirtual 380, 3) := by decide +kernel
theorem dX10_tookNow_22 : decode cX10_tookNow 22 = .ok (.ireturn, 1) := by decide +kernel
theorem dX10_lookAtPairs_0 : decode cX10_lookAtPairs 0 = .ok (.aload_n 0, 1) := by decide +kernel
theorem dX10_lookAtPairs_1 : decode cX10_lookAtPairs 1 = .ok (.getfield 44, 3) := by decide +kernel
theorem dX10_lookAtPairs_4 : decode cX10_lookAtPairs 4 = .ok (.aload_n 0, 1) := by decide +kernel
theorem dX10_lookAtPairs_5 : decode cX10_lookAtPairs 5 = .ok (.getfield 12, 3) := by decide +kernel
theorem dX10_lookAtPairs_8 : decode cX10_lookAtPairs 8 = .ok (.iload_n 1, 1) := by decide +kernel
theorem dX10_lookAtPairs_9 : decode cX10_lookAtPairs 9 = .ok (.invokevirtual 298, 3) := by decide +kernel
theorem dX10_lookAtPairs_12 : decode cX10_lookAtPairs 12 = .ok (.aload_n 0, 1) := by decide +kernel
theorem dX10_lookAtPairs_13 : decode cX10_lookAtPairs 13 = .ok (.getfield 44, 3) := by decide +kernel
theorem dX10_lookAtPairs_16 : decode cX10_lookAtPairs 16 = .ok (.aload_n 0, 1) := by decide +kernel
theorem dX10_lookAtPairs_17 : decode cX10_lookAtPairs 17 = .ok (.getfield 12, 3) := by decide +kernel
theorem dX10_lookAtPairs_20 : decode cX10_lookAtPairs 20 = .ok (.aload_n 0, 1) := by decide +kernel
theorem dX10_lookAtPairs_21 : decode cX10_lookAtPairs 21 = .ok (.getfield 12, 3) := by decide +kernel
theorem dX10_lookAtPairs_24 : decode cX10_lookAtPairs 24 = .ok (.getfield 97, 3) := by decide +kernel
theorem dX10_lookAtPairs_27 : decode cX10_lookAtPairs 27 = .ok (.getfield 107, 3) := by decide +kernel
theorem dX10_lookAtPairs_30 : decode cX10_lookAtPairs 30 = .ok (.bipush 9, 2) := by decide +kernel
theorem dX10_lookAtPairs_32 : decode cX10_lookAtPairs 32 = .ok (.iaload, 1) := by decide +kernel
theorem dX10_lookAtPairs_33 : decode cX10_lookAtPairs 33 = .ok (.invokevirtual 302, 3) := by decide +kernel
theorem dX10_lookAtPairs_36 : decode cX10_lookAtPairs 36 = .ok (.return_, 1) := by decide +kernel
theorem dX10_findFirst_0 : decode cX10_findFirst 0 = .ok (.aload_n 0, 1) := by decide +kernel
theorem dX10_findFirst_1 : decode cX10_findFirst 1 = .ok (.bipush 15, 2) := by decide +kernel
theorem dX10_findFirst_3 : decode cX10_findFirst 3 = .ok (.invokevirtual 164, 3) := by decide +kernel
theorem dX10_findFirst_6 : decode cX10_findFirst 6 = .ok (.aload_n 0, 1) := by decide +kernel
theorem dX10_findFirst_7 : decode cX10_findFirst 7 = .ok (.getfield 53, 3) := by decide +kernel
theorem dX10_findFirst_10 : decode cX10_findFirst 10 = .ok (.invokevirtual 384, 3) := by decide +kernel
theorem dX10_findFirst_13 : decode cX10_findFirst 13 = .ok (.return_, 1) := by decide +kernel
theorem dX10_countPairs_0 : decode cX10_countPairs 0 = .ok (.aload_n 0, 1) := by decide +kernel
theorem dX10_countPairs_1 : decode cX10_countPairs 1 = .ok (.bipush 15, 2) := by decide +kernel
theorem dX10_countPairs_3 : decode cX10_countPairs 3 = .ok (.invokevirtual 164, 3) := by decide +kernel
theorem dX10_countPairs_6 : decode cX10_countPairs 6 = .ok (.iconst 0, 1) := by decide +kernel
theorem dX10_countPairs_7 : decode cX10_countPairs 7 = .ok (.istore_n 1, 1) := by decide +kernel
theorem dX10_countPairs_8 : decode cX10_countPairs 8 = .ok (.iconst 0, 1) := by decide +kernel
theorem dX10_countPairs_9 : decode cX10_countPairs 9 = .ok (.istore_n 2, 1) := by decide +kernel
theorem dX10_countPairs_10 : decode cX10_countPairs 10 = .ok (.iload_n 2, 1) := by decide +kernel
theorem dX10_countPairs_11 : decode cX10_countPairs 11 = .ok (.aload_n 0, 1) := by decide +kernel
theorem dX10_countPairs_12 : decode cX10_countPairs 12 = .ok (.getfield 44, 3) := by decide +kernel
theorem dX10_countPairs_15 : decode cX10_countPairs 15 = .ok (.getfield 385, 3) := by decide +kernel
theorem dX10_countPairs_18 : decode cX10_countPairs 18 = .ok (.if_icmp .ge 48, 3) := by decide +kernel
theorem dX10_countPairs_21 : decode cX10_countPairs 21 = .ok (.iconst 0, 1) := by decide +kernel
theorem dX10_countPairs_22 : decode cX10_countPairs 22 = .ok (.istore_n 3, 1) := by decide +kernel
theorem dX10_countPairs_23 : decode cX10_countPairs 23 = .ok (.iload_n 3, 1) := by decide +kernel
theorem dX10_countPairs_24 : decode cX10_countPairs 24 = .ok (.aload_n 0, 1) := by decide +kernel
theorem dX10_countPairs_25 : decode cX10_countPairs 25 = .ok (.getfield 44, 3) := by decide +kernel
theorem dX10_countPairs_28 : decode cX10_countPairs 28 = .ok (.getfield 388, 3) := by decide +kernel
theorem dX10_countPairs_31 : decode cX10_countPairs 31 = .ok (.if_icmp .ge 29, 3) := by decide +kernel
theorem dX10_countPairs_34 : decode cX10_countPairs 34 = .ok (.iload_n 1, 1) := by decide +kernel
theorem dX10_countPairs_35 : decode cX10_countPairs 35 = .ok (.aload_n 0, 1) := by decide +kernel
theorem dX10_countPairs_36 : decode cX10_countPairs 36 = .ok (.getfield 44, 3) := by decide +kernel
theorem dX10_countPairs_39 : decode cX10_countPairs 39 = .ok (.iload_n 2, 1) := by decide +kernel
theorem dX10_countPairs_40 : decode cX10_countPairs 40 = .ok (.iload_n 3, 1) := by decide +kernel
theorem dX10_countPairs_41 : decode cX10_countPairs 41 = .ok (.invokevirtual 206, 3) := by decide +kernel
theorem dX10_countPairs_44 : decode cX10_countPairs 44 = .ok (.ifCond .eq 7, 3) := by decide +kernel
theorem dX10_countPairs_47 : decode cX10_countPairs 47 = .ok (.iconst 1, 1) := by decide +kernel
theorem dX10_countPairs_48 : decode cX10_countPairs 48 = .ok (.goto 4, 3) := by decide +kernel
theorem dX10_countPairs_51 : decode cX10_countPairs 51 = .ok (.iconst 0, 1) := by decide +kernel
theorem dX10_countPairs_52 : decode cX10_countPairs 52 = .ok (.iadd, 1) := by decide +kernel
theorem dX10_countPairs_53 : decode cX10_countPairs 53 = .ok (.istore_n 1, 1) := by decide +kernel
theorem dX10_countPairs_54 : decode cX10_countPairs 54 = .ok (.iinc 3 1, 3) := by decide +kernel
theorem dX10_countPairs_57 : decode cX10_countPairs 57 = .ok (.goto (-34), 3) := by decide +kernel
theorem dX10_countPairs_60 : decode cX10_countPairs 60 = .ok (.iinc 2 1, 3) := by decide +kernel
theorem dX10_countPairs_63 : decode cX10_countPairs 63 = .ok (.goto (-53), 3) := by decide +kernel
theorem dX10_countPairs_66 : decode cX10_countPairs 66 = .ok (.iload_n 1, 1) := by decide +kernel
theorem dX10_countPairs_67 : decode cX10_countPairs 67 = .ok (.ireturn, 1) := by decide +kernel
theorem dX10_partOfFraction_0 : decode cX10_partOfFraction 0 = .ok (.lload_n 2, 1) := by decide +kernel
theorem dX10_partOfFraction_1 : decode cX10_partOfFraction 1 = .ok (.lstore 5, 2) := by decide +kernel
theorem dX10_partOfFraction_3 : decode cX10_partOfFraction 3 = .ok (.lload_n 0, 1) := by decide +kernel
theorem dX10_partOfFraction_4 : decode cX10_partOfFraction 4 = .ok (.lstore 7, 2) := by decide +kernel
theorem dX10_partOfFraction_6 : decode cX10_partOfFraction 6 = .ok (.iconst 0, 1) := by decide +kernel
theorem dX10_partOfFraction_7 : decode cX10_partOfFraction 7 = .ok (.istore 9, 2) := by decide +kernel
theorem dX10_partOfFraction_9 : decode cX10_partOfFraction 9 = .ok (.iload 9, 2) := by decide +kernel
theorem dX10_partOfFraction_11 : decode cX10_partOfFraction 11 = .ok (.sipush 128, 3) := by decide +kernel
theorem dX10_partOfFraction_14 : decode cX10_partOfFraction 14 = .ok (.if_icmp .ge 31, 3) := by decide +kernel
theorem dX10_partOfFraction_17 : decode cX10_partOfFraction 17 = .ok (.lload 7, 2) := by decide +kernel
theorem dX10_partOfFraction_19 : decode cX10_partOfFraction 19 = .ok (.lconst 0, 1) := by decide +kernel
theorem dX10_partOfFraction_20 : decode cX10_partOfFraction 20 = .ok (.lcmp, 1) := by decide +kernel
theorem dX10_partOfFraction_21 : decode cX10_partOfFraction 21 = .ok (.ifCond .eq 24, 3) := by decide +kernel
theorem dX10_partOfFraction_24 : decode cX10_partOfFraction 24 = .ok (.lload 5, 2) := by decide +kernel
theorem dX10_partOfFraction_26 : decode cX10_partOfFraction 26 = .ok (.lload 7, 2) := by decide +kernel
theorem dX10_partOfFraction_28 : decode cX10_partOfFraction 28 = .ok (.lrem, 1) := by decide +kernel
theorem dX10_partOfFraction_29 : decode cX10_partOfFraction 29 = .ok (.lstore 10, 2) := by decide +kernel
theorem dX10_partOfFraction_31 : decode cX10_partOfFraction 31 = .ok (.lload 7, 2) := by decide +kernel
theorem dX10_partOfFraction_33 : decode cX10_partOfFraction 33 = .ok (.lstore 5, 2) := by decide +kernel
theorem dX10_partOfFraction_35 : decode cX10_partOfFraction 35 = .ok (.lload 10, 2) := by decide +kernel
theorem dX10_partOfFraction_37 : decode cX10_partOfFraction 37 = .ok (.lstore 7, 2) := by decide +kernel
theorem dX10_partOfFraction_39 : decode cX10_partOfFraction 39 = .ok (.iinc 9 1, 3) := by decide +kernel
theorem dX10_partOfFraction_42 : decode cX10_partOfFraction 42 = .ok (.goto (-33), 3) := by decide +kernel
theorem dX10_partOfFraction_45 : decode cX10_partOfFraction 45 = .ok (.iload 4, 2) := by decide +kernel
theorem dX10_partOfFraction_47 : decode cX10_partOfFraction 47 = .ok (.ifCond .ne 7, 3) := by decide +kernel
theorem dX10_partOfFraction_50 : decode cX10_partOfFraction 50 = .ok (.lload_n 0, 1) := by decide +kernel
theorem dX10_partOfFraction_51 : decode cX10_partOfFraction 51 = .ok (.goto 4, 3) := by decide +kernel
theorem dX10_partOfFraction_54 : decode cX10_partOfFraction 54 = .ok (.lload_n 2, 1) := by decide +kernel
theorem dX10_partOfFraction_55 : decode cX10_partOfFraction 55 = .ok (.lstore 9, 2) := by decide +kernel
theorem dX10_partOfFraction_57 : decode cX10_partOfFraction 57 = .ok (.lload 5, 2) := by decide +kernel
theorem dX10_partOfFraction_59 : decode cX10_partOfFraction 59 = .ok (.lconst 0, 1) := by decide +kernel
theorem dX10_partOfFraction_60 : decode cX10_partOfFraction 60 = .ok (.lcmp, 1) := by decide +kernel
theorem dX10_partOfFraction_61 : decode cX10_partOfFraction 61 = .ok (.ifCond .ne 8, 3) := by decide +kernel
theorem dX10_partOfFraction_64 : decode cX10_partOfFraction 64 = .ok (.lload 9, 2) := by decide +kernel
theorem dX10_partOfFraction_66 : decode cX10_partOfFraction 66 = .ok (.goto 8, 3) := by decide +kernel
theorem dX10_partOfFraction_69 : decode cX10_partOfFraction 69 = .ok (.lload 9, 2) := by decide +kernel
theorem dX10_partOfFraction_71 : decode cX10_partOfFraction 71 = .ok (.lload 5, 2) := by decide +kernel
theorem dX10_partOfFraction_73 : decode cX10_partOfFraction 73 = .ok (.ldiv, 1) := by decide +kernel
theorem dX10_partOfFraction_74 : decode cX10_partOfFraction 74 = .ok (.lreturn, 1) := by decide +kernel
theorem dX10_firstWrong_0 : decode cX10_firstWrong 0 = .ok (.iconst 0, 1) := by decide +kernel
theorem dX10_firstWrong_1 : decode cX10_firstWrong 1 = .ok (.istore_n 1, 1) := by decide +kernel
theorem dX10_firstWrong_2 : decode cX10_firstWrong 2 = .ok (.iload_n 1, 1) := by decide +kernel
theorem dX10_firstWrong_3 : decode cX10_firstWrong 3 = .ok (.aload_n 0, 1) := by decide +kernel
theorem dX10_firstWrong_4 : decode cX10_firstWrong 4 = .ok (.getfield 12, 3) := by decide +kernel
theorem dX10_firstWrong_7 : decode cX10_firstWrong 7 = .ok (.getfield 170, 3) := by decide +kernel
theorem dX10_firstWrong_10 : decode cX10_firstWrong 10 = .ok (.getfield 125, 3) := by decide +kernel
theorem dX10_firstWrong_13 : decode cX10_firstWrong 13 = .ok (.if_icmp .ge 19, 3) := by decide +kernel
theorem dX10_firstWrong_16 : decode cX10_firstWrong 16 = .ok (.aload_n 0, 1) := by decide +kernel
theorem dX10_firstWrong_17 : decode cX10_firstWrong 17 = .ok (.iload_n 1, 1) := by decide +kernel
theorem dX10_firstWrong_18 : decode cX10_firstWrong 18 = .ok (.invokevirtual 260, 3) := by decide +kernel
theorem dX10_firstWrong_21 : decode cX10_firstWrong 21 = .ok (.ifCond .eq 5, 3) := by decide +kernel
theorem dX10_firstWrong_24 : decode cX10_firstWrong 24 = .ok (.iload_n 1, 1) := by decide +kernel
theorem dX10_firstWrong_25 : decode cX10_firstWrong 25 = .ok (.ireturn, 1) := by decide +kernel
theorem dX10_firstWrong_26 : decode cX10_firstWrong 26 = .ok (.iinc 1 1, 3) := by decide +kernel
theorem dX10_firstWrong_29 : decode cX10_firstWrong 29 = .ok (.goto (-27), 3) := by decide +kernel
theorem dX10_firstWrong_32 : decode cX10_firstWrong 32 = .ok (.bipush (-4), 2) := by decide +kernel
theorem dX10_firstWrong_34 : decode cX10_firstWrong 34 = .ok (.ireturn, 1) := by decide +kernel
theorem dX10_faultOfTold_0 : decode cX10_faultOfTold 0 = .ok (.aload_n 0, 1) := by decide +kernel
theorem dX10_faultOfTold_1 : decode cX10_faultOfTold 1 = .ok (.getfield 12, 3) := by decide +kernel
theorem dX10_faultOfTold_4 : decode cX10_faultOfTold 4 = .ok (.getfield 245, 3) := by decide +kernel
theorem dX10_faultOfTold_7 : decode cX10_faultOfTold 7 = .ok (.iload_n 1, 1) := by decide +kernel
theorem dX10_faultOfTold_8 : decode cX10_faultOfTold 8 = .ok (.iaload, 1) := by decide +kernel
theorem dX10_faultOfTold_9 : decode cX10_faultOfTold 9 = .ok (.istore_n 2, 1) := by decide +kernel
theorem dX10_faultOfTold_10 : decode cX10_faultOfTold 10 = .ok (.iload_n 2, 1) := by decide +kernel
theorem dX10_faultOfTold_11 : decode cX10_faultOfTold 11 = .ok (.bipush (-4), 2) := by decide +kernel
theorem dX10_faultOfTold_13 : decode cX10_faultOfTold 13 = .ok (.if_icmp .ne 5, 3) := by decide +kernel
theorem dX10_faultOfTold_16 : decode cX10_faultOfTold 16 = .ok (.iconst 0, 1) := by decide +kernel
theorem dX10_faultOfTold_17 : decode cX10_faultOfTold 17 = .ok (.ireturn, 1) := by decide +kernel
theorem dX10_faultOfTold_18 : decode cX10_faultOfTold 18 = .ok (.aload_n 0, 1) := by decide +kernel
theorem dX10_faultOfTold_19 : decode cX10_faultOfTold 19 = .ok (.getfield 12, 3) := by decide +kernel
theorem dX10_faultOfTold_22 : decode cX10_faultOfTold 22 = .ok (.getfield 174, 3) := by decide +kernel
theorem dX10_faultOfTold_25 : decode cX10_faultOfTold 25 = .ok (.iload_n 2, 1) := by decide +kernel
theorem dX10_faultOfTold_26 : decode cX10_faultOfTold 26 = .ok (.invokevirtual 197, 3) := by decide +kernel
theorem dX10_faultOfTold_29 : decode cX10_faultOfTold 29 = .ok (.ifCond .ne 5, 3) := by decide +kernel
theorem dX10_faultOfTold_32 : decode cX10_faultOfTold 32 = .ok (.iconst 1, 1) := by decide +kernel
theorem dX10_faultOfTold_33 : decode cX10_faultOfTold 33 = .ok (.ireturn, 1) := by decide +kernel
theorem dX10_faultOfTold_34 : decode cX10_faultOfTold 34 = .ok (.iconst 0, 1) := by decide +kernel
theorem dX10_faultOfTold_35 : decode cX10_faultOfTold 35 = .ok (.istore_n 3, 1) := by decide +kernel
theorem dX10_faultOfTold_36 : decode cX10_faultOfTold 36 = .ok (.iload_n 3, 1) := by decide +kernel
theorem dX10_faultOfTold_37 : decode cX10_faultOfTold 37 = .ok (.iload_n 1, 1) := by decide +kernel
theorem dX10_faultOfTold_38 : decode cX10_faultOfTold 38 = .ok (.if_icmp .ge 24, 3) := by decide +kernel
theorem dX10_faultOfTold_41 : decode cX10_faultOfTold 41 = .ok (.aload_n 0, 1) := by decide +kernel
theorem dX10_faultOfTold_42 : decode cX10_faultOfTold 42 = .ok (.getfield 12, 3) := by decide +kernel
theorem dX10_faultOfTold_45 : decode cX10_faultOfTold 45 = .ok (.getfield 245, 3) := by decide +kernel
theorem dX10_faultOfTold_48 : decode cX10_faultOfTold 48 = .ok (.iload_n 3, 1) := by decide +kernel
theorem dX10_faultOfTold_49 : decode cX10_faultOfTold 49 = .ok (.iaload, 1) := by decide +kernel
theorem dX10_faultOfTold_50 : decode cX10_faultOfTold 50 = .ok (.iload_n 2, 1) := by decide +kernel
theorem dX10_faultOfTold_51 : decode cX10_faultOfTold 51 = .ok (.if_icmp .ne 5, 3) := by decide +kernel
theorem dX10_faultOfTold_54 : decode cX10_faultOfTold 54 = .ok (.iconst 2, 1) := by decide +kernel
theorem dX10_faultOfTold_55 : decode cX10_faultOfTold 55 = .ok (.ireturn, 1) := by decide +kernel
theorem dX10_faultOfTold_56 : decode cX10_faultOfTold 56 = .ok (.iinc 3 1, 3) := by decide +kernel
theorem dX10_faultOfTold_59 : decode cX10_faultOfTold 59 = .ok (.goto (-23), 3) := by decide +kernel
theorem dX10_faultOfTold_62 : decode cX10_faultOfTold 62 = .ok (.aload_n 0, 1) := by decide +kernel
theorem dX10_faultOfTold_63 : decode cX10_faultOfTold 63 = .ok (.getfield 44, 3) := by decide +kernel
theorem dX10_faultOfTold_66 : decode cX10_faultOfTold 66 = .ok (.iload_n 1, 1) := by decide +kernel
theorem dX10_faultOfTold_67 : decode cX10_faultOfTold 67 = .ok (.iload_n 2, 1) := by decide +kernel
theorem dX10_faultOfTold_68 : decode cX10_faultOfTold 68 = .ok (.invokevirtual 206, 3) := by decide +kernel
theorem dX10_faultOfTold_71 : decode cX10_faultOfTold 71 = .ok (.ifCond .eq 7, 3) := by decide +kernel
theorem dX10_faultOfTold_74 : decode cX10_faultOfTold 74 = .ok (.iconst 0, 1) := by decide +kernel
theorem dX10_faultOfTold_75 : decode cX10_faultOfTold 75 = .ok (.goto 4, 3) := by decide +kernel
theorem dX10_faultOfTold_78 : decode cX10_faultOfTold 78 = .ok (.iconst 3, 1) := by decide +kernel
theorem dX10_faultOfTold_79 : decode cX10_faultOfTold 79 = .ok (.ireturn, 1) := by decide +kernel
theorem dX10_toldTotal_0 : decode cX10_toldTotal 0 = .ok (.aload_n 0, 1) := by decide +kernel
theorem dX10_toldTotal_1 : decode cX10_toldTotal 1 = .ok (.getfield 44, 3) := by decide +kernel
theorem dX10_toldTotal_4 : decode cX10_toldTotal 4 = .ok (.getfield 194, 3) := by decide +kernel
theorem dX10_toldTotal_7 : decode cX10_toldTotal 7 = .ok (.istore_n 1, 1) := by decide +kernel
theorem dX10_toldTotal_8 : decode cX10_toldTotal 8 = .ok (.iconst 0, 1) := by decide +kernel
theorem dX10_toldTotal_9 : decode cX10_toldTotal 9 = .ok (.istore_n 2, 1) := by decide +kernel
theorem dX10_toldTotal_10 : decode cX10_toldTotal 10 = .ok (.iload_n 2, 1) := by decide +kernel
theorem dX10_toldTotal_11 : decode cX10_toldTotal 11 = .ok (.aload_n 0, 1) := by decide +kernel
theorem dX10_toldTotal_12 : decode cX10_toldTotal 12 = .ok (.getfield 12, 3) := by decide +kernel
theorem dX10_toldTotal_15 : decode cX10_toldTotal 15 = .ok (.getfield 170, 3) := by decide +kernel
theorem dX10_toldTotal_18 : decode cX10_toldTotal 18 = .ok (.getfield 125, 3) := by decide +kernel
theorem dX10_toldTotal_21 : decode cX10_toldTotal 21 = .ok (.if_icmp .ge 43, 3) := by decide +kernel
theorem dX10_toldTotal_24 : decode cX10_toldTotal 24 = .ok (.aload_n 0, 1) := by decide +kernel
theorem dX10_toldTotal_25 : decode cX10_toldTotal 25 = .ok (.getfield 12, 3) := by decide +kernel
theorem dX10_toldTotal_28 : decode cX10_toldTotal 28 = .ok (.getfield 245, 3) := by decide +kernel
theorem dX10_toldTotal_31 : decode cX10_toldTotal 31 = .ok (.iload_n 2, 1) := by decide +kernel
theorem dX10_toldTotal_32 : decode cX10_toldTotal 32 = .ok (.iaload, 1) := by decide +kernel
theorem dX10_toldTotal_33 : decode cX10_toldTotal 33 = .ok (.bipush (-4), 2) := by decide +kernel
theorem dX10_toldTotal_35 : decode cX10_toldTotal 35 = .ok (.if_icmp .eq 23, 3) := by decide +kernel
theorem dX10_toldTotal_38 : decode cX10_toldTotal 38 = .ok (.iload_n 1, 1) := by decide +kernel
theorem dX10_toldTotal_39 : decode cX10_toldTotal 39 = .ok (.aload_n 0, 1) := by decide +kernel
theorem dX10_toldTotal_40 : decode cX10_toldTotal 40 = .ok (.getfield 44, 3) := by decide +kernel
theorem dX10_toldTotal_43 : decode cX10_toldTotal 43 = .ok (.iload_n 2, 1) := by decide +kernel
theorem dX10_toldTotal_44 : decode cX10_toldTotal 44 = .ok (.aload_n 0, 1) := by decide +kernel
theorem dX10_toldTotal_45 : decode cX10_toldTotal 45 = .ok (.getfield 12, 3) := by decide +kernel
theorem dX10_toldTotal_48 : decode cX10_toldTotal 48 = .ok (.getfield 245, 3) := by decide +kernel
theorem dX10_toldTotal_51 : decode cX10_toldTotal 51 = .ok (.iload_n 2, 1) := by decide +kernel
theorem dX10_toldTotal_52 : decode cX10_toldTotal 52 = .ok (.iaload, 1) := by decide +kernel
theorem dX10_toldTotal_53 : decode cX10_toldTotal 53 = .ok (.invokevirtual 391, 3) := by decide +kernel
theorem dX10_toldTotal_56 : decode cX10_toldTotal 56 = .ok (.iadd, 1) := by decide +kernel
theorem dX10_toldTotal_57 : decode cX10_toldTotal 57 = .ok (.istore_n 1, 1) := by decide +kernel
theorem dX10_toldTotal_58 : decode cX10_toldTotal 58 = .ok (.iinc 2 1, 3) := by decide +kernel
theorem dX10_toldTotal_61 : decode cX10_toldTotal 61 = .ok (.goto (-51), 3) := by decide +kernel
theorem dX10_toldTotal_64 : decode cX10_toldTotal 64 = .ok (.iload_n 1, 1) := by decide +kernel
theorem dX10_toldTotal_65 : decode cX10_toldTotal 65 = .ok (.ireturn, 1) := by decide +kernel
theorem dX10_copyPrices_0 : decode cX10_copyPrices 0 = .ok (.aload_n 1, 1) := by decide +kernel
theorem dX10_copyPrices_1 : decode cX10_copyPrices 1 = .ok (.iload_n 2, 1) := by decide +kernel
theorem dX10_copyPrices_2 : decode cX10_copyPrices 2 = .ok (.invokevirtual 360, 3) := by decide +kernel
theorem dX10_copyPrices_5 : decode cX10_copyPrices 5 = .ok (.istore 4, 2) := by decide +kernel
theorem dX10_copyPrices_7 : decode cX10_copyPrices 7 = .ok (.iload 4, 2) := by decide +kernel
theorem dX10_copyPrices_9 : decode cX10_copyPrices 9 = .ok (.ifCond .eq 10, 3) := by decide +kernel
theorem dX10_copyPrices_12 : decode cX10_copyPrices 12 = .ok (.ldc_w 394, 3) := by decide +kernel
theorem dX10_copyPrices_15 : decode cX10_copyPrices 15 = .ok (.iload 4, 2) := by decide +kernel
theorem dX10_copyPrices_17 : decode cX10_copyPrices 17 = .ok (.isub, 1) := by decide +kernel
theorem dX10_copyPrices_18 : decode cX10_copyPrices 18 = .ok (.ireturn, 1) := by decide +kernel
theorem dX10_copyPrices_19 : decode cX10_copyPrices 19 = .ok (.aload_n 0, 1) := by decide +kernel
theorem dX10_copyPrices_20 : decode cX10_copyPrices 20 = .ok (.getfield 12, 3) := by decide +kernel
theorem dX10_copyPrices_23 : decode cX10_copyPrices 23 = .ok (.getfield 170, 3) := by decide +kernel
theorem dX10_copyPrices_26 : decode cX10_copyPrices 26 = .ok (.getfield 125, 3) := by decide +kernel
theorem dX10_copyPrices_29 : decode cX10_copyPrices 29 = .ok (.aload_n 0, 1) := by decide +kernel
theorem dX10_copyPrices_30 : decode cX10_copyPrices 30 = .ok (.getfield 12, 3) := by decide +kernel
theorem dX10_copyPrices_33 : decode cX10_copyPrices 33 = .ok (.getfield 174, 3) := by decide +kernel
theorem dX10_copyPrices_36 : decode cX10_copyPrices 36 = .ok (.getfield 125, 3) := by decide +kernel
theorem dX10_copyPrices_39 : decode cX10_copyPrices 39 = .ok (.iadd, 1) := by decide +kernel
theorem dX10_copyPrices_40 : decode cX10_copyPrices 40 = .ok (.istore 5, 2) := by decide +kernel
theorem dX10_copyPrices_42 : decode cX10_copyPrices 42 = .ok (.iconst 0, 1) := by decide +kernel
theorem dX10_copyPrices_43 : decode cX10_copyPrices 43 = .ok (.istore 6, 2) := by decide +kernel
theorem dX10_copyPrices_45 : decode cX10_copyPrices 45 = .ok (.iload 6, 2) := by decide +kernel
theorem dX10_copyPrices_47 : decode cX10_copyPrices 47 = .ok (.iload 5, 2) := by decide +kernel
theorem dX10_copyPrices_49 : decode cX10_copyPrices 49 = .ok (.if_icmp .ge 69, 3) := by decide +kernel
theorem dX10_copyPrices_52 : decode cX10_copyPrices 52 = .ok (.iload_n 3, 1) := by decide +kernel
theorem dX10_copyPrices_53 : decode cX10_copyPrices 53 = .ok (.ifCond .lt 14, 3) := by decide +kernel
theorem dX10_copyPrices_56 : decode cX10_copyPrices 56 = .ok (.iload_n 3, 1) := by decide +kernel
theorem dX10_copyPrices_57 : decode cX10_copyPrices 57 = .ok (.aload_n 1, 1) := by decide +kernel
theorem dX10_copyPrices_58 : decode cX10_copyPrices 58 = .ok (.getfield 356, 3) := by decide +kernel
theorem dX10_copyPrices_61 : decode cX10_copyPrices 61 = .ok (.iload 6, 2) := by decide +kernel
theorem dX10_copyPrices_63 : decode cX10_copyPrices 63 = .ok (.isub, 1) := by decide +kernel
theorem dX10_copyPrices_64 : decode cX10_copyPrices 64 = .ok (.if_icmp .lt 7, 3) := by decide +kernel
theorem dX10_copyPrices_67 : decode cX10_copyPrices 67 = .ok (.ldc_w 395, 3) := by decide +kernel
theorem dX10_copyPrices_70 : decode cX10_copyPrices 70 = .ok (.ireturn, 1) := by decide +kernel
theorem dX10_copyPrices_71 : decode cX10_copyPrices 71 = .ok (.aload_n 1, 1) := by decide +kernel
theorem dX10_copyPrices_72 : decode cX10_copyPrices 72 = .ok (.getfield 396, 3) := by decide +kernel
theorem dX10_copyPrices_75 : decode cX10_copyPrices 75 = .ok (.iload_n 3, 1) := by decide +kernel
theorem dX10_copyPrices_76 : decode cX10_copyPrices 76 = .ok (.iload 6, 2) := by decide +kernel
theorem dX10_copyPrices_78 : decode cX10_copyPrices 78 = .ok (.iadd, 1) := by decide +kernel
theorem dX10_copyPrices_79 : decode cX10_copyPrices 79 = .ok (.iaload, 1) := by decide +kernel
theorem dX10_copyPrices_80 : decode cX10_copyPrices 80 = .ok (.istore 7, 2) := by decide +kernel
theorem dX10_copyPrices_82 : decode cX10_copyPrices 82 = .ok (.iload 7, 2) := by decide +kernel
theorem dX10_copyPrices_84 : decode cX10_copyPrices 84 = .ok (.sipush (-999), 3) := by decide +kernel
theorem dX10_copyPrices_87 : decode cX10_copyPrices 87 = .ok (.sipush 999, 3) := by decide +kernel
theorem dX10_copyPrices_90 : decode cX10_copyPrices 90 = .ok (.invokestatic 89, 3) := by decide +kernel
theorem dX10_copyPrices_93 : decode cX10_copyPrices 93 = .ok (.ifCond .ne 10, 3) := by decide +kernel
theorem dX10_copyPrices_96 : decode cX10_copyPrices 96 = .ok (.ldc_w 399, 3) := by decide +kernel
theorem dX10_copyPrices_99 : decode cX10_copyPrices 99 = .ok (.iload 6, 2) := by decide +kernel
theorem dX10_copyPrices_101 : decode cX10_copyPrices 101 = .ok (.isub, 1) := by decide +kernel
theorem dX10_copyPrices_102 : decode cX10_copyPrices 102 = .ok (.ireturn, 1) := by decide +kernel
theorem dX10_copyPrices_103 : decode cX10_copyPrices 103 = .ok (.aload_n 0, 1) := by decide +kernel
theorem dX10_copyPrices_104 : decode cX10_copyPrices 104 = .ok (.getfield 71, 3) := by decide +kernel
theorem dX10_copyPrices_107 : decode cX10_copyPrices 107 = .ok (.iload 6, 2) := by decide +kernel
theorem dX10_copyPrices_109 : decode cX10_copyPrices 109 = .ok (.iload 7, 2) := by decide +kernel
theorem dX10_copyPrices_111 : decode cX10_copyPrices 111 = .ok (.iastore, 1) := by decide +kernel
theorem dX10_copyPrices_112 : decode cX10_copyPrices 112 = .ok (.iinc 6 1, 3) := by decide +kernel
theorem dX10_copyPrices_115 : decode cX10_copyPrices 115 = .ok (.goto (-70), 3) := by decide +kernel
theorem dX10_copyPrices_118 : decode cX10_copyPrices 118 = .ok (.iconst 0, 1) := by decide +kernel
theorem dX10_copyPrices_119 : decode cX10_copyPrices 119 = .ok (.ireturn, 1) := by decide +kernel
theorem dX10_firstUnderpriced_0 : decode cX10_firstUnderpriced 0 = .ok (.iconst 0, 1) := by decide +kernel
theorem dX10_firstUnderpriced_1 : decode cX10_firstUnderpriced 1 = .ok (.istore_n 1, 1) := by decide +kernel
theorem dX10_firstUnderpriced_2 : decode cX10_firstUnderpriced 2 = .ok (.iload_n 1, 1) := by decide +kernel
theorem dX10_firstUnderpriced_3 : decode cX10_firstUnderpriced 3 = .ok (.aload_n 0, 1) := by decide +kernel
theorem dX10_firstUnderpriced_4 : decode cX10_firstUnderpriced 4 = .ok (.getfield 44, 3) := by decide +kernel
theorem dX10_firstUnderpriced_7 : decode cX10_firstUnderpriced 7 = .ok (.getfield 385, 3) := by decide +kernel
theorem dX10_firstUnderpriced_10 : decode cX10_firstUnderpriced 10 = .ok (.if_icmp .ge 75, 3) := by decide +kernel
theorem dX10_firstUnderpriced_13 : decode cX10_firstUnderpriced 13 = .ok (.iconst 0, 1) := by decide +kernel
theorem dX10_firstUnderpriced_14 : decode cX10_firstUnderpriced 14 = .ok (.istore_n 2, 1) := by decide +kernel
theorem dX10_firstUnderpriced_15 : decode cX10_firstUnderpriced 15 = .ok (.iload_n 2, 1) := by decide +kernel
theorem dX10_firstUnderpriced_16 : decode cX10_firstUnderpriced 16 = .ok (.aload_n 0, 1) := by decide +kernel
theorem dX10_firstUnderpriced_17 : decode cX10_firstUnderpriced 17 = .ok (.getfield 44, 3) := by decide +kernel
theorem dX10_firstUnderpriced_20 : decode cX10_firstUnderpriced 20 = .ok (.getfield 388, 3) := by decide +kernel
theorem dX10_firstUnderpriced_23 : decode cX10_firstUnderpriced 23 = .ok (.if_icmp .ge 56, 3) := by decide +kernel
theorem dX10_firstUnderpriced_26 : decode cX10_firstUnderpriced 26 = .ok (.aload_n 0, 1) := by decide +kernel
theorem dX10_firstUnderpriced_27 : decode cX10_firstUnderpriced 27 = .ok (.getfield 44, 3) := by decide +kernel
theorem dX10_firstUnderpriced_30 : decode cX10_firstUnderpriced 30 = .ok (.iload_n 1, 1) := by decide +kernel
theorem dX10_firstUnderpriced_31 : decode cX10_firstUnderpriced 31 = .ok (.iload_n 2, 1) := by decide +kernel
theorem dX10_firstUnderpriced_32 : decode cX10_firstUnderpriced 32 = .ok (.invokevirtual 206, 3) := by decide +kernel
theorem dX10_firstUnderpriced_35 : decode cX10_firstUnderpriced 35 = .ok (.ifCond .eq 38, 3) := by decide +kernel
theorem dX10_firstUnderpriced_38 : decode cX10_firstUnderpriced 38 = .ok (.aload_n 0, 1) := by decide +kernel
theorem dX10_firstUnderpriced_39 : decode cX10_firstUnderpriced 39 = .ok (.getfield 71, 3) := by decide +kernel
theorem dX10_firstUnderpriced_42 : decode cX10_firstUnderpriced 42 = .ok (.iload_n 1, 1) := by decide +kernel
theorem dX10_firstUnderpriced_43 : decode cX10_firstUnderpriced 43 = .ok (.iaload, 1) := by decide +kernel
theorem dX10_firstUnderpriced_44 : decode cX10_firstUnderpriced 44 = .ok (.aload_n 0, 1) := by decide +kernel
theorem dX10_firstUnderpriced_45 : decode cX10_firstUnderpriced 45 = .ok (.getfield 71, 3) := by decide +kernel
theorem dX10_firstUnderpriced_48 : decode cX10_firstUnderpriced 48 = .ok (.aload_n 0, 1) := by decide +kernel
theorem dX10_firstUnderpriced_49 : decode cX10_firstUnderpriced 49 = .ok (.getfield 44, 3) := by decide +kernel
theorem dX10_firstUnderpriced_52 : decode cX10_firstUnderpriced 52 = .ok (.getfield 385, 3) := by decide +kernel
theorem dX10_firstUnderpriced_55 : decode cX10_firstUnderpriced 55 = .ok (.iload_n 2, 1) := by decide +kernel
theorem dX10_firstUnderpriced_56 : decode cX10_firstUnderpriced 56 = .ok (.iadd, 1) := by decide +kernel
theorem dX10_firstUnderpriced_57 : decode cX10_firstUnderpriced 57 = .ok (.iaload, 1) := by decide +kernel
theorem dX10_firstUnderpriced_58 : decode cX10_firstUnderpriced 58 = .ok (.iadd, 1) := by decide +kernel
theorem dX10_firstUnderpriced_59 : decode cX10_firstUnderpriced 59 = .ok (.aload_n 0, 1) := by decide +kernel
theorem dX10_firstUnderpriced_60 : decode cX10_firstUnderpriced 60 = .ok (.getfield 44, 3) := by decide +kernel
theorem dX10_firstUnderpriced_63 : decode cX10_firstUnderpriced 63 = .ok (.iload_n 1, 1) := by decide +kernel
theorem dX10_firstUnderpriced_64 : decode cX10_firstUnderpriced 64 = .ok (.iload_n 2, 1) := by decide +kernel
theorem dX10_firstUnderpriced_65 : decode cX10_firstUnderpriced 65 = .ok (.invokevirtual 167, 3) := by decide +kernel
theorem dX10_firstUnderpriced_68 : decode cX10_firstUnderpriced 68 = .ok (.if_icmp .le 5, 3) := by decide +kernel
theorem dX10_firstUnderpriced_71 : decode cX10_firstUnderpriced 71 = .ok (.iload_n 1, 1) := by decide +kernel
theorem dX10_firstUnderpriced_72 : decode cX10_firstUnderpriced 72 = .ok (.ireturn, 1) := by decide +kernel
theorem dX10_firstUnderpriced_73 : decode cX10_firstUnderpriced 73 = .ok (.iinc 2 1, 3) := by decide +kernel
theorem dX10_firstUnderpriced_76 : decode cX10_firstUnderpriced 76 = .ok (.goto (-61), 3) := by decide +kernel
theorem dX10_firstUnderpriced_79 : decode cX10_firstUnderpriced 79 = .ok (.iinc 1 1, 3) := by decide +kernel
theorem dX10_firstUnderpriced_82 : decode cX10_firstUnderpriced 82 = .ok (.goto (-80), 3) := by decide +kernel
theorem dX10_firstUnderpriced_85 : decode cX10_firstUnderpriced 85 = .ok (.bipush (-4), 2) := by decide +kernel
theorem dX10_firstUnderpriced_87 : decode cX10_firstUnderpriced 87 = .ok (.ireturn, 1) := by decide +kernel
theorem dX10_firstOverpriced_0 : decode cX10_firstOverpriced 0 = .ok (.iconst 0, 1) := by decide +kernel
theorem dX10_firstOverpriced_1 : decode cX10_firstOverpriced 1 = .ok (.istore_n 1, 1) := by decide +kernel
theorem dX10_firstOverpriced_2 : decode cX10_firstOverpriced 2 = .ok (.iload_n 1, 1) := by decide +kernel
theorem dX10_firstOverpriced_3 : decode cX10_firstOverpriced 3 = .ok (.aload_n 0, 1) := by decide +kernel
theorem dX10_firstOverpriced_4 : decode cX10_firstOverpriced 4 = .ok (.getfield 44, 3) := by decide +kernel
theorem dX10_firstOverpriced_7 : decode cX10_firstOverpriced 7 = .ok (.getfield 385, 3) := by decide +kernel
theorem dX10_firstOverpriced_10 : decode cX10_firstOverpriced 10 = .ok (.aload_n 0, 1) := by decide +kernel
theorem dX10_firstOverpriced_11 : decode cX10_firstOverpriced 11 = .ok (.getfield 44, 3) := by decide +kernel
theorem dX10_firstOverpriced_14 : decode cX10_firstOverpriced 14 = .ok (.getfield 388, 3) := by decide +kernel
theorem dX10_firstOverpriced_17 : decode cX10_firstOverpriced 17 = .ok (.iadd, 1) := by decide +kernel
theorem dX10_firstOverpriced_18 : decode cX10_firstOverpriced 18 = .ok (.if_icmp .ge 49, 3) := by decide +kernel
theorem dX10_firstOverpriced_21 : decode cX10_firstOverpriced 21 = .ok (.aload_n 0, 1) := by decide +kernel
theorem dX10_firstOverpriced_22 : decode cX10_firstOverpriced 22 = .ok (.getfield 71, 3) := by decide +kernel
theorem dX10_firstOverpriced_25 : decode cX10_firstOverpriced 25 = .ok (.iload_n 1, 1) := by decide +kernel
theorem dX10_firstOverpriced_26 : decode cX10_firstOverpriced 26 = .ok (.iaload, 1) := by decide +kernel
theorem dX10_firstOverpriced_27 : decode cX10_firstOverpriced 27 = .ok (.aload_n 0, 1) := by decide +kernel
theorem dX10_firstOverpriced_28 : decode cX10_firstOverpriced 28 = .ok (.getfield 12, 3) := by decide +kernel
theorem dX10_firstOverpriced_31 : decode cX10_firstOverpriced 31 = .ok (.getfield 97, 3) := by decide +kernel
theorem dX10_firstOverpriced_34 : decode cX10_firstOverpriced 34 = .ok (.getfield 107, 3) := by decide +kernel
theorem dX10_firstOverpriced_37 : decode cX10_firstOverpriced 37 = .ok (.iload_n 1, 1) := by decide +kernel
theorem dX10_firstOverpriced_38 : decode cX10_firstOverpriced 38 = .ok (.aload_n 0, 1) := by decide +kernel
theorem dX10_firstOverpriced_39 : decode cX10_firstOverpriced 39 = .ok (.getfield 44, 3) := by decide +kernel
theorem dX10_firstOverpriced_42 : decode cX10_firstOverpriced 42 = .ok (.getfield 385, 3) := by decide +kernel
theorem dX10_firstOverpriced_45 : decode cX10_firstOverpriced 45 = .ok (.if_icmp .ge 8, 3) := by decide +kernel
theorem dX10_firstOverpriced_48 : decode cX10_firstOverpriced 48 = .ok (.bipush 7, 2) := by decide +kernel
theorem dX10_firstOverpriced_50 : decode cX10_firstOverpriced 50 = .ok (.goto 5, 3) := by decide +kernel
theorem dX10_firstOverpriced_53 : decode cX10_firstOverpriced 53 = .ok (.bipush 8, 2) := by decide +kernel
theorem dX10_firstOverpriced_55 : decode cX10_firstOverpriced 55 = .ok (.iaload, 1) := by decide +kernel
theorem dX10_firstOverpriced_56 : decode cX10_firstOverpriced 56 = .ok (.if_icmp .le 5, 3) := by decide +kernel
theorem dX10_firstOverpriced_59 : decode cX10_firstOverpriced 59 = .ok (.iload_n 1, 1) := by decide +kernel
theorem dX10_firstOverpriced_60 : decode cX10_firstOverpriced 60 = .ok (.ireturn, 1) := by decide +kernel
theorem dX10_firstOverpriced_61 : decode cX10_firstOverpriced 61 = .ok (.iinc 1 1, 3) := by decide +kernel
theorem dX10_firstOverpriced_64 : decode cX10_firstOverpriced 64 = .ok (.goto (-62), 3) := by decide +kernel
theorem dX10_firstOverpriced_67 : decode cX10_firstOverpriced 67 = .ok (.bipush (-4), 2) := by decide +kernel
theorem dX10_firstOverpriced_69 : decode cX10_firstOverpriced 69 = .ok (.ireturn, 1) := by decide +kernel
theorem dX10_sumOfPrices_0 : decode cX10_sumOfPrices 0 = .ok (.iconst 0, 1) := by decide +kernel
theorem dX10_sumOfPrices_1 : decode cX10_sumOfPrices 1 = .ok (.istore_n 1, 1) := by decide +kernel
theorem dX10_sumOfPrices_2 : decode cX10_sumOfPrices 2 = .ok (.iconst 0, 1) := by decide +kernel
theorem dX10_sumOfPrices_3 : decode cX10_sumOfPrices 3 = .ok (.istore_n 2, 1) := by decide +kernel
theorem dX10_sumOfPrices_4 : decode cX10_sumOfPrices 4 = .ok (.iload_n 2, 1) := by decide +kernel
theorem dX10_sumOfPrices_5 : decode cX10_sumOfPrices 5 = .ok (.aload_n 0, 1) := by decide +kernel
theorem dX10_sumOfPrices_6 : decode cX10_sumOfPrices 6 = .ok (.getfield 44, 3) := by decide +kernel
theorem dX10_sumOfPrices_9 : decode cX10_sumOfPrices 9 = .ok (.getfield 385, 3) := by decide +kernel
theorem dX10_sumOfPrices_12 : decode cX10_sumOfPrices 12 = .ok (.aload_n 0, 1) := by decide +kernel
theorem dX10_sumOfPrices_13 : decode cX10_sumOfPrices 13 = .ok (.getfield 44, 3) := by decide +kernel
theorem dX10_sumOfPrices_16 : decode cX10_sumOfPrices 16 = .ok (.getfield 388, 3) := by decide +kernel
theorem dX10_sumOfPrices_19 : decode cX10_sumOfPrices 19 = .ok (.iadd, 1) := by decide +kernel
theorem dX10_sumOfPrices_20 : decode cX10_sumOfPrices 20 = .ok (.if_icmp .ge 18, 3) := by decide +kernel
theorem dX10_sumOfPrices_23 : decode cX10_sumOfPrices 23 = .ok (.iload_n 1, 1) := by decide +kernel
theorem dX10_sumOfPrices_24 : decode cX10_sumOfPrices 24 = .ok (.aload_n 0, 1) := by decide +kernel
theorem dX10_sumOfPrices_25 : decode cX10_sumOfPrices 25 = .ok (.getfield 71, 3) := by decide +kernel
theorem dX10_sumOfPrices_28 : decode cX10_sumOfPrices 28 = .ok (.iload_n 2, 1) := by decide +kernel
theorem dX10_sumOfPrices_29 : decode cX10_sumOfPrices 29 = .ok (.iaload, 1) := by decide +kernel
theorem dX10_sumOfPrices_30 : decode cX10_sumOfPrices 30 = .ok (.iadd, 1) := by decide +kernel
theorem dX10_sumOfPrices_31 : decode cX10_sumOfPrices 31 = .ok (.istore_n 1, 1) := by decide +kernel
theorem dX10_sumOfPrices_32 : decode cX10_sumOfPrices 32 = .ok (.iinc 2 1, 3) := by decide +kernel
theorem dX10_sumOfPrices_35 : decode cX10_sumOfPrices 35 = .ok (.goto (-31), 3) := by decide +kernel
theorem dX10_sumOfPrices_38 : decode cX10_sumOfPrices 38 = .ok (.iload_n 1, 1) := by decide +kernel
theorem dX10_sumOfPrices_39 : decode cX10_sumOfPrices 39 = .ok (.ireturn, 1) := by decide +kernel
theorem dX10_extremeTime_0 : decode cX10_extremeTime 0 = .ok (.sipush (-10004), 3) := by decide +kernel
theorem dX10_extremeTime_3 : decode cX10_extremeTime 3 = .ok (.istore_n 2, 1) := by decide +kernel
theorem dX10_extremeTime_4 : decode cX10_extremeTime 4 = .ok (.iconst 0, 1) := by decide +kernel
theorem dX10_extremeTime_5 : decode cX10_extremeTime 5 = .ok (.istore_n 3, 1) := by decide +kernel
theorem dX10_extremeTime_6 : decode cX10_extremeTime 6 = .ok (.iload_n 3, 1) := by decide +kernel
theorem dX10_extremeTime_7 : decode cX10_extremeTime 7 = .ok (.aload_n 0, 1) := by decide +kernel
theorem dX10_extremeTime_8 : decode cX10_extremeTime 8 = .ok (.getfield 44, 3) := by decide +kernel
theorem dX10_extremeTime_11 : decode cX10_extremeTime 11 = .ok (.getfield 385, 3) := by decide +kernel
theorem dX10_extremeTime_14 : decode cX10_extremeTime 14 = .ok (.if_icmp .ge 86, 3) := by decide +kernel
theorem dX10_extremeTime_17 : decode cX10_extremeTime 17 = .ok (.aload_n 0, 1) := by decide +kernel
theorem dX10_extremeTime_18 : decode cX10_extremeTime 18 = .ok (.getfield 53, 3) := by decide +kernel
theorem dX10_extremeTime_21 : decode cX10_extremeTime 21 = .ok (.getfield 203, 3) := by decide +kernel
theorem dX10_extremeTime_24 : decode cX10_extremeTime 24 = .ok (.iload_n 3, 1) := by decide +kernel
theorem dX10_extremeTime_25 : decode cX10_extremeTime 25 = .ok (.iaload, 1) := by decide +kernel
theorem dX10_extremeTime_26 : decode cX10_extremeTime 26 = .ok (.istore 4, 2) := by decide +kernel
theorem dX10_extremeTime_28 : decode cX10_extremeTime 28 = .ok (.iload 4, 2) := by decide +kernel
theorem dX10_extremeTime_30 : decode cX10_extremeTime 30 = .ok (.bipush (-4), 2) := by decide +kernel
theorem dX10_extremeTime_32 : decode cX10_extremeTime 32 = .ok (.if_icmp .eq 62, 3) := by decide +kernel
theorem dX10_extremeTime_35 : decode cX10_extremeTime 35 = .ok (.aload_n 0, 1) := by decide +kernel
theorem dX10_extremeTime_36 : decode cX10_extremeTime 36 = .ok (.iload_n 3, 1) := by decide +kernel
theorem dX10_extremeTime_37 : decode cX10_extremeTime 37 = .ok (.iload 4, 2) := by decide +kernel
theorem dX10_extremeTime_39 : decode cX10_extremeTime 39 = .ok (.invokevirtual 161, 3) := by decide +kernel
theorem dX10_extremeTime_42 : decode cX10_extremeTime 42 = .ok (.istore 5, 2) := by decide +kernel
theorem dX10_extremeTime_44 : decode cX10_extremeTime 44 = .ok (.iload_n 1, 1) := by decide +kernel
theorem dX10_extremeTime_45 : decode cX10_extremeTime 45 = .ok (.ifCond .eq 17, 3) := by decide +kernel
theorem dX10_extremeTime_48 : decode cX10_extremeTime 48 = .ok (.iload 5, 2) := by decide +kernel
theorem dX10_extremeTime_50 : decode cX10_extremeTime 50 = .ok (.iload_n 2, 1) := by decide +kernel
theorem dX10_extremeTime_51 : decode cX10_extremeTime 51 = .ok (.if_icmp .ge 7, 3) := by decide +kernel
theorem dX10_extremeTime_54 : decode cX10_extremeTime 54 = .ok (.iconst 1, 1) := by decide +kernel
theorem dX10_extremeTime_55 : decode cX10_extremeTime 55 = .ok (.goto 18, 3) := by decide +kernel
theorem dX10_extremeTime_58 : decode cX10_extremeTime 58 = .ok (.iconst 0, 1) := by decide +kernel
theorem dX10_extremeTime_59 : decode cX10_extremeTime 59 = .ok (.goto 14, 3) := by decide +kernel
theorem dX10_extremeTime_62 : decode cX10_extremeTime 62 = .ok (.iload 5, 2) := by decide +kernel
theorem dX10_extremeTime_64 : decode cX10_extremeTime 64 = .ok (.iload_n 2, 1) := by decide +kernel
theorem dX10_extremeTime_65 : decode cX10_extremeTime 65 = .ok (.if_icmp .le 7, 3) := by decide +kernel
theorem dX10_extremeTime_68 : decode cX10_extremeTime 68 = .ok (.iconst 1, 1) := by decide +kernel
theorem dX10_extremeTime_69 : decode cX10_extremeTime 69 = .ok (.goto 4, 3) := by decide +kernel
theorem dX10_extremeTime_72 : decode cX10_extremeTime 72 = .ok (.iconst 0, 1) := by decide +kernel
theorem dX10_extremeTime_73 : decode cX10_extremeTime 73 = .ok (.istore 6, 2) := by decide +kernel
theorem dX10_extremeTime_75 : decode cX10_extremeTime 75 = .ok (.iload_n 2, 1) := by decide +kernel
theorem dX10_extremeTime_76 : decode cX10_extremeTime 76 = .ok (.sipush (-10004), 3) := by decide +kernel
theorem dX10_extremeTime_79 : decode cX10_extremeTime 79 = .ok (.if_icmp .eq 8, 3) := by decide +kernel
theorem dX10_extremeTime_82 : decode cX10_extremeTime 82 = .ok (.iload 6, 2) := by decide +kernel
theorem dX10_extremeTime_84 : decode cX10_extremeTime 84 = .ok (.ifCond .eq 8, 3) := by decide +kernel
theorem dX10_extremeTime_87 : decode cX10_extremeTime 87 = .ok (.iload 5, 2) := by decide +kernel
theorem dX10_extremeTime_89 : decode cX10_extremeTime 89 = .ok (.goto 4, 3) := by decide +kernel
theorem dX10_extremeTime_92 : decode cX10_extremeTime 92 = .ok (.iload_n 2, 1) := by decide +kernel
theorem dX10_extremeTime_93 : decode cX10_extremeTime 93 = .ok (.istore_n 2, 1) := by decide +kernel
theorem dX10_extremeTime_94 : decode cX10_extremeTime 94 = .ok (.iinc 3 1, 3) := by decide +kernel
theorem dX10_extremeTime_97 : decode cX10_extremeTime 97 = .ok (.goto (-91), 3) := by decide +kernel
theorem dX10_extremeTime_100 : decode cX10_extremeTime 100 = .ok (.iload_n 2, 1) := by decide +kernel
theorem dX10_extremeTime_101 : decode cX10_extremeTime 101 = .ok (.ireturn, 1) := by decide +kernel
theorem dX10_meanTime_0 : decode cX10_meanTime 0 = .ok (.iconst 0, 1) := by decide +kernel
theorem dX10_meanTime_1 : decode cX10_meanTime 1 = .ok (.istore_n 3, 1) := by decide +kernel
theorem dX10_meanTime_2 : decode cX10_meanTime 2 = .ok (.iconst 0, 1) := by decide +kernel
theorem dX10_meanTime_3 : decode cX10_meanTime 3 = .ok (.istore 4, 2) := by decide +kernel
theorem dX10_meanTime_5 : decode cX10_meanTime 5 = .ok (.iconst 0, 1) := by decide +kernel
theorem dX10_meanTime_6 : decode cX10_meanTime 6 = .ok (.istore 5, 2) := by decide +kernel
theorem dX10_meanTime_8 : decode cX10_meanTime 8 = .ok (.iload 5, 2) := by decide +kernel
theorem dX10_meanTime_10 : decode cX10_meanTime 10 = .ok (.aload_n 0, 1) := by decide +kernel
theorem dX10_meanTime_11 : decode cX10_meanTime 11 = .ok (.getfield 44, 3) := by decide +kernel
theorem dX10_meanTime_14 : decode cX10_meanTime 14 = .ok (.getfield 385, 3) := by decide +kernel
theorem dX10_meanTime_17 : decode cX10_meanTime 17 = .ok (.if_icmp .ge 60, 3) := by decide +kernel
theorem dX10_meanTime_20 : decode cX10_meanTime 20 = .ok (.aload_n 0, 1) := by decide +kernel
theorem dX10_meanTime_21 : decode cX10_meanTime 21 = .ok (.getfield 53, 3) := by decide +kernel
theorem dX10_meanTime_24 : decode cX10_meanTime 24 = .ok (.getfield 203, 3) := by decide +kernel
theorem dX10_meanTime_27 : decode cX10_meanTime 27 = .ok (.iload 5, 2) := by decide +kernel
theorem dX10_meanTime_29 : decode cX10_meanTime 29 = .ok (.iaload, 1) := by decide +kernel
theorem dX10_meanTime_30 : decode cX10_meanTime 30 = .ok (.istore 6, 2) := by decide +kernel
theorem dX10_meanTime_32 : decode cX10_meanTime 32 = .ok (.iload 6, 2) := by decide +kernel
theorem dX10_meanTime_34 : decode cX10_meanTime 34 = .ok (.bipush (-4), 2) := by decide +kernel
theorem dX10_meanTime_36 : decode cX10_meanTime 36 = .ok (.if_icmp .eq 35, 3) := by decide +kernel
theorem dX10_meanTime_39 : decode cX10_meanTime 39 = .ok (.iload_n 1, 1) := by decide +kernel
theorem dX10_meanTime_40 : decode cX10_meanTime 40 = .ok (.ifCond .eq 17, 3) := by decide +kernel
theorem dX10_meanTime_43 : decode cX10_meanTime 43 = .ok (.aload_n 0, 1) := by decide +kernel
theorem dX10_meanTime_44 : decode cX10_meanTime 44 = .ok (.getfield 53, 3) := by decide +kernel
theorem dX10_meanTime_47 : decode cX10_meanTime 47 = .ok (.iload 5, 2) := by decide +kernel
theorem dX10_meanTime_49 : decode cX10_meanTime 49 = .ok (.iload 6, 2) := by decide +kernel
theorem dX10_meanTime_51 : decode cX10_meanTime 51 = .ok (.invokevirtual 213, 3) := by decide +kernel
theorem dX10_meanTime_54 : decode cX10_meanTime 54 = .ok (.ifCond .eq 17, 3) := by decide +kernel
theorem dX10_meanTime_57 : decode cX10_meanTime 57 = .ok (.iload_n 3, 1) := by decide +kernel
theorem dX10_meanTime_58 : decode cX10_meanTime 58 = .ok (.aload_n 0, 1) := by decide +kernel
theorem dX10_meanTime_59 : decode cX10_meanTime 59 = .ok (.iload 5, 2) := by decide +kernel
theorem dX10_meanTime_61 : decode cX10_meanTime 61 = .ok (.iload 6, 2) := by decide +kernel
theorem dX10_meanTime_63 : decode cX10_meanTime 63 = .ok (.invokevirtual 161, 3) := by decide +kernel
theorem dX10_meanTime_66 : decode cX10_meanTime 66 = .ok (.iadd, 1) := by decide +kernel
theorem dX10_meanTime_67 : decode cX10_meanTime 67 = .ok (.istore_n 3, 1) := by decide +kernel
theorem dX10_meanTime_68 : decode cX10_meanTime 68 = .ok (.iinc 4 1, 3) := by decide +kernel
theorem dX10_meanTime_71 : decode cX10_meanTime 71 = .ok (.iinc 5 1, 3) := by decide +kernel
theorem dX10_meanTime_74 : decode cX10_meanTime 74 = .ok (.goto (-66), 3) := by decide +kernel
theorem dX10_meanTime_77 : decode cX10_meanTime 77 = .ok (.iload 4, 2) := by decide +kernel
theorem dX10_meanTime_79 : decode cX10_meanTime 79 = .ok (.ifCond .ne 9, 3) := by decide +kernel
theorem dX10_meanTime_82 : decode cX10_meanTime 82 = .ok (.sipush (-10004), 3) := by decide +kernel
theorem dX10_meanTime_85 : decode cX10_meanTime 85 = .ok (.goto 13, 3) := by decide +kernel
theorem dX10_meanTime_88 : decode cX10_meanTime 88 = .ok (.iload_n 3, 1) := by decide +kernel
theorem dX10_meanTime_89 : decode cX10_meanTime 89 = .ok (.i2l, 1) := by decide +kernel
theorem dX10_meanTime_90 : decode cX10_meanTime 90 = .ok (.iload 4, 2) := by decide +kernel
theorem dX10_meanTime_92 : decode cX10_meanTime 92 = .ok (.i2l, 1) := by decide +kernel
theorem dX10_meanTime_93 : decode cX10_meanTime 93 = .ok (.iload_n 2, 1) := by decide +kernel
theorem dX10_meanTime_94 : decode cX10_meanTime 94 = .ok (.invokestatic 216, 3) := by decide +kernel
theorem dX10_meanTime_97 : decode cX10_meanTime 97 = .ok (.l2i, 1) := by decide +kernel
theorem dX10_meanTime_98 : decode cX10_meanTime 98 = .ok (.ireturn, 1) := by decide +kernel
theorem dX10_hasPassed_0 : decode cX10_hasPassed 0 = .ok (.aload_n 0, 1) := by decide +kernel
theorem dX10_hasPassed_1 : decode cX10_hasPassed 1 = .ok (.getfield 53, 3) := by decide +kernel
theorem dX10_hasPassed_4 : decode cX10_hasPassed 4 = .ok (.getfield 203, 3) := by decide +kernel
theorem dX10_hasPassed_7 : decode cX10_hasPassed 7 = .ok (.iload_n 1, 1) := by decide +kernel
theorem dX10_hasPassed_8 : decode cX10_hasPassed 8 = .ok (.iaload, 1) := by decide +kernel
theorem dX10_hasPassed_9 : decode cX10_hasPassed 9 = .ok (.istore_n 3, 1) := by decide +kernel
theorem dX10_hasPassed_10 : decode cX10_hasPassed 10 = .ok (.aload_n 0, 1) := by decide +kernel
theorem dX10_hasPassed_11 : decode cX10_hasPassed 11 = .ok (.getfield 53, 3) := by decide +kernel
theorem dX10_hasPassed_14 : decode cX10_hasPassed 14 = .ok (.getfield 203, 3) := by decide +kernel
theorem dX10_hasPassed_17 : decode cX10_hasPassed 17 = .ok (.iload_n 2, 1) := by decide +kernel
theorem dX10_hasPassed_18 : decode cX10_hasPassed 18 = .ok (.iaload, 1) := by decide +kernel
theorem dX10_hasPassed_19 : decode cX10_hasPassed 19 = .ok (.istore 4, 2) := by decide +kernel
theorem dX10_hasPassed_21 : decode cX10_hasPassed 21 = .ok (.iload_n 3, 1) := by decide +kernel
theorem dX10_hasPassed_22 : decode cX10_hasPassed 22 = .ok (.bipush (-4), 2) := by decide +kernel
theorem dX10_hasPassed_24 : decode cX10_hasPassed 24 = .ok (.if_icmp .eq 10, 3) := by decide +kernel
theorem dX10_hasPassed_27 : decode cX10_hasPassed 27 = .ok (.iload 4, 2) := by decide +kernel
theorem dX10_hasPassed_29 : decode cX10_hasPassed 29 = .ok (.bipush (-4), 2) := by decide +kernel
theorem dX10_hasPassed_31 : decode cX10_hasPassed 31 = .ok (.if_icmp .ne 5, 3) := by decide +kernel
theorem dX10_hasPassed_34 : decode cX10_hasPassed 34 = .ok (.iconst 0, 1) := by decide +kernel
theorem dX10_hasPassed_35 : decode cX10_hasPassed 35 = .ok (.ireturn, 1) := by decide +kernel
theorem dX10_hasPassed_36 : decode cX10_hasPassed 36 = .ok (.aload_n 0, 1) := by decide +kernel
theorem dX10_hasPassed_37 : decode cX10_hasPassed 37 = .ok (.getfield 12, 3) := by decide +kernel
theorem dX10_hasPassed_40 : decode cX10_hasPassed 40 = .ok (.getfield 170, 3) := by decide +kernel
theorem dX10_hasPassed_43 : decode cX10_hasPassed 43 = .ok (.getfield 145, 3) := by decide +kernel
theorem dX10_hasPassed_46 : decode cX10_hasPassed 46 = .ok (.iload_n 1, 1) := by decide +kernel
theorem dX10_hasPassed_47 : decode cX10_hasPassed 47 = .ok (.iaload, 1) := by decide +kernel
theorem dX10_hasPassed_48 : decode cX10_hasPassed 48 = .ok (.aload_n 0, 1) := by decide +kernel
theorem dX10_hasPassed_49 : decode cX10_hasPassed 49 = .ok (.getfield 12, 3) := by decide +kernel
theorem dX10_hasPassed_52 : decode cX10_hasPassed 52 = .ok (.getfield 170, 3) := by decide +kernel
theorem dX10_hasPassed_55 : decode cX10_hasPassed 55 = .ok (.getfield 145, 3) := by decide +kernel
theorem dX10_hasPassed_58 : decode cX10_hasPassed 58 = .ok (.iload_n 2, 1) := by decide +kernel
theorem dX10_hasPassed_59 : decode cX10_hasPassed 59 = .ok (.iaload, 1) := by decide +kernel
theorem dX10_hasPassed_60 : decode cX10_hasPassed 60 = .ok (.if_icmp .le 35, 3) := by decide +kernel
theorem dX10_hasPassed_63 : decode cX10_hasPassed 63 = .ok (.aload_n 0, 1) := by decide +kernel
theorem dX10_hasPassed_64 : decode cX10_hasPassed 64 = .ok (.getfield 12, 3) := by decide +kernel
theorem dX10_hasPassed_67 : decode cX10_hasPassed 67 = .ok (.getfield 174, 3) := by decide +kernel
theorem dX10_hasPassed_70 : decode cX10_hasPassed 70 = .ok (.getfield 145, 3) := by decide +kernel
theorem dX10_hasPassed_73 : decode cX10_hasPassed 73 = .ok (.iload_n 3, 1) := by decide +kernel
theorem dX10_hasPassed_74 : decode cX10_hasPassed 74 = .ok (.iaload, 1) := by decide +kernel
theorem dX10_hasPassed_75 : decode cX10_hasPassed 75 = .ok (.aload_n 0, 1) := by decide +kernel
theorem dX10_hasPassed_76 : decode cX10_hasPassed 76 = .ok (.getfield 12, 3) := by decide +kernel
theorem dX10_hasPassed_79 : decode cX10_hasPassed 79 = .ok (.getfield 174, 3) := by decide +kernel
theorem dX10_hasPassed_82 : decode cX10_hasPassed 82 = .ok (.getfield 145, 3) := by decide +kernel
theorem dX10_hasPassed_85 : decode cX10_hasPassed 85 = .ok (.iload 4, 2) := by decide +kernel
theorem dX10_hasPassed_87 : decode cX10_hasPassed 87 = .ok (.iaload, 1) := by decide +kernel
theorem dX10_hasPassed_88 : decode cX10_hasPassed 88 = .ok (.if_icmp .ge 7, 3) := by decide +kernel
theorem dX10_hasPassed_91 : decode cX10_hasPassed 91 = .ok (.iconst 1, 1) := by decide +kernel
theorem dX10_hasPassed_92 : decode cX10_hasPassed 92 = .ok (.goto 4, 3) := by decide +kernel
theorem dX10_hasPassed_95 : decode cX10_hasPassed 95 = .ok (.iconst 0, 1) := by decide +kernel
theorem dX10_hasPassed_96 : decode cX10_hasPassed 96 = .ok (.ireturn, 1) := by decide +kernel
theorem dX10_passingsOf_0 : decode cX10_passingsOf 0 = .ok (.iconst 0, 1) := by decide +kernel
theorem dX10_passingsOf_1 : decode cX10_passingsOf 1 = .ok (.istore_n 2, 1) := by decide +kernel
theorem dX10_passingsOf_2 : decode cX10_passingsOf 2 = .ok (.iconst 0, 1) := by decide +kernel
theorem dX10_passingsOf_3 : decode cX10_passingsOf 3 = .ok (.istore_n 3, 1) := by decide +kernel
theorem dX10_passingsOf_4 : decode cX10_passingsOf 4 = .ok (.iload_n 3, 1) := by decide +kernel
theorem dX10_passingsOf_5 : decode cX10_passingsOf 5 = .ok (.aload_n 0, 1) := by decide +kernel
theorem dX10_passingsOf_6 : decode cX10_passingsOf 6 = .ok (.getfield 44, 3) := by decide +kernel
theorem dX10_passingsOf_9 : decode cX10_passingsOf 9 = .ok (.getfield 385, 3) := by decide +kernel
theorem dX10_passingsOf_12 : decode cX10_passingsOf 12 = .ok (.if_icmp .ge 26, 3) := by decide +kernel
theorem dX10_passingsOf_15 : decode cX10_passingsOf 15 = .ok (.iload_n 2, 1) := by decide +kernel
theorem dX10_passingsOf_16 : decode cX10_passingsOf 16 = .ok (.aload_n 0, 1) := by decide +kernel
theorem dX10_passingsOf_17 : decode cX10_passingsOf 17 = .ok (.iload_n 1, 1) := by decide +kernel
theorem dX10_passingsOf_18 : decode cX10_passingsOf 18 = .ok (.iload_n 3, 1) := by decide +kernel
theorem dX10_passingsOf_19 : decode cX10_passingsOf 19 = .ok (.invokevirtual 400, 3) := by decide +kernel
theorem dX10_passingsOf_22 : decode cX10_passingsOf 22 = .ok (.ifCond .eq 7, 3) := by decide +kernel
theorem dX10_passingsOf_25 : decode cX10_passingsOf 25 = .ok (.iconst 1, 1) := by decide +kernel
theorem dX10_passingsOf_26 : decode cX10_passingsOf 26 = .ok (.goto 4, 3) := by decide +kernel
theorem dX10_passingsOf_29 : decode cX10_passingsOf 29 = .ok (.iconst 0, 1) := by decide +kernel
theorem dX10_passingsOf_30 : decode cX10_passingsOf 30 = .ok (.iadd, 1) := by decide +kernel
theorem dX10_passingsOf_31 : decode cX10_passingsOf 31 = .ok (.istore_n 2, 1) := by decide +kernel
theorem dX10_passingsOf_32 : decode cX10_passingsOf 32 = .ok (.iinc 3 1, 3) := by decide +kernel
theorem dX10_passingsOf_35 : decode cX10_passingsOf 35 = .ok (.goto (-31), 3) := by decide +kernel
theorem dX10_passingsOf_38 : decode cX10_passingsOf 38 = .ok (.iload_n 2, 1) := by decide +kernel
theorem dX10_passingsOf_39 : decode cX10_passingsOf 39 = .ok (.ireturn, 1) := by decide +kernel
theorem dX10_allPassings_0 : decode cX10_allPassings 0 = .ok (.iconst 0, 1) := by decide +kernel
theorem dX10_allPassings_1 : decode cX10_allPassings 1 = .ok (.istore_n 1, 1) := by decide +kernel
theorem dX10_allPassings_2 : decode cX10_allPassings 2 = .ok (.iconst 0, 1) := by decide +kernel
theorem dX10_allPassings_3 : decode cX10_allPassings 3 = .ok (.istore_n 2, 1) := by decide +kernel
theorem dX10_allPassings_4 : decode cX10_allPassings 4 = .ok (.iload_n 2, 1) := by decide +kernel
theorem dX10_allPassings_5 : decode cX10_allPassings 5 = .ok (.aload_n 0, 1) := by decide +kernel
theorem dX10_allPassings_6 : decode cX10_allPassings 6 = .ok (.getfield 44, 3) := by decide +kernel
theorem dX10_allPassings_9 : decode cX10_allPassings 9 = .ok (.getfield 385, 3) := by decide +kernel
theorem dX10_allPassings_12 : decode cX10_allPassings 12 = .ok (.if_icmp .ge 17, 3) := by decide +kernel
theorem dX10_allPassings_15 : decode cX10_allPassings 15 = .ok (.iload_n 1, 1) := by decide +kernel
theorem dX10_allPassings_16 : decode cX10_allPassings 16 = .ok (.aload_n 0, 1) := by decide +kernel
theorem dX10_allPassings_17 : decode cX10_allPassings 17 = .ok (.iload_n 2, 1) := by decide +kernel
theorem dX10_allPassings_18 : decode cX10_allPassings 18 = .ok (.invokevirtual 403, 3) := by decide +kernel
theorem dX10_allPassings_21 : decode cX10_allPassings 21 = .ok (.iadd, 1) := by decide +kernel
theorem dX10_allPassings_22 : decode cX10_allPassings 22 = .ok (.istore_n 1, 1) := by decide +kernel
theorem dX10_allPassings_23 : decode cX10_allPassings 23 = .ok (.iinc 2 1, 3) := by decide +kernel
theorem dX10_allPassings_26 : decode cX10_allPassings 26 = .ok (.goto (-22), 3) := by decide +kernel
theorem dX10_allPassings_29 : decode cX10_allPassings 29 = .ok (.iload_n 1, 1) := by decide +kernel
theorem dX10_allPassings_30 : decode cX10_allPassings 30 = .ok (.ireturn, 1) := by decide +kernel
theorem dX10_greatestPasser_0 : decode cX10_greatestPasser 0 = .ok (.bipush (-4), 2) := by decide +kernel
theorem dX10_greatestPasser_2 : decode cX10_greatestPasser 2 = .ok (.istore_n 1, 1) := by decide +kernel
theorem dX10_greatestPasser_3 : decode cX10_greatestPasser 3 = .ok (.iconst 0, 1) := by decide +kernel
theorem dX10_greatestPasser_4 : decode cX10_greatestPasser 4 = .ok (.istore_n 2, 1) := by decide +kernel
theorem dX10_greatestPasser_5 : decode cX10_greatestPasser 5 = .ok (.iconst 0, 1) := by decide +kernel
theorem dX10_greatestPasser_6 : decode cX10_greatestPasser 6 = .ok (.istore_n 3, 1) := by decide +kernel
theorem dX10_greatestPasser_7 : decode cX10_greatestPasser 7 = .ok (.iload_n 3, 1) := by decide +kernel
theorem dX10_greatestPasser_8 : decode cX10_greatestPasser 8 = .ok (.aload_n 0, 1) := by decide +kernel
theorem dX10_greatestPasser_9 : decode cX10_greatestPasser 9 = .ok (.getfield 44, 3) := by decide +kernel
theorem dX10_greatestPasser_12 : decode cX10_greatestPasser 12 = .ok (.getfield 385, 3) := by decide +kernel
theorem dX10_greatestPasser_15 : decode cX10_greatestPasser 15 = .ok (.if_icmp .ge 27, 3) := by decide +kernel
theorem dX10_greatestPasser_18 : decode cX10_greatestPasser 18 = .ok (.aload_n 0, 1) := by decide +kernel
theorem dX10_greatestPasser_19 : decode cX10_greatestPasser 19 = .ok (.iload_n 3, 1) := by decide +kernel
theorem dX10_greatestPasser_20 : decode cX10_greatestPasser 20 = .ok (.invokevirtual 403, 3) := by decide +kernel
theorem dX10_greatestPasser_23 : decode cX10_greatestPasser 23 = .ok (.istore 4, 2) := by decide +kernel
theorem dX10_greatestPasser_25 : decode cX10_greatestPasser 25 = .ok (.iload 4, 2) := by decide +kernel
theorem dX10_greatestPasser_27 : decode cX10_greatestPasser 27 = .ok (.iload_n 2, 1) := by decide +kernel
theorem dX10_greatestPasser_28 : decode cX10_greatestPasser 28 = .ok (.if_icmp .le 8, 3) := by decide +kernel
theorem dX10_greatestPasser_31 : decode cX10_greatestPasser 31 = .ok (.iload 4, 2) := by decide +kernel
theorem dX10_greatestPasser_33 : decode cX10_greatestPasser 33 = .ok (.istore_n 2, 1) := by decide +kernel
theorem dX10_greatestPasser_34 : decode cX10_greatestPasser 34 = .ok (.iload_n 3, 1) := by decide +kernel
theorem dX10_greatestPasser_35 : decode cX10_greatestPasser 35 = .ok (.istore_n 1, 1) := by decide +kernel
theorem dX10_greatestPasser_36 : decode cX10_greatestPasser 36 = .ok (.iinc 3 1, 3) := by decide +kernel
theorem dX10_greatestPasser_39 : decode cX10_greatestPasser 39 = .ok (.goto (-32), 3) := by decide +kernel
theorem dX10_greatestPasser_42 : decode cX10_greatestPasser 42 = .ok (.iload_n 1, 1) := by decide +kernel
theorem dX10_greatestPasser_43 : decode cX10_greatestPasser 43 = .ok (.ireturn, 1) := by decide +kernel
theorem dX10_fewestWithoutPassing_0 : decode cX10_fewestWithoutPassing 0 = .ok (.aload_n 0, 1) := by decide +kernel
theorem dX10_fewestWithoutPassing_1 : decode cX10_fewestWithoutPassing 1 = .ok (.getfield 67, 3) := by decide +kernel
theorem dX10_fewestWithoutPassing_4 : decode cX10_fewestWithoutPassing 4 = .ok (.aload_n 0, 1) := by decide +kernel
theorem dX10_fewestWithoutPassing_5 : decode cX10_fewestWithoutPassing 5 = .ok (.getfield 44, 3) := by decide +kernel
theorem dX10_fewestWithoutPassing_8 : decode cX10_fewestWithoutPassing 8 = .ok (.getfield 385, 3) := by decide +kernel
theorem dX10_fewestWithoutPassing_11 : decode cX10_fewestWithoutPassing 11 = .ok (.invokevirtual 406, 3) := by decide +kernel
theorem dX10_fewestWithoutPassing_14 : decode cX10_fewestWithoutPassing 14 = .ok (.iconst 0, 1) := by decide +kernel
theorem dX10_fewestWithoutPassing_15 : decode cX10_fewestWithoutPassing 15 = .ok (.istore_n 1, 1) := by decide +kernel
theorem dX10_fewestWithoutPassing_16 : decode cX10_fewestWithoutPassing 16 = .ok (.iload_n 1, 1) := by decide +kernel
theorem dX10_fewestWithoutPassing_17 : decode cX10_fewestWithoutPassing 17 = .ok (.aload_n 0, 1) := by decide +kernel
theorem dX10_fewestWithoutPassing_18 : decode cX10_fewestWithoutPassing 18 = .ok (.getfield 44, 3) := by decide +kernel
theorem dX10_fewestWithoutPassing_21 : decode cX10_fewestWithoutPassing 21 = .ok (.getfield 385, 3) := by decide +kernel
theorem dX10_fewestWithoutPassing_24 : decode cX10_fewestWithoutPassing 24 = .ok (.if_icmp .ge 49, 3) := by decide +kernel
theorem dX10_fewestWithoutPassing_27 : decode cX10_fewestWithoutPassing 27 = .ok (.iconst 0, 1) := by decide +kernel
theorem dX10_fewestWithoutPassing_28 : decode cX10_fewestWithoutPassing 28 = .ok (.istore_n 2, 1) := by decide +kernel
theorem dX10_fewestWithoutPassing_29 : decode cX10_fewestWithoutPassing 29 = .ok (.iload_n 2, 1) := by decide +kernel
theorem dX10_fewestWithoutPassing_30 : decode cX10_fewestWithoutPassing 30 = .ok (.iload_n 1, 1) := by decide +kernel
theorem dX10_fewestWithoutPassing_31 : decode cX10_fewestWithoutPassing 31 = .ok (.if_icmp .ge 36, 3) := by decide +kernel
theorem dX10_fewestWithoutPassing_34 : decode cX10_fewestWithoutPassing 34 = .ok (.aload_n 0, 1) := by decide +kernel
theorem dX10_fewestWithoutPassing_35 : decode cX10_fewestWithoutPassing 35 = .ok (.iload_n 1, 1) := by decide +kernel
theorem dX10_fewestWithoutPassing_36 : decode cX10_fewestWithoutPassing 36 = .ok (.iload_n 2, 1) := by decide +kernel
theorem dX10_fewestWithoutPassing_37 : decode cX10_fewestWithoutPassing 37 = .ok (.invokevirtual 400, 3) := by decide +kernel
theorem dX10_fewestWithoutPassing_40 : decode cX10_fewestWithoutPassing 40 = .ok (.ifCond .ne 21, 3) := by decide +kernel
theorem dX10_fewestWithoutPassing_43 : decode cX10_fewestWithoutPassing 43 = .ok (.aload_n 0, 1) := by decide +kernel
theorem dX10_fewestWithoutPassing_44 : decode cX10_fewestWithoutPassing 44 = .ok (.iload_n 2, 1) := by decide +kernel
theorem dX10_fewestWithoutPassing_45 : decode cX10_fewestWithoutPassing 45 = .ok (.iload_n 1, 1) := by decide +kernel
theorem dX10_fewestWithoutPassing_46 : decode cX10_fewestWithoutPassing 46 = .ok (.invokevirtual 400, 3) := by decide +kernel
theorem dX10_fewestWithoutPassing_49 : decode cX10_fewestWithoutPassing 49 = .ok (.ifCond .ne 12, 3) := by decide +kernel
theorem dX10_fewestWithoutPassing_52 : decode cX10_fewestWithoutPassing 52 = .ok (.aload_n 0, 1) := by decide +kernel
theorem dX10_fewestWithoutPassing_53 : decode cX10_fewestWithoutPassing 53 = .ok (.getfield 67, 3) := by decide +kernel
theorem dX10_fewestWithoutPassing_56 : decode cX10_fewestWithoutPassing 56 = .ok (.iload_n 1, 1) := by decide +kernel
theorem dX10_fewestWithoutPassing_57 : decode cX10_fewestWithoutPassing 57 = .ok (.iload_n 2, 1) := by decide +kernel
theorem dX10_fewestWithoutPassing_58 : decode cX10_fewestWithoutPassing 58 = .ok (.invokevirtual 409, 3) := by decide +kernel
theorem dX10_fewestWithoutPassing_61 : decode cX10_fewestWithoutPassing 61 = .ok (.iinc 2 1, 3) := by decide +kernel
theorem dX10_fewestWithoutPassing_64 : decode cX10_fewestWithoutPassing 64 = .ok (.goto (-35), 3) := by decide +kernel
theorem dX10_fewestWithoutPassing_67 : decode cX10_fewestWithoutPassing 67 = .ok (.iinc 1 1, 3) := by decide +kernel
theorem dX10_fewestWithoutPassing_70 : decode cX10_fewestWithoutPassing 70 = .ok (.goto (-54), 3) := by decide +kernel
theorem dX10_fewestWithoutPassing_73 : decode cX10_fewestWithoutPassing 73 = .ok (.aload_n 0, 1) := by decide +kernel
theorem dX10_fewestWithoutPassing_74 : decode cX10_fewestWithoutPassing 74 = .ok (.getfield 44, 3) := by decide +kernel
theorem dX10_fewestWithoutPassing_77 : decode cX10_fewestWithoutPassing 77 = .ok (.getfield 385, 3) := by decide +kernel
theorem dX10_fewestWithoutPassing_80 : decode cX10_fewestWithoutPassing 80 = .ok (.aload_n 0, 1) := by decide +kernel
theorem dX10_fewestWithoutPassing_81 : decode cX10_fewestWithoutPassing 81 = .ok (.getfield 67, 3) := by decide +kernel
theorem dX10_fewestWithoutPassing_84 : decode cX10_fewestWithoutPassing 84 = .ok (.invokevirtual 412, 3) := by decide +kernel
theorem dX10_fewestWithoutPassing_87 : decode cX10_fewestWithoutPassing 87 = .ok (.isub, 1) := by decide +kernel
theorem dX10_fewestWithoutPassing_88 : decode cX10_fewestWithoutPassing 88 = .ok (.ireturn, 1) := by decide +kernel
theorem dX10_countReads_0 : decode cX10_countReads 0 = .ok (.aload_n 0, 1) := by decide +kernel
theorem dX10_countReads_1 : decode cX10_countReads 1 = .ok (.getfield 75, 3) := by decide +kernel
theorem dX10_countReads_4 : decode cX10_countReads 4 = .ok (.iconst 0, 1) := by decide +kernel
theorem dX10_countReads_5 : decode cX10_countReads 5 = .ok (.invokestatic 415, 3) := by decide +kernel
theorem dX10_countReads_8 : decode cX10_countReads 8 = .ok (.iconst 0, 1) := by decide +kernel
theorem dX10_countReads_9 : decode cX10_countReads 9 = .ok (.istore_n 1, 1) := by decide +kernel
theorem dX10_countReads_10 : decode cX10_countReads 10 = .ok (.iload_n 1, 1) := by decide +kernel
theorem dX10_countReads_11 : decode cX10_countReads 11 = .ok (.aload_n 0, 1) := by decide +kernel
theorem dX10_countReads_12 : decode cX10_countReads 12 = .ok (.getfield 44, 3) := by decide +kernel
theorem dX10_countReads_15 : decode cX10_countReads 15 = .ok (.getfield 385, 3) := by decide +kernel
theorem dX10_countReads_18 : decode cX10_countReads 18 = .ok (.if_icmp .ge 31, 3) := by decide +kernel
theorem dX10_countReads_21 : decode cX10_countReads 21 = .ok (.aload_n 0, 1) := by decide +kernel
theorem dX10_countReads_22 : decode cX10_countReads 22 = .ok (.getfield 53, 3) := by decide +kernel
theorem dX10_countReads_25 : decode cX10_countReads 25 = .ok (.getfield 203, 3) := by decide +kernel
theorem dX10_countReads_28 : decode cX10_countReads 28 = .ok (.iload_n 1, 1) := by decide +kernel
theorem dX10_countReads_29 : decode cX10_countReads 29 = .ok (.iaload, 1) := by decide +kernel
theorem dX10_countReads_30 : decode cX10_countReads 30 = .ok (.istore_n 2, 1) := by decide +kernel
theorem dX10_countReads_31 : decode cX10_countReads 31 = .ok (.iload_n 2, 1) := by decide +kernel
theorem dX10_countReads_32 : decode cX10_countReads 32 = .ok (.bipush (-4), 2) := by decide +kernel
theorem dX10_countReads_34 : decode cX10_countReads 34 = .ok (.if_icmp .eq 9, 3) := by decide +kernel
theorem dX10_countReads_37 : decode cX10_countReads 37 = .ok (.aload_n 0, 1) := by decide +kernel
theorem dX10_countReads_38 : decode cX10_countReads 38 = .ok (.iload_n 1, 1) := by decide +kernel
theorem dX10_countReads_39 : decode cX10_countReads 39 = .ok (.iload_n 2, 1) := by decide +kernel
theorem dX10_countReads_40 : decode cX10_countReads 40 = .ok (.invokevirtual 421, 3) := by decide +kernel
theorem dX10_countReads_43 : decode cX10_countReads 43 = .ok (.iinc 1 1, 3) := by decide +kernel
theorem dX10_countReads_46 : decode cX10_countReads 46 = .ok (.goto (-36), 3) := by decide +kernel
theorem dX10_countReads_49 : decode cX10_countReads 49 = .ok (.return_, 1) := by decide +kernel
theorem dX10_countReadsOf_0 : decode cX10_countReadsOf 0 = .ok (.iconst 0, 1) := by decide +kernel
theorem dX10_countReadsOf_1 : decode cX10_countReadsOf 1 = .ok (.istore_n 3, 1) := by decide +kernel
theorem dX10_countReadsOf_2 : decode cX10_countReadsOf 2 = .ok (.iload_n 3, 1) := by decide +kernel
theorem dX10_countReadsOf_3 : decode cX10_countReadsOf 3 = .ok (.iconst 4, 1) := by decide +kernel
theorem dX10_countReadsOf_4 : decode cX10_countReadsOf 4 = .ok (.if_icmp .ge 78, 3) := by decide +kernel
theorem dX10_countReadsOf_7 : decode cX10_countReadsOf 7 = .ok (.aload_n 0, 1) := by decide +kernel
theorem dX10_countReadsOf_8 : decode cX10_countReadsOf 8 = .ok (.getfield 12, 3) := by decide +kernel
theorem dX10_countReadsOf_11 : decode cX10_countReadsOf 11 = .ok (.getfield 170, 3) := by decide +kernel
theorem dX10_countReadsOf_14 : decode cX10_countReadsOf 14 = .ok (.getfield 155, 3) := by decide +kernel
theorem dX10_countReadsOf_17 : decode cX10_countReadsOf 17 = .ok (.iload_n 1, 1) := by decide +kernel
theorem dX10_countReadsOf_18 : decode cX10_countReadsOf 18 = .ok (.iconst 4, 1) := by decide +kernel
theorem dX10_countReadsOf_19 : decode cX10_countReadsOf 19 = .ok (.imul, 1) := by decide +kernel
theorem dX10_countReadsOf_20 : decode cX10_countReadsOf 20 = .ok (.iload_n 3, 1) := by decide +kernel
theorem dX10_countReadsOf_21 : decode cX10_countReadsOf 21 = .ok (.iadd, 1) := by decide +kernel
theorem dX10_countReadsOf_22 : decode cX10_countReadsOf 22 = .ok (.iaload, 1) := by decide +kernel
theorem dX10_countReadsOf_23 : decode cX10_countReadsOf 23 = .ok (.istore 4, 2) := by decide +kernel
theorem dX10_countReadsOf_25 : decode cX10_countReadsOf 25 = .ok (.aload_n 0, 1) := by decide +kernel
theorem dX10_countReadsOf_26 : decode cX10_countReadsOf 26 = .ok (.getfield 12, 3) := by decide +kernel
theorem dX10_countReadsOf_29 : decode cX10_countReadsOf 29 = .ok (.getfield 174, 3) := by decide +kernel
theorem dX10_countReadsOf_32 : decode cX10_countReadsOf 32 = .ok (.getfield 155, 3) := by decide +kernel
theorem dX10_countReadsOf_35 : decode cX10_countReadsOf 35 = .ok (.iload_n 2, 1) := by decide +kernel
theorem dX10_countReadsOf_36 : decode cX10_countReadsOf 36 = .ok (.iconst 4, 1) := by decide +kernel
theorem dX10_countReadsOf_37 : decode cX10_countReadsOf 37 = .ok (.imul, 1) := by decide +kernel
theorem dX10_countReadsOf_38 : decode cX10_countReadsOf 38 = .ok (.iload_n 3, 1) := by decide +kernel
theorem dX10_countReadsOf_39 : decode cX10_countReadsOf 39 = .ok (.iadd, 1) := by decide +kernel
theorem dX10_countReadsOf_40 : decode cX10_countReadsOf 40 = .ok (.iaload, 1) := by decide +kernel
theorem dX10_countReadsOf_41 : decode cX10_countReadsOf 41 = .ok (.istore 5, 2) := by decide +kernel
theorem dX10_countReadsOf_43 : decode cX10_countReadsOf 43 = .ok (.iload 4, 2) := by decide +kernel
theorem dX10_countReadsOf_45 : decode cX10_countReadsOf 45 = .ok (.ifCond .eq 31, 3) := by decide +kernel
theorem dX10_countReadsOf_48 : decode cX10_countReadsOf 48 = .ok (.iload 5, 2) := by decide +kernel
theorem dX10_countReadsOf_50 : decode cX10_countReadsOf 50 = .ok (.ifCond .eq 26, 3) := by decide +kernel
theorem dX10_countReadsOf_53 : decode cX10_countReadsOf 53 = .ok (.aload_n 0, 1) := by decide +kernel
theorem dX10_countReadsOf_54 : decode cX10_countReadsOf 54 = .ok (.getfield 75, 3) := by decide +kernel
theorem dX10_countReadsOf_57 : decode cX10_countReadsOf 57 = .ok (.iload 4, 2) := by decide +kernel
theorem dX10_countReadsOf_59 : decode cX10_countReadsOf 59 = .ok (.invokestatic 424, 3) := by decide +kernel
theorem dX10_countReadsOf_62 : decode cX10_countReadsOf 62 = .ok (.bipush 8, 2) := by decide +kernel
theorem dX10_countReadsOf_64 : decode cX10_countReadsOf 64 = .ok (.imul, 1) := by decide +kernel
theorem dX10_countReadsOf_65 : decode cX10_countReadsOf 65 = .ok (.iload 5, 2) := by decide +kernel
theorem dX10_countReadsOf_67 : decode cX10_countReadsOf 67 = .ok (.invokestatic 424, 3) := by decide +kernel
theorem dX10_countReadsOf_70 : decode cX10_countReadsOf 70 = .ok (.iadd, 1) := by decide +kernel
theorem dX10_countReadsOf_71 : decode cX10_countReadsOf 71 = .ok (.dup2, 1) := by decide +kernel
theorem dX10_countReadsOf_72 : decode cX10_countReadsOf 72 = .ok (.iaload, 1) := by decide +kernel
theorem dX10_countReadsOf_73 : decode cX10_countReadsOf 73 = .ok (.iconst 1, 1) := by decide +kernel
theorem dX10_countReadsOf_74 : decode cX10_countReadsOf 74 = .ok (.iadd, 1) := by decide +kernel
theorem dX10_countReadsOf_75 : decode cX10_countReadsOf 75 = .ok (.iastore, 1) := by decide +kernel
theorem dX10_countReadsOf_76 : decode cX10_countReadsOf 76 = .ok (.iinc 3 1, 3) := by decide +kernel
theorem dX10_countReadsOf_79 : decode cX10_countReadsOf 79 = .ok (.goto (-77), 3) := by decide +kernel
theorem dX10_countReadsOf_82 : decode cX10_countReadsOf 82 = .ok (.return_, 1) := by decide +kernel
theorem dX10_mostMistaken_0 : decode cX10_mostMistaken 0 = .ok (.bipush (-4), 2) := by decide +kernel
theorem dX10_mostMistaken_2 : decode cX10_mostMistaken 2 = .ok (.istore_n 1, 1) := by decide +kernel
theorem dX10_mostMistaken_3 : decode cX10_mostMistaken 3 = .ok (.iconst 0, 1) := by decide +kernel
theorem dX10_mostMistaken_4 : decode cX10_mostMistaken 4 = .ok (.istore_n 2, 1) := by decide +kernel
theorem dX10_mostMistaken_5 : decode cX10_mostMistaken 5 = .ok (.iconst 0, 1) := by decide +kernel
theorem dX10_mostMistaken_6 : decode cX10_mostMistaken 6 = .ok (.istore_n 3, 1) := by decide +kernel
theorem dX10_mostMistaken_7 : decode cX10_mostMistaken 7 = .ok (.iload_n 3, 1) := by decide +kernel
theorem dX10_mostMistaken_8 : decode cX10_mostMistaken 8 = .ok (.bipush 64, 2) := by decide +kernel
theorem dX10_mostMistaken_10 : decode cX10_mostMistaken 10 = .ok (.if_icmp .ge 39, 3) := by decide +kernel
theorem dX10_mostMistaken_13 : decode cX10_mostMistaken 13 = .ok (.iload_n 3, 1) := by decide +kernel
theorem dX10_mostMistaken_14 : decode cX10_mostMistaken 14 = .ok (.bipush 8, 2) := by decide +kernel
theorem dX10_mostMistaken_16 : decode cX10_mostMistaken 16 = .ok (.idiv, 1) := by decide +kernel
theorem dX10_mostMistaken_17 : decode cX10_mostMistaken 17 = .ok (.iload_n 3, 1) := by decide +kernel
theorem dX10_mostMistaken_18 : decode cX10_mostMistaken 18 = .ok (.bipush 8, 2) := by decide +kernel
theorem dX10_mostMistaken_20 : decode cX10_mostMistaken 20 = .ok (.irem, 1) := by decide +kernel
theorem dX10_mostMistaken_21 : decode cX10_mostMistaken 21 = .ok (.if_icmp .eq 22, 3) := by decide +kernel
theorem dX10_mostMistaken_24 : decode cX10_mostMistaken 24 = .ok (.aload_n 0, 1) := by decide +kernel
theorem dX10_mostMistaken_25 : decode cX10_mostMistaken 25 = .ok (.getfield 75, 3) := by decide +kernel
theorem dX10_mostMistaken_28 : decode cX10_mostMistaken 28 = .ok (.iload_n 3, 1) := by decide +kernel
theorem dX10_mostMistaken_29 : decode cX10_mostMistaken 29 = .ok (.iaload, 1) := by decide +kernel
theorem dX10_mostMistaken_30 : decode cX10_mostMistaken 30 = .ok (.iload_n 2, 1) := by decide +kernel
theorem dX10_mostMistaken_31 : decode cX10_mostMistaken 31 = .ok (.if_icmp .le 12, 3) := by decide +kernel
theorem dX10_mostMistaken_34 : decode cX10_mostMistaken 34 = .ok (.aload_n 0, 1) := by decide +kernel
theorem dX10_mostMistaken_35 : decode cX10_mostMistaken 35 = .ok (.getfield 75, 3) := by decide +kernel
theorem dX10_mostMistaken_38 : decode cX10_mostMistaken 38 = .ok (.iload_n 3, 1) := by decide +kernel
theorem dX10_mostMistaken_39 : decode cX10_mostMistaken 39 = .ok (.iaload, 1) := by decide +kernel
theorem dX10_mostMistaken_40 : decode cX10_mostMistaken 40 = .ok (.istore_n 2, 1) := by decide +kernel
theorem dX10_mostMistaken_41 : decode cX10_mostMistaken 41 = .ok (.iload_n 3, 1) := by decide +kernel
theorem dX10_mostMistaken_42 : decode cX10_mostMistaken 42 = .ok (.istore_n 1, 1) := by decide +kernel
theorem dX10_mostMistaken_43 : decode cX10_mostMistaken 43 = .ok (.iinc 3 1, 3) := by decide +kernel
theorem dX10_mostMistaken_46 : decode cX10_mostMistaken 46 = .ok (.goto (-39), 3) := by decide +kernel
theorem dX10_mostMistaken_49 : decode cX10_mostMistaken 49 = .ok (.iload_n 1, 1) := by decide +kernel
theorem dX10_mostMistaken_50 : decode cX10_mostMistaken 50 = .ok (.ireturn, 1) := by decide +kernel
theorem dX10_fewestPlaces_0 : decode cX10_fewestPlaces 0 = .ok (.aload_n 0, 1) := by decide +kernel
theorem dX10_fewestPlaces_1 : decode cX10_fewestPlaces 1 = .ok (.invokevirtual 200, 3) := by decide +kernel
theorem dX10_fewestPlaces_4 : decode cX10_fewestPlaces 4 = .ok (.iconst 0, 1) := by decide +kernel
theorem dX10_fewestPlaces_5 : decode cX10_fewestPlaces 5 = .ok (.istore_n 1, 1) := by decide +kernel
theorem dX10_fewestPlaces_6 : decode cX10_fewestPlaces 6 = .ok (.iload_n 1, 1) := by decide +kernel
theorem dX10_fewestPlaces_7 : decode cX10_fewestPlaces 7 = .ok (.iconst 4, 1) := by decide +kernel
theorem dX10_fewestPlaces_8 : decode cX10_fewestPlaces 8 = .ok (.if_icmp .gt 48, 3) := by decide +kernel
theorem dX10_fewestPlaces_11 : decode cX10_fewestPlaces 11 = .ok (.iconst 0, 1) := by decide +kernel
theorem dX10_fewestPlaces_12 : decode cX10_fewestPlaces 12 = .ok (.istore_n 2, 1) := by decide +kernel
theorem dX10_fewestPlaces_13 : decode cX10_fewestPlaces 13 = .ok (.iload_n 2, 1) := by decide +kernel
theorem dX10_fewestPlaces_14 : decode cX10_fewestPlaces 14 = .ok (.bipush 15, 2) := by decide +kernel
theorem dX10_fewestPlaces_16 : decode cX10_fewestPlaces 16 = .ok (.if_icmp .gt 34, 3) := by decide +kernel
theorem dX10_fewestPlaces_19 : decode cX10_fewestPlaces 19 = .ok (.iload_n 2, 1) := by decide +kernel
theorem dX10_fewestPlaces_20 : decode cX10_fewestPlaces 20 = .ok (.invokestatic 328, 3) := by decide +kernel
theorem dX10_fewestPlaces_23 : decode cX10_fewestPlaces 23 = .ok (.iload_n 1, 1) := by decide +kernel
theorem dX10_fewestPlaces_24 : decode cX10_fewestPlaces 24 = .ok (.if_icmp .ne 20, 3) := by decide +kernel
theorem dX10_fewestPlaces_27 : decode cX10_fewestPlaces 27 = .ok (.aload_n 0, 1) := by decide +kernel
theorem dX10_fewestPlaces_28 : decode cX10_fewestPlaces 28 = .ok (.iload_n 2, 1) := by decide +kernel
theorem dX10_fewestPlaces_29 : decode cX10_fewestPlaces 29 = .ok (.invokevirtual 164, 3) := by decide +kernel
theorem dX10_fewestPlaces_32 : decode cX10_fewestPlaces 32 = .ok (.aload_n 0, 1) := by decide +kernel
theorem dX10_fewestPlaces_33 : decode cX10_fewestPlaces 33 = .ok (.getfield 53, 3) := by decide +kernel
theorem dX10_fewestPlaces_36 : decode cX10_fewestPlaces 36 = .ok (.invokevirtual 427, 3) := by decide +kernel
theorem dX10_fewestPlaces_39 : decode cX10_fewestPlaces 39 = .ok (.ifCond .eq 5, 3) := by decide +kernel
theorem dX10_fewestPlaces_42 : decode cX10_fewestPlaces 42 = .ok (.iload_n 2, 1) := by decide +kernel
theorem dX10_fewestPlaces_43 : decode cX10_fewestPlaces 43 = .ok (.ireturn, 1) := by decide +kernel
theorem dX10_fewestPlaces_44 : decode cX10_fewestPlaces 44 = .ok (.iinc 2 1, 3) := by decide +kernel
theorem dX10_fewestPlaces_47 : decode cX10_fewestPlaces 47 = .ok (.goto (-34), 3) := by decide +kernel
theorem dX10_fewestPlaces_50 : decode cX10_fewestPlaces 50 = .ok (.iinc 1 1, 3) := by decide +kernel
theorem dX10_fewestPlaces_53 : decode cX10_fewestPlaces 53 = .ok (.goto (-47), 3) := by decide +kernel
theorem dX10_fewestPlaces_56 : decode cX10_fewestPlaces 56 = .ok (.bipush (-4), 2) := by decide +kernel
theorem dX10_fewestPlaces_58 : decode cX10_fewestPlaces 58 = .ok (.ireturn, 1) := by decide +kernel
theorem dX10_fewestCars_0 : decode cX10_fewestCars 0 = .ok (.aload_n 0, 1) := by decide +kernel
theorem dX10_fewestCars_1 : decode cX10_fewestCars 1 = .ok (.getfield 67, 3) := by decide +kernel
theorem dX10_fewestCars_4 : decode cX10_fewestCars 4 = .ok (.aload_n 1, 1) := by decide +kernel
theorem dX10_fewestCars_5 : decode cX10_fewestCars 5 = .ok (.getfield 125, 3) := by decide +kernel
theorem dX10_fewestCars_8 : decode cX10_fewestCars 8 = .ok (.invokevirtual 406, 3) := by decide +kernel
theorem dX10_fewestCars_11 : decode cX10_fewestCars 11 = .ok (.iconst 0, 1) := by decide +kernel
theorem dX10_fewestCars_12 : decode cX10_fewestCars 12 = .ok (.istore_n 2, 1) := by decide +kernel
theorem dX10_fewestCars_13 : decode cX10_fewestCars 13 = .ok (.iload_n 2, 1) := by decide +kernel
theorem dX10_fewestCars_14 : decode cX10_fewestCars 14 = .ok (.aload_n 1, 1) := by decide +kernel
theorem dX10_fewestCars_15 : decode cX10_fewestCars 15 = .ok (.getfield 125, 3) := by decide +kernel
theorem dX10_fewestCars_18 : decode cX10_fewestCars 18 = .ok (.if_icmp .ge 40, 3) := by decide +kernel
theorem dX10_fewestCars_21 : decode cX10_fewestCars 21 = .ok (.iconst 0, 1) := by decide +kernel
theorem dX10_fewestCars_22 : decode cX10_fewestCars 22 = .ok (.istore_n 3, 1) := by decide +kernel
theorem dX10_fewestCars_23 : decode cX10_fewestCars 23 = .ok (.iload_n 3, 1) := by decide +kernel
theorem dX10_fewestCars_24 : decode cX10_fewestCars 24 = .ok (.iload_n 2, 1) := by decide +kernel
theorem dX10_fewestCars_25 : decode cX10_fewestCars 25 = .ok (.if_icmp .ge 27, 3) := by decide +kernel
theorem dX10_fewestCars_28 : decode cX10_fewestCars 28 = .ok (.aload_n 1, 1) := by decide +kernel
theorem dX10_fewestCars_29 : decode cX10_fewestCars 29 = .ok (.iload_n 2, 1) := by decide +kernel
theorem dX10_fewestCars_30 : decode cX10_fewestCars 30 = .ok (.iload_n 3, 1) := by decide +kernel
theorem dX10_fewestCars_31 : decode cX10_fewestCars 31 = .ok (.invokevirtual 333, 3) := by decide +kernel
theorem dX10_fewestCars_34 : decode cX10_fewestCars 34 = .ok (.ifCond .eq 12, 3) := by decide +kernel
theorem dX10_fewestCars_37 : decode cX10_fewestCars 37 = .ok (.aload_n 0, 1) := by decide +kernel
theorem dX10_fewestCars_38 : decode cX10_fewestCars 38 = .ok (.getfield 67, 3) := by decide +kernel
theorem dX10_fewestCars_41 : decode cX10_fewestCars 41 = .ok (.iload_n 2, 1) := by decide +kernel
theorem dX10_fewestCars_42 : decode cX10_fewestCars 42 = .ok (.iload_n 3, 1) := by decide +kernel
theorem dX10_fewestCars_43 : decode cX10_fewestCars 43 = .ok (.invokevirtual 409, 3) := by decide +kernel
theorem dX10_fewestCars_46 : decode cX10_fewestCars 46 = .ok (.iinc 3 1, 3) := by decide +kernel
theorem dX10_fewestCars_49 : decode cX10_fewestCars 49 = .ok (.goto (-26), 3) := by decide +kernel
theorem dX10_fewestCars_52 : decode cX10_fewestCars 52 = .ok (.iinc 2 1, 3) := by decide +kernel
theorem dX10_fewestCars_55 : decode cX10_fewestCars 55 = .ok (.goto (-42), 3) := by decide +kernel
theorem dX10_fewestCars_58 : decode cX10_fewestCars 58 = .ok (.aload_n 0, 1) := by decide +kernel
theorem dX10_fewestCars_59 : decode cX10_fewestCars 59 = .ok (.getfield 67, 3) := by decide +kernel
theorem dX10_fewestCars_62 : decode cX10_fewestCars 62 = .ok (.invokevirtual 431, 3) := by decide +kernel
theorem dX10_fewestCars_65 : decode cX10_fewestCars 65 = .ok (.ireturn, 1) := by decide +kernel
theorem dX10_refusalOfLines_0 : decode cX10_refusalOfLines 0 = .ok (.iconst 0, 1) := by decide +kernel
theorem dX10_refusalOfLines_1 : decode cX10_refusalOfLines 1 = .ok (.istore 4, 2) := by decide +kernel
theorem dX10_refusalOfLines_3 : decode cX10_refusalOfLines 3 = .ok (.iload 4, 2) := by decide +kernel
theorem dX10_refusalOfLines_5 : decode cX10_refusalOfLines 5 = .ok (.iload_n 2, 1) := by decide +kernel
theorem dX10_refusalOfLines_6 : decode cX10_refusalOfLines 6 = .ok (.if_icmp .ge 44, 3) := by decide +kernel
theorem dX10_refusalOfLines_9 : decode cX10_refusalOfLines 9 = .ok (.aload_n 0, 1) := by decide +kernel
theorem dX10_refusalOfLines_10 : decode cX10_refusalOfLines 10 = .ok (.iload_n 1, 1) := by decide +kernel
theorem dX10_refusalOfLines_11 : decode cX10_refusalOfLines 11 = .ok (.bipush 6, 2) := by decide +kernel
theorem dX10_refusalOfLines_13 : decode cX10_refusalOfLines 13 = .ok (.iload 4, 2) := by decide +kernel
theorem dX10_refusalOfLines_15 : decode cX10_refusalOfLines 15 = .ok (.imul, 1) := by decide +kernel
theorem dX10_refusalOfLines_16 : decode cX10_refusalOfLines 16 = .ok (.iadd, 1) := by decide +kernel
theorem dX10_refusalOfLines_17 : decode cX10_refusalOfLines 17 = .ok (.invokevirtual 434, 3) := by decide +kernel
theorem dX10_refusalOfLines_20 : decode cX10_refusalOfLines 20 = .ok (.ifCond .ne 9, 3) := by decide +kernel
theorem dX10_refusalOfLines_23 : decode cX10_refusalOfLines 23 = .ok (.bipush (-20), 2) := by decide +kernel
theorem dX10_refusalOfLines_25 : decode cX10_refusalOfLines 25 = .ok (.iload 4, 2) := by decide +kernel
theorem dX10_refusalOfLines_27 : decode cX10_refusalOfLines 27 = .ok (.isub, 1) := by decide +kernel
theorem dX10_refusalOfLines_28 : decode cX10_refusalOfLines 28 = .ok (.ireturn, 1) := by decide +kernel
theorem dX10_refusalOfLines_29 : decode cX10_refusalOfLines 29 = .ok (.aload_n 3, 1) := by decide +kernel
theorem dX10_refusalOfLines_30 : decode cX10_refusalOfLines 30 = .ok (.getfield 125, 3) := by decide +kernel
theorem dX10_refusalOfLines_33 : decode cX10_refusalOfLines 33 = .ok (.iload 4, 2) := by decide +kernel
theorem dX10_refusalOfLines_35 : decode cX10_refusalOfLines 35 = .ok (.iadd, 1) := by decide +kernel
theorem dX10_refusalOfLines_36 : decode cX10_refusalOfLines 36 = .ok (.bipush 10, 2) := by decide +kernel
theorem dX10_refusalOfLines_38 : decode cX10_refusalOfLines 38 = .ok (.if_icmp .lt 6, 3) := by decide +kernel
theorem dX10_refusalOfLines_41 : decode cX10_refusalOfLines 41 = .ok (.bipush (-3), 2) := by decide +kernel
theorem dX10_refusalOfLines_43 : decode cX10_refusalOfLines 43 = .ok (.ireturn, 1) := by decide +kernel
theorem dX10_refusalOfLines_44 : decode cX10_refusalOfLines 44 = .ok (.iinc 4 1, 3) := by decide +kernel
theorem dX10_refusalOfLines_47 : decode cX10_refusalOfLines 47 = .ok (.goto (-44), 3) := by decide +kernel
theorem dX10_refusalOfLines_50 : decode cX10_refusalOfLines 50 = .ok (.iconst 0, 1) := by decide +kernel
theorem dX10_refusalOfLines_51 : decode cX10_refusalOfLines 51 = .ok (.ireturn, 1) := by decide +kernel
