theorem dX0_init_0 : decode cX0_init 0 = .ok (.aload_n 0, 1) := by decide +kernel
theorem dX0_init_1 : decode cX0_init 1 = .ok (.invokespecial 3, 3) := by decide +kernel
theorem dX0_init_4 : decode cX0_init 4 = .ok (.aload_n 0, 1) := by decide +kernel
theorem dX0_init_5 : decode cX0_init 5 = .ok (.sipush 1024, 3) := by decide +kernel
theorem dX0_init_8 : decode cX0_init 8 = .ok (.newarray .int, 2) := by decide +kernel
theorem dX0_init_10 : decode cX0_init 10 = .ok (.putfield 9, 3) := by decide +kernel
theorem dX0_init_13 : decode cX0_init 13 = .ok (.aload_n 0, 1) := by decide +kernel
theorem dX0_init_14 : decode cX0_init 14 = .ok (.sipush 1024, 3) := by decide +kernel
theorem dX0_init_17 : decode cX0_init 17 = .ok (.newarray .int, 2) := by decide +kernel
theorem dX0_init_19 : decode cX0_init 19 = .ok (.putfield 15, 3) := by decide +kernel
theorem dX0_init_22 : decode cX0_init 22 = .ok (.return_, 1) := by decide +kernel
theorem dX0_countAll_0 : decode cX0_countAll 0 = .ok (.aload_n 0, 1) := by decide +kernel
theorem dX0_countAll_1 : decode cX0_countAll 1 = .ok (.aload_n 1, 1) := by decide +kernel
theorem dX0_countAll_2 : decode cX0_countAll 2 = .ok (.iload_n 2, 1) := by decide +kernel
theorem dX0_countAll_3 : decode cX0_countAll 3 = .ok (.iload_n 3, 1) := by decide +kernel
theorem dX0_countAll_4 : decode cX0_countAll 4 = .ok (.invokevirtual 18, 3) := by decide +kernel
theorem dX0_countAll_7 : decode cX0_countAll 7 = .ok (.lconst 0, 1) := by decide +kernel
theorem dX0_countAll_8 : decode cX0_countAll 8 = .ok (.lstore 4, 2) := by decide +kernel
theorem dX0_countAll_10 : decode cX0_countAll 10 = .ok (.iconst 0, 1) := by decide +kernel
theorem dX0_countAll_11 : decode cX0_countAll 11 = .ok (.istore 6, 2) := by decide +kernel
theorem dX0_countAll_13 : decode cX0_countAll 13 = .ok (.iload 6, 2) := by decide +kernel
theorem dX0_countAll_15 : decode cX0_countAll 15 = .ok (.iconst 1, 1) := by decide +kernel
theorem dX0_countAll_16 : decode cX0_countAll 16 = .ok (.aload_n 1, 1) := by decide +kernel
theorem dX0_countAll_17 : decode cX0_countAll 17 = .ok (.getfield 22, 3) := by decide +kernel
theorem dX0_countAll_20 : decode cX0_countAll 20 = .ok (.ishl, 1) := by decide +kernel
theorem dX0_countAll_21 : decode cX0_countAll 21 = .ok (.if_icmp .ge 22, 3) := by decide +kernel
theorem dX0_countAll_24 : decode cX0_countAll 24 = .ok (.lload 4, 2) := by decide +kernel
theorem dX0_countAll_26 : decode cX0_countAll 26 = .ok (.aload_n 0, 1) := by decide +kernel
theorem dX0_countAll_27 : decode cX0_countAll 27 = .ok (.getfield 9, 3) := by decide +kernel
theorem dX0_countAll_30 : decode cX0_countAll 30 = .ok (.iload 6, 2) := by decide +kernel
theorem dX0_countAll_32 : decode cX0_countAll 32 = .ok (.iaload, 1) := by decide +kernel
theorem dX0_countAll_33 : decode cX0_countAll 33 = .ok (.i2l, 1) := by decide +kernel
theorem dX0_countAll_34 : decode cX0_countAll 34 = .ok (.ladd, 1) := by decide +kernel
theorem dX0_countAll_35 : decode cX0_countAll 35 = .ok (.lstore 4, 2) := by decide +kernel
theorem dX0_countAll_37 : decode cX0_countAll 37 = .ok (.iinc 6 1, 3) := by decide +kernel
theorem dX0_countAll_40 : decode cX0_countAll 40 = .ok (.goto (-27), 3) := by decide +kernel
theorem dX0_countAll_43 : decode cX0_countAll 43 = .ok (.lload 4, 2) := by decide +kernel
theorem dX0_countAll_45 : decode cX0_countAll 45 = .ok (.lreturn, 1) := by decide +kernel
theorem dX0_countOfSize_0 : decode cX0_countOfSize 0 = .ok (.lconst 0, 1) := by decide +kernel
theorem dX0_countOfSize_1 : decode cX0_countOfSize 1 = .ok (.lstore_n 3, 1) := by decide +kernel
theorem dX0_countOfSize_2 : decode cX0_countOfSize 2 = .ok (.iconst 0, 1) := by decide +kernel
theorem dX0_countOfSize_3 : decode cX0_countOfSize 3 = .ok (.istore 5, 2) := by decide +kernel
theorem dX0_countOfSize_5 : decode cX0_countOfSize 5 = .ok (.iload 5, 2) := by decide +kernel
theorem dX0_countOfSize_7 : decode cX0_countOfSize 7 = .ok (.iconst 1, 1) := by decide +kernel
theorem dX0_countOfSize_8 : decode cX0_countOfSize 8 = .ok (.aload_n 1, 1) := by decide +kernel
theorem dX0_countOfSize_9 : decode cX0_countOfSize 9 = .ok (.getfield 22, 3) := by decide +kernel
theorem dX0_countOfSize_12 : decode cX0_countOfSize 12 = .ok (.ishl, 1) := by decide +kernel
theorem dX0_countOfSize_13 : decode cX0_countOfSize 13 = .ok (.if_icmp .ge 33, 3) := by decide +kernel
theorem dX0_countOfSize_16 : decode cX0_countOfSize 16 = .ok (.lload_n 3, 1) := by decide +kernel
theorem dX0_countOfSize_17 : decode cX0_countOfSize 17 = .ok (.iload 5, 2) := by decide +kernel
theorem dX0_countOfSize_19 : decode cX0_countOfSize 19 = .ok (.invokestatic 28, 3) := by decide +kernel
theorem dX0_countOfSize_22 : decode cX0_countOfSize 22 = .ok (.iload_n 2, 1) := by decide +kernel
theorem dX0_countOfSize_23 : decode cX0_countOfSize 23 = .ok (.if_icmp .ne 14, 3) := by decide +kernel
theorem dX0_countOfSize_26 : decode cX0_countOfSize 26 = .ok (.aload_n 0, 1) := by decide +kernel
theorem dX0_countOfSize_27 : decode cX0_countOfSize 27 = .ok (.getfield 9, 3) := by decide +kernel
theorem dX0_countOfSize_30 : decode cX0_countOfSize 30 = .ok (.iload 5, 2) := by decide +kernel
theorem dX0_countOfSize_32 : decode cX0_countOfSize 32 = .ok (.iaload, 1) := by decide +kernel
theorem dX0_countOfSize_33 : decode cX0_countOfSize 33 = .ok (.i2l, 1) := by decide +kernel
theorem dX0_countOfSize_34 : decode cX0_countOfSize 34 = .ok (.goto 4, 3) := by decide +kernel
theorem dX0_countOfSize_37 : decode cX0_countOfSize 37 = .ok (.lconst 0, 1) := by decide +kernel
theorem dX0_countOfSize_38 : decode cX0_countOfSize 38 = .ok (.ladd, 1) := by decide +kernel
theorem dX0_countOfSize_39 : decode cX0_countOfSize 39 = .ok (.lstore_n 3, 1) := by decide +kernel
theorem dX0_countOfSize_40 : decode cX0_countOfSize 40 = .ok (.iinc 5 1, 3) := by decide +kernel
theorem dX0_countOfSize_43 : decode cX0_countOfSize 43 = .ok (.goto (-38), 3) := by decide +kernel
theorem dX0_countOfSize_46 : decode cX0_countOfSize 46 = .ok (.lload_n 3, 1) := by decide +kernel
theorem dX0_countOfSize_47 : decode cX0_countOfSize 47 = .ok (.lreturn, 1) := by decide +kernel
theorem dX0_spreadAll_0 : decode cX0_spreadAll 0 = .ok (.iload_n 3, 1) := by decide +kernel
theorem dX0_spreadAll_1 : decode cX0_spreadAll 1 = .ok (.bipush (-4), 2) := by decide +kernel
theorem dX0_spreadAll_3 : decode cX0_spreadAll 3 = .ok (.if_icmp .ne 7, 3) := by decide +kernel
theorem dX0_spreadAll_6 : decode cX0_spreadAll 6 = .ok (.iconst 0, 1) := by decide +kernel
theorem dX0_spreadAll_7 : decode cX0_spreadAll 7 = .ok (.goto 6, 3) := by decide +kernel
theorem dX0_spreadAll_10 : decode cX0_spreadAll 10 = .ok (.iconst 1, 1) := by decide +kernel
theorem dX0_spreadAll_11 : decode cX0_spreadAll 11 = .ok (.iload_n 3, 1) := by decide +kernel
theorem dX0_spreadAll_12 : decode cX0_spreadAll 12 = .ok (.ishl, 1) := by decide +kernel
theorem dX0_spreadAll_13 : decode cX0_spreadAll 13 = .ok (.istore 4, 2) := by decide +kernel
theorem dX0_spreadAll_15 : decode cX0_spreadAll 15 = .ok (.aload_n 0, 1) := by decide +kernel
theorem dX0_spreadAll_16 : decode cX0_spreadAll 16 = .ok (.getfield 9, 3) := by decide +kernel
theorem dX0_spreadAll_19 : decode cX0_spreadAll 19 = .ok (.iconst 0, 1) := by decide +kernel
theorem dX0_spreadAll_20 : decode cX0_spreadAll 20 = .ok (.invokestatic 34, 3) := by decide +kernel
theorem dX0_spreadAll_23 : decode cX0_spreadAll 23 = .ok (.aload_n 0, 1) := by decide +kernel
theorem dX0_spreadAll_24 : decode cX0_spreadAll 24 = .ok (.getfield 9, 3) := by decide +kernel
theorem dX0_spreadAll_27 : decode cX0_spreadAll 27 = .ok (.iconst 0, 1) := by decide +kernel
theorem dX0_spreadAll_28 : decode cX0_spreadAll 28 = .ok (.iconst 1, 1) := by decide +kernel
theorem dX0_spreadAll_29 : decode cX0_spreadAll 29 = .ok (.iastore, 1) := by decide +kernel
theorem dX0_spreadAll_30 : decode cX0_spreadAll 30 = .ok (.iconst 0, 1) := by decide +kernel
theorem dX0_spreadAll_31 : decode cX0_spreadAll 31 = .ok (.istore 5, 2) := by decide +kernel
theorem dX0_spreadAll_33 : decode cX0_spreadAll 33 = .ok (.iload 5, 2) := by decide +kernel
theorem dX0_spreadAll_35 : decode cX0_spreadAll 35 = .ok (.aload_n 1, 1) := by decide +kernel
theorem dX0_spreadAll_36 : decode cX0_spreadAll 36 = .ok (.getfield 40, 3) := by decide +kernel
theorem dX0_spreadAll_39 : decode cX0_spreadAll 39 = .ok (.if_icmp .ge 36, 3) := by decide +kernel
theorem dX0_spreadAll_42 : decode cX0_spreadAll 42 = .ok (.iload 5, 2) := by decide +kernel
theorem dX0_spreadAll_44 : decode cX0_spreadAll 44 = .ok (.iload_n 2, 1) := by decide +kernel
theorem dX0_spreadAll_45 : decode cX0_spreadAll 45 = .ok (.if_icmp .eq 24, 3) := by decide +kernel
theorem dX0_spreadAll_48 : decode cX0_spreadAll 48 = .ok (.aload_n 0, 1) := by decide +kernel
theorem dX0_spreadAll_49 : decode cX0_spreadAll 49 = .ok (.aload_n 1, 1) := by decide +kernel
theorem dX0_spreadAll_50 : decode cX0_spreadAll 50 = .ok (.iload 5, 2) := by decide +kernel
theorem dX0_spreadAll_52 : decode cX0_spreadAll 52 = .ok (.ldc 43, 2) := by decide +kernel
theorem dX0_spreadAll_54 : decode cX0_spreadAll 54 = .ok (.invokestatic 44, 3) := by decide +kernel
theorem dX0_spreadAll_57 : decode cX0_spreadAll 57 = .ok (.iload 4, 2) := by decide +kernel
theorem dX0_spreadAll_59 : decode cX0_spreadAll 59 = .ok (.iconst (-1), 1) := by decide +kernel
theorem dX0_spreadAll_60 : decode cX0_spreadAll 60 = .ok (.ixor, 1) := by decide +kernel
theorem dX0_spreadAll_61 : decode cX0_spreadAll 61 = .ok (.iand, 1) := by decide +kernel
theorem dX0_spreadAll_62 : decode cX0_spreadAll 62 = .ok (.aload_n 1, 1) := by decide +kernel
theorem dX0_spreadAll_63 : decode cX0_spreadAll 63 = .ok (.getfield 22, 3) := by decide +kernel
theorem dX0_spreadAll_66 : decode cX0_spreadAll 66 = .ok (.invokevirtual 48, 3) := by decide +kernel
theorem dX0_spreadAll_69 : decode cX0_spreadAll 69 = .ok (.iinc 5 1, 3) := by decide +kernel
theorem dX0_spreadAll_72 : decode cX0_spreadAll 72 = .ok (.goto (-39), 3) := by decide +kernel
theorem dX0_spreadAll_75 : decode cX0_spreadAll 75 = .ok (.return_, 1) := by decide +kernel
theorem dX0_openTo_0 : decode cX0_openTo 0 = .ok (.iconst 0, 1) := by decide +kernel
theorem dX0_openTo_1 : decode cX0_openTo 1 = .ok (.istore_n 3, 1) := by decide +kernel
theorem dX0_openTo_2 : decode cX0_openTo 2 = .ok (.iconst 0, 1) := by decide +kernel
theorem dX0_openTo_3 : decode cX0_openTo 3 = .ok (.istore 4, 2) := by decide +kernel
theorem dX0_openTo_5 : decode cX0_openTo 5 = .ok (.iload 4, 2) := by decide +kernel
theorem dX0_openTo_7 : decode cX0_openTo 7 = .ok (.aload_n 0, 1) := by decide +kernel
theorem dX0_openTo_8 : decode cX0_openTo 8 = .ok (.getfield 22, 3) := by decide +kernel
theorem dX0_openTo_11 : decode cX0_openTo 11 = .ok (.if_icmp .ge 37, 3) := by decide +kernel
theorem dX0_openTo_14 : decode cX0_openTo 14 = .ok (.aload_n 0, 1) := by decide +kernel
theorem dX0_openTo_15 : decode cX0_openTo 15 = .ok (.iload_n 1, 1) := by decide +kernel
theorem dX0_openTo_16 : decode cX0_openTo 16 = .ok (.iload 4, 2) := by decide +kernel
theorem dX0_openTo_18 : decode cX0_openTo 18 = .ok (.invokevirtual 52, 3) := by decide +kernel
theorem dX0_openTo_21 : decode cX0_openTo 21 = .ok (.ifCond .eq 21, 3) := by decide +kernel
theorem dX0_openTo_24 : decode cX0_openTo 24 = .ok (.aload_n 0, 1) := by decide +kernel
theorem dX0_openTo_25 : decode cX0_openTo 25 = .ok (.iload_n 1, 1) := by decide +kernel
theorem dX0_openTo_26 : decode cX0_openTo 26 = .ok (.iload 4, 2) := by decide +kernel
theorem dX0_openTo_28 : decode cX0_openTo 28 = .ok (.invokevirtual 56, 3) := by decide +kernel
theorem dX0_openTo_31 : decode cX0_openTo 31 = .ok (.iload_n 2, 1) := by decide +kernel
theorem dX0_openTo_32 : decode cX0_openTo 32 = .ok (.if_icmp .gt 10, 3) := by decide +kernel
theorem dX0_openTo_35 : decode cX0_openTo 35 = .ok (.iload_n 3, 1) := by decide +kernel
theorem dX0_openTo_36 : decode cX0_openTo 36 = .ok (.iconst 1, 1) := by decide +kernel
theorem dX0_openTo_37 : decode cX0_openTo 37 = .ok (.iload 4, 2) := by decide +kernel
theorem dX0_openTo_39 : decode cX0_openTo 39 = .ok (.ishl, 1) := by decide +kernel
theorem dX0_openTo_40 : decode cX0_openTo 40 = .ok (.ior, 1) := by decide +kernel
theorem dX0_openTo_41 : decode cX0_openTo 41 = .ok (.istore_n 3, 1) := by decide +kernel
theorem dX0_openTo_42 : decode cX0_openTo 42 = .ok (.iinc 4 1, 3) := by decide +kernel
theorem dX0_openTo_45 : decode cX0_openTo 45 = .ok (.goto (-40), 3) := by decide +kernel
theorem dX0_openTo_48 : decode cX0_openTo 48 = .ok (.iload_n 3, 1) := by decide +kernel
theorem dX0_openTo_49 : decode cX0_openTo 49 = .ok (.ireturn, 1) := by decide +kernel
theorem dX0_spreadLine_0 : decode cX0_spreadLine 0 = .ok (.iconst 1, 1) := by decide +kernel
theorem dX0_spreadLine_1 : decode cX0_spreadLine 1 = .ok (.iload_n 2, 1) := by decide +kernel
theorem dX0_spreadLine_2 : decode cX0_spreadLine 2 = .ok (.ishl, 1) := by decide +kernel
theorem dX0_spreadLine_3 : decode cX0_spreadLine 3 = .ok (.iconst 1, 1) := by decide +kernel
theorem dX0_spreadLine_4 : decode cX0_spreadLine 4 = .ok (.isub, 1) := by decide +kernel
theorem dX0_spreadLine_5 : decode cX0_spreadLine 5 = .ok (.istore_n 3, 1) := by decide +kernel
theorem dX0_spreadLine_6 : decode cX0_spreadLine 6 = .ok (.iload_n 3, 1) := by decide +kernel
theorem dX0_spreadLine_7 : decode cX0_spreadLine 7 = .ok (.ifCond .lt 83, 3) := by decide +kernel
theorem dX0_spreadLine_10 : decode cX0_spreadLine 10 = .ok (.aload_n 0, 1) := by decide +kernel
theorem dX0_spreadLine_11 : decode cX0_spreadLine 11 = .ok (.getfield 9, 3) := by decide +kernel
theorem dX0_spreadLine_14 : decode cX0_spreadLine 14 = .ok (.iload_n 3, 1) := by decide +kernel
theorem dX0_spreadLine_15 : decode cX0_spreadLine 15 = .ok (.iaload, 1) := by decide +kernel
theorem dX0_spreadLine_16 : decode cX0_spreadLine 16 = .ok (.ifCond .ne 7, 3) := by decide +kernel
theorem dX0_spreadLine_19 : decode cX0_spreadLine 19 = .ok (.iconst 0, 1) := by decide +kernel
theorem dX0_spreadLine_20 : decode cX0_spreadLine 20 = .ok (.goto 8, 3) := by decide +kernel
theorem dX0_spreadLine_23 : decode cX0_spreadLine 23 = .ok (.iload_n 1, 1) := by decide +kernel
theorem dX0_spreadLine_24 : decode cX0_spreadLine 24 = .ok (.iload_n 3, 1) := by decide +kernel
theorem dX0_spreadLine_25 : decode cX0_spreadLine 25 = .ok (.iconst (-1), 1) := by decide +kernel
theorem dX0_spreadLine_26 : decode cX0_spreadLine 26 = .ok (.ixor, 1) := by decide +kernel
theorem dX0_spreadLine_27 : decode cX0_spreadLine 27 = .ok (.iand, 1) := by decide +kernel
theorem dX0_spreadLine_28 : decode cX0_spreadLine 28 = .ok (.istore 4, 2) := by decide +kernel
theorem dX0_spreadLine_30 : decode cX0_spreadLine 30 = .ok (.iconst 0, 1) := by decide +kernel
theorem dX0_spreadLine_31 : decode cX0_spreadLine 31 = .ok (.istore 5, 2) := by decide +kernel
theorem dX0_spreadLine_33 : decode cX0_spreadLine 33 = .ok (.iload 5, 2) := by decide +kernel
theorem dX0_spreadLine_35 : decode cX0_spreadLine 35 = .ok (.iload_n 2, 1) := by decide +kernel
theorem dX0_spreadLine_36 : decode cX0_spreadLine 36 = .ok (.if_icmp .ge 48, 3) := by decide +kernel
theorem dX0_spreadLine_39 : decode cX0_spreadLine 39 = .ok (.iload 4, 2) := by decide +kernel
theorem dX0_spreadLine_41 : decode cX0_spreadLine 41 = .ok (.iload 5, 2) := by decide +kernel
theorem dX0_spreadLine_43 : decode cX0_spreadLine 43 = .ok (.ishr, 1) := by decide +kernel
theorem dX0_spreadLine_44 : decode cX0_spreadLine 44 = .ok (.ifCond .eq 40, 3) := by decide +kernel
theorem dX0_spreadLine_47 : decode cX0_spreadLine 47 = .ok (.iload 4, 2) := by decide +kernel
theorem dX0_spreadLine_49 : decode cX0_spreadLine 49 = .ok (.iload 5, 2) := by decide +kernel
theorem dX0_spreadLine_51 : decode cX0_spreadLine 51 = .ok (.ishr, 1) := by decide +kernel
theorem dX0_spreadLine_52 : decode cX0_spreadLine 52 = .ok (.iconst 1, 1) := by decide +kernel
theorem dX0_spreadLine_53 : decode cX0_spreadLine 53 = .ok (.iand, 1) := by decide +kernel
theorem dX0_spreadLine_54 : decode cX0_spreadLine 54 = .ok (.iconst 1, 1) := by decide +kernel
theorem dX0_spreadLine_55 : decode cX0_spreadLine 55 = .ok (.if_icmp .ne 23, 3) := by decide +kernel
theorem dX0_spreadLine_58 : decode cX0_spreadLine 58 = .ok (.aload_n 0, 1) := by decide +kernel
theorem dX0_spreadLine_59 : decode cX0_spreadLine 59 = .ok (.getfield 9, 3) := by decide +kernel
theorem dX0_spreadLine_62 : decode cX0_spreadLine 62 = .ok (.iload_n 3, 1) := by decide +kernel
theorem dX0_spreadLine_63 : decode cX0_spreadLine 63 = .ok (.iconst 1, 1) := by decide +kernel
theorem dX0_spreadLine_64 : decode cX0_spreadLine 64 = .ok (.iload 5, 2) := by decide +kernel
theorem dX0_spreadLine_66 : decode cX0_spreadLine 66 = .ok (.ishl, 1) := by decide +kernel
theorem dX0_spreadLine_67 : decode cX0_spreadLine 67 = .ok (.ior, 1) := by decide +kernel
theorem dX0_spreadLine_68 : decode cX0_spreadLine 68 = .ok (.dup2, 1) := by decide +kernel
theorem dX0_spreadLine_69 : decode cX0_spreadLine 69 = .ok (.iaload, 1) := by decide +kernel
theorem dX0_spreadLine_70 : decode cX0_spreadLine 70 = .ok (.aload_n 0, 1) := by decide +kernel
theorem dX0_spreadLine_71 : decode cX0_spreadLine 71 = .ok (.getfield 9, 3) := by decide +kernel
theorem dX0_spreadLine_74 : decode cX0_spreadLine 74 = .ok (.iload_n 3, 1) := by decide +kernel
theorem dX0_spreadLine_75 : decode cX0_spreadLine 75 = .ok (.iaload, 1) := by decide +kernel
theorem dX0_spreadLine_76 : decode cX0_spreadLine 76 = .ok (.iadd, 1) := by decide +kernel
theorem dX0_spreadLine_77 : decode cX0_spreadLine 77 = .ok (.iastore, 1) := by decide +kernel
theorem dX0_spreadLine_78 : decode cX0_spreadLine 78 = .ok (.iinc 5 1, 3) := by decide +kernel
theorem dX0_spreadLine_81 : decode cX0_spreadLine 81 = .ok (.goto (-48), 3) := by decide +kernel
theorem dX0_spreadLine_84 : decode cX0_spreadLine 84 = .ok (.iinc 3 (-1), 3) := by decide +kernel
theorem dX0_spreadLine_87 : decode cX0_spreadLine 87 = .ok (.goto (-81), 3) := by decide +kernel
theorem dX0_spreadLine_90 : decode cX0_spreadLine 90 = .ok (.return_, 1) := by decide +kernel
theorem dX0_countBest_0 : decode cX0_countBest 0 = .ok (.aload_n 0, 1) := by decide +kernel
theorem dX0_countBest_1 : decode cX0_countBest 1 = .ok (.getfield 9, 3) := by decide +kernel
theorem dX0_countBest_4 : decode cX0_countBest 4 = .ok (.iconst 0, 1) := by decide +kernel
theorem dX0_countBest_5 : decode cX0_countBest 5 = .ok (.invokestatic 34, 3) := by decide +kernel
theorem dX0_countBest_8 : decode cX0_countBest 8 = .ok (.aload_n 0, 1) := by decide +kernel
theorem dX0_countBest_9 : decode cX0_countBest 9 = .ok (.getfield 9, 3) := by decide +kernel
theorem dX0_countBest_12 : decode cX0_countBest 12 = .ok (.iconst 0, 1) := by decide +kernel
theorem dX0_countBest_13 : decode cX0_countBest 13 = .ok (.iconst 1, 1) := by decide +kernel
theorem dX0_countBest_14 : decode cX0_countBest 14 = .ok (.iastore, 1) := by decide +kernel
theorem dX0_countBest_15 : decode cX0_countBest 15 = .ok (.aload_n 0, 1) := by decide +kernel
theorem dX0_countBest_16 : decode cX0_countBest 16 = .ok (.getfield 15, 3) := by decide +kernel
theorem dX0_countBest_19 : decode cX0_countBest 19 = .ok (.iconst 0, 1) := by decide +kernel
theorem dX0_countBest_20 : decode cX0_countBest 20 = .ok (.iconst 0, 1) := by decide +kernel
theorem dX0_countBest_21 : decode cX0_countBest 21 = .ok (.iastore, 1) := by decide +kernel
theorem dX0_countBest_22 : decode cX0_countBest 22 = .ok (.iconst 0, 1) := by decide +kernel
theorem dX0_countBest_23 : decode cX0_countBest 23 = .ok (.istore_n 2, 1) := by decide +kernel
theorem dX0_countBest_24 : decode cX0_countBest 24 = .ok (.iload_n 2, 1) := by decide +kernel
theorem dX0_countBest_25 : decode cX0_countBest 25 = .ok (.aload_n 1, 1) := by decide +kernel
theorem dX0_countBest_26 : decode cX0_countBest 26 = .ok (.getfield 40, 3) := by decide +kernel
theorem dX0_countBest_29 : decode cX0_countBest 29 = .ok (.if_icmp .ge 15, 3) := by decide +kernel
theorem dX0_countBest_32 : decode cX0_countBest 32 = .ok (.aload_n 0, 1) := by decide +kernel
theorem dX0_countBest_33 : decode cX0_countBest 33 = .ok (.aload_n 1, 1) := by decide +kernel
theorem dX0_countBest_34 : decode cX0_countBest 34 = .ok (.iload_n 2, 1) := by decide +kernel
theorem dX0_countBest_35 : decode cX0_countBest 35 = .ok (.invokevirtual 60, 3) := by decide +kernel
theorem dX0_countBest_38 : decode cX0_countBest 38 = .ok (.iinc 2 1, 3) := by decide +kernel
theorem dX0_countBest_41 : decode cX0_countBest 41 = .ok (.goto (-17), 3) := by decide +kernel
theorem dX0_countBest_44 : decode cX0_countBest 44 = .ok (.iconst 0, 1) := by decide +kernel
theorem dX0_countBest_45 : decode cX0_countBest 45 = .ok (.istore_n 2, 1) := by decide +kernel
theorem dX0_countBest_46 : decode cX0_countBest 46 = .ok (.lconst 0, 1) := by decide +kernel
theorem dX0_countBest_47 : decode cX0_countBest 47 = .ok (.lstore_n 3, 1) := by decide +kernel
theorem dX0_countBest_48 : decode cX0_countBest 48 = .ok (.iconst 0, 1) := by decide +kernel
theorem dX0_countBest_49 : decode cX0_countBest 49 = .ok (.istore 5, 2) := by decide +kernel
theorem dX0_countBest_51 : decode cX0_countBest 51 = .ok (.iload 5, 2) := by decide +kernel
theorem dX0_countBest_53 : decode cX0_countBest 53 = .ok (.iconst 1, 1) := by decide +kernel
theorem dX0_countBest_54 : decode cX0_countBest 54 = .ok (.aload_n 1, 1) := by decide +kernel
theorem dX0_countBest_55 : decode cX0_countBest 55 = .ok (.getfield 22, 3) := by decide +kernel
theorem dX0_countBest_58 : decode cX0_countBest 58 = .ok (.ishl, 1) := by decide +kernel
theorem dX0_countBest_59 : decode cX0_countBest 59 = .ok (.if_icmp .ge 76, 3) := by decide +kernel
theorem dX0_countBest_62 : decode cX0_countBest 62 = .ok (.aload_n 0, 1) := by decide +kernel
theorem dX0_countBest_63 : decode cX0_countBest 63 = .ok (.getfield 9, 3) := by decide +kernel
theorem dX0_countBest_66 : decode cX0_countBest 66 = .ok (.iload 5, 2) := by decide +kernel
theorem dX0_countBest_68 : decode cX0_countBest 68 = .ok (.iaload, 1) := by decide +kernel
theorem dX0_countBest_69 : decode cX0_countBest 69 = .ok (.ifCond .eq 24, 3) := by decide +kernel
theorem dX0_countBest_72 : decode cX0_countBest 72 = .ok (.aload_n 0, 1) := by decide +kernel
theorem dX0_countBest_73 : decode cX0_countBest 73 = .ok (.getfield 15, 3) := by decide +kernel
theorem dX0_countBest_76 : decode cX0_countBest 76 = .ok (.iload 5, 2) := by decide +kernel
theorem dX0_countBest_78 : decode cX0_countBest 78 = .ok (.iaload, 1) := by decide +kernel
theorem dX0_countBest_79 : decode cX0_countBest 79 = .ok (.iload_n 2, 1) := by decide +kernel
theorem dX0_countBest_80 : decode cX0_countBest 80 = .ok (.if_icmp .ge 13, 3) := by decide +kernel
theorem dX0_countBest_83 : decode cX0_countBest 83 = .ok (.aload_n 0, 1) := by decide +kernel
theorem dX0_countBest_84 : decode cX0_countBest 84 = .ok (.getfield 15, 3) := by decide +kernel
theorem dX0_countBest_87 : decode cX0_countBest 87 = .ok (.iload 5, 2) := by decide +kernel
theorem dX0_countBest_89 : decode cX0_countBest 89 = .ok (.iaload, 1) := by decide +kernel
theorem dX0_countBest_90 : decode cX0_countBest 90 = .ok (.istore_n 2, 1) := by decide +kernel
theorem dX0_countBest_91 : decode cX0_countBest 91 = .ok (.lconst 0, 1) := by decide +kernel
theorem dX0_countBest_92 : decode cX0_countBest 92 = .ok (.lstore_n 3, 1) := by decide +kernel
theorem dX0_countBest_93 : decode cX0_countBest 93 = .ok (.lload_n 3, 1) := by decide +kernel
theorem dX0_countBest_94 : decode cX0_countBest 94 = .ok (.aload_n 0, 1) := by decide +kernel
theorem dX0_countBest_95 : decode cX0_countBest 95 = .ok (.getfield 9, 3) := by decide +kernel
theorem dX0_countBest_98 : decode cX0_countBest 98 = .ok (.iload 5, 2) := by decide +kernel
theorem dX0_countBest_100 : decode cX0_countBest 100 = .ok (.iaload, 1) := by decide +kernel
theorem dX0_countBest_101 : decode cX0_countBest 101 = .ok (.ifCond .eq 25, 3) := by decide +kernel
theorem dX0_countBest_104 : decode cX0_countBest 104 = .ok (.aload_n 0, 1) := by decide +kernel
theorem dX0_countBest_105 : decode cX0_countBest 105 = .ok (.getfield 15, 3) := by decide +kernel
theorem dX0_countBest_108 : decode cX0_countBest 108 = .ok (.iload 5, 2) := by decide +kernel
theorem dX0_countBest_110 : decode cX0_countBest 110 = .ok (.iaload, 1) := by decide +kernel
theorem dX0_countBest_111 : decode cX0_countBest 111 = .ok (.iload_n 2, 1) := by decide +kernel
theorem dX0_countBest_112 : decode cX0_countBest 112 = .ok (.if_icmp .ne 14, 3) := by decide +kernel
theorem dX0_countBest_115 : decode cX0_countBest 115 = .ok (.aload_n 0, 1) := by decide +kernel
theorem dX0_countBest_116 : decode cX0_countBest 116 = .ok (.getfield 9, 3) := by decide +kernel
theorem dX0_countBest_119 : decode cX0_countBest 119 = .ok (.iload 5, 2) := by decide +kernel
theorem dX0_countBest_121 : decode cX0_countBest 121 = .ok (.iaload, 1) := by decide +kernel
theorem dX0_countBest_122 : decode cX0_countBest 122 = .ok (.i2l, 1) := by decide +kernel
theorem dX0_countBest_123 : decode cX0_countBest 123 = .ok (.goto 4, 3) := by decide +kernel
theorem dX0_countBest_126 : decode cX0_countBest 126 = .ok (.lconst 0, 1) := by decide +kernel
theorem dX0_countBest_127 : decode cX0_countBest 127 = .ok (.ladd, 1) := by decide +kernel
theorem dX0_countBest_128 : decode cX0_countBest 128 = .ok (.lstore_n 3, 1) := by decide +kernel
theorem dX0_countBest_129 : decode cX0_countBest 129 = .ok (.iinc 5 1, 3) := by decide +kernel
theorem dX0_countBest_132 : decode cX0_countBest 132 = .ok (.goto (-81), 3) := by decide +kernel
theorem dX0_countBest_135 : decode cX0_countBest 135 = .ok (.lload_n 3, 1) := by decide +kernel
theorem dX0_countBest_136 : decode cX0_countBest 136 = .ok (.lreturn, 1) := by decide +kernel
theorem dX0_spreadBest_0 : decode cX0_spreadBest 0 = .ok (.aload_n 1, 1) := by decide +kernel
theorem dX0_spreadBest_1 : decode cX0_spreadBest 1 = .ok (.iload_n 2, 1) := by decide +kernel
theorem dX0_spreadBest_2 : decode cX0_spreadBest 2 = .ok (.iconst 0, 1) := by decide +kernel
theorem dX0_spreadBest_3 : decode cX0_spreadBest 3 = .ok (.invokestatic 44, 3) := by decide +kernel
theorem dX0_spreadBest_6 : decode cX0_spreadBest 6 = .ok (.istore_n 3, 1) := by decide +kernel
theorem dX0_spreadBest_7 : decode cX0_spreadBest 7 = .ok (.iconst 1, 1) := by decide +kernel
theorem dX0_spreadBest_8 : decode cX0_spreadBest 8 = .ok (.aload_n 1, 1) := by decide +kernel
theorem dX0_spreadBest_9 : decode cX0_spreadBest 9 = .ok (.getfield 22, 3) := by decide +kernel
theorem dX0_spreadBest_12 : decode cX0_spreadBest 12 = .ok (.ishl, 1) := by decide +kernel
theorem dX0_spreadBest_13 : decode cX0_spreadBest 13 = .ok (.iconst 1, 1) := by decide +kernel
theorem dX0_spreadBest_14 : decode cX0_spreadBest 14 = .ok (.isub, 1) := by decide +kernel
theorem dX0_spreadBest_15 : decode cX0_spreadBest 15 = .ok (.istore 4, 2) := by decide +kernel
theorem dX0_spreadBest_17 : decode cX0_spreadBest 17 = .ok (.iload 4, 2) := by decide +kernel
theorem dX0_spreadBest_19 : decode cX0_spreadBest 19 = .ok (.ifCond .lt 101, 3) := by decide +kernel
theorem dX0_spreadBest_22 : decode cX0_spreadBest 22 = .ok (.aload_n 0, 1) := by decide +kernel
theorem dX0_spreadBest_23 : decode cX0_spreadBest 23 = .ok (.getfield 9, 3) := by decide +kernel
theorem dX0_spreadBest_26 : decode cX0_spreadBest 26 = .ok (.iload 4, 2) := by decide +kernel
theorem dX0_spreadBest_28 : decode cX0_spreadBest 28 = .ok (.iaload, 1) := by decide +kernel
theorem dX0_spreadBest_29 : decode cX0_spreadBest 29 = .ok (.ifCond .ne 7, 3) := by decide +kernel
theorem dX0_spreadBest_32 : decode cX0_spreadBest 32 = .ok (.iconst 0, 1) := by decide +kernel
theorem dX0_spreadBest_33 : decode cX0_spreadBest 33 = .ok (.goto 9, 3) := by decide +kernel
theorem dX0_spreadBest_36 : decode cX0_spreadBest 36 = .ok (.iload_n 3, 1) := by decide +kernel
theorem dX0_spreadBest_37 : decode cX0_spreadBest 37 = .ok (.iload 4, 2) := by decide +kernel
theorem dX0_spreadBest_39 : decode cX0_spreadBest 39 = .ok (.iconst (-1), 1) := by decide +kernel
theorem dX0_spreadBest_40 : decode cX0_spreadBest 40 = .ok (.ixor, 1) := by decide +kernel
theorem dX0_spreadBest_41 : decode cX0_spreadBest 41 = .ok (.iand, 1) := by decide +kernel
theorem dX0_spreadBest_42 : decode cX0_spreadBest 42 = .ok (.istore 5, 2) := by decide +kernel
theorem dX0_spreadBest_44 : decode cX0_spreadBest 44 = .ok (.iconst 0, 1) := by decide +kernel
theorem dX0_spreadBest_45 : decode cX0_spreadBest 45 = .ok (.istore 6, 2) := by decide +kernel
theorem dX0_spreadBest_47 : decode cX0_spreadBest 47 = .ok (.iload 6, 2) := by decide +kernel
theorem dX0_spreadBest_49 : decode cX0_spreadBest 49 = .ok (.aload_n 1, 1) := by decide +kernel
theorem dX0_spreadBest_50 : decode cX0_spreadBest 50 = .ok (.getfield 22, 3) := by decide +kernel
theorem dX0_spreadBest_53 : decode cX0_spreadBest 53 = .ok (.if_icmp .ge 61, 3) := by decide +kernel
theorem dX0_spreadBest_56 : decode cX0_spreadBest 56 = .ok (.iload 5, 2) := by decide +kernel
theorem dX0_spreadBest_58 : decode cX0_spreadBest 58 = .ok (.iload 6, 2) := by decide +kernel
theorem dX0_spreadBest_60 : decode cX0_spreadBest 60 = .ok (.ishr, 1) := by decide +kernel
theorem dX0_spreadBest_61 : decode cX0_spreadBest 61 = .ok (.ifCond .eq 53, 3) := by decide +kernel
theorem dX0_spreadBest_64 : decode cX0_spreadBest 64 = .ok (.iload 5, 2) := by decide +kernel
theorem dX0_spreadBest_66 : decode cX0_spreadBest 66 = .ok (.iload 6, 2) := by decide +kernel
theorem dX0_spreadBest_68 : decode cX0_spreadBest 68 = .ok (.ishr, 1) := by decide +kernel
theorem dX0_spreadBest_69 : decode cX0_spreadBest 69 = .ok (.iconst 1, 1) := by decide +kernel
theorem dX0_spreadBest_70 : decode cX0_spreadBest 70 = .ok (.iand, 1) := by decide +kernel
theorem dX0_spreadBest_71 : decode cX0_spreadBest 71 = .ok (.iconst 1, 1) := by decide +kernel
theorem dX0_spreadBest_72 : decode cX0_spreadBest 72 = .ok (.if_icmp .ne 36, 3) := by decide +kernel
theorem dX0_spreadBest_75 : decode cX0_spreadBest 75 = .ok (.aload_n 0, 1) := by decide +kernel
theorem dX0_spreadBest_76 : decode cX0_spreadBest 76 = .ok (.iload 4, 2) := by decide +kernel
theorem dX0_spreadBest_78 : decode cX0_spreadBest 78 = .ok (.iconst 1, 1) := by decide +kernel
theorem dX0_spreadBest_79 : decode cX0_spreadBest 79 = .ok (.iload 6, 2) := by decide +kernel
theorem dX0_spreadBest_81 : decode cX0_spreadBest 81 = .ok (.ishl, 1) := by decide +kernel
theorem dX0_spreadBest_82 : decode cX0_spreadBest 82 = .ok (.ior, 1) := by decide +kernel
theorem dX0_spreadBest_83 : decode cX0_spreadBest 83 = .ok (.aload_n 0, 1) := by decide +kernel
theorem dX0_spreadBest_84 : decode cX0_spreadBest 84 = .ok (.getfield 15, 3) := by decide +kernel
theorem dX0_spreadBest_87 : decode cX0_spreadBest 87 = .ok (.iload 4, 2) := by decide +kernel
theorem dX0_spreadBest_89 : decode cX0_spreadBest 89 = .ok (.iaload, 1) := by decide +kernel
theorem dX0_spreadBest_90 : decode cX0_spreadBest 90 = .ok (.aload_n 1, 1) := by decide +kernel
theorem dX0_spreadBest_91 : decode cX0_spreadBest 91 = .ok (.iload_n 2, 1) := by decide +kernel
theorem dX0_spreadBest_92 : decode cX0_spreadBest 92 = .ok (.iload 6, 2) := by decide +kernel
theorem dX0_spreadBest_94 : decode cX0_spreadBest 94 = .ok (.invokevirtual 56, 3) := by decide +kernel
theorem dX0_spreadBest_97 : decode cX0_spreadBest 97 = .ok (.iadd, 1) := by decide +kernel
theorem dX0_spreadBest_98 : decode cX0_spreadBest 98 = .ok (.aload_n 0, 1) := by decide +kernel
theorem dX0_spreadBest_99 : decode cX0_spreadBest 99 = .ok (.getfield 9, 3) := by decide +kernel
theorem dX0_spreadBest_102 : decode cX0_spreadBest 102 = .ok (.iload 4, 2) := by decide +kernel
theorem dX0_spreadBest_104 : decode cX0_spreadBest 104 = .ok (.iaload, 1) := by decide +kernel
theorem dX0_spreadBest_105 : decode cX0_spreadBest 105 = .ok (.invokevirtual 64, 3) := by decide +kernel
theorem dX0_spreadBest_108 : decode cX0_spreadBest 108 = .ok (.iinc 6 1, 3) := by decide +kernel
theorem dX0_spreadBest_111 : decode cX0_spreadBest 111 = .ok (.goto (-64), 3) := by decide +kernel
theorem dX0_spreadBest_114 : decode cX0_spreadBest 114 = .ok (.iinc 4 (-1), 3) := by decide +kernel
theorem dX0_spreadBest_117 : decode cX0_spreadBest 117 = .ok (.goto (-100), 3) := by decide +kernel
theorem dX0_spreadBest_120 : decode cX0_spreadBest 120 = .ok (.return_, 1) := by decide +kernel
theorem dX0_addBest_0 : decode cX0_addBest 0 = .ok (.aload_n 0, 1) := by decide +kernel
theorem dX0_addBest_1 : decode cX0_addBest 1 = .ok (.getfield 9, 3) := by decide +kernel
theorem dX0_addBest_4 : decode cX0_addBest 4 = .ok (.iload_n 1, 1) := by decide +kernel
theorem dX0_addBest_5 : decode cX0_addBest 5 = .ok (.iaload, 1) := by decide +kernel
theorem dX0_addBest_6 : decode cX0_addBest 6 = .ok (.ifCond .eq 13, 3) := by decide +kernel
theorem dX0_addBest_9 : decode cX0_addBest 9 = .ok (.iload_n 2, 1) := by decide +kernel
theorem dX0_addBest_10 : decode cX0_addBest 10 = .ok (.aload_n 0, 1) := by decide +kernel
theorem dX0_addBest_11 : decode cX0_addBest 11 = .ok (.getfield 15, 3) := by decide +kernel
theorem dX0_addBest_14 : decode cX0_addBest 14 = .ok (.iload_n 1, 1) := by decide +kernel
theorem dX0_addBest_15 : decode cX0_addBest 15 = .ok (.iaload, 1) := by decide +kernel
theorem dX0_addBest_16 : decode cX0_addBest 16 = .ok (.if_icmp .ge 17, 3) := by decide +kernel
theorem dX0_addBest_19 : decode cX0_addBest 19 = .ok (.aload_n 0, 1) := by decide +kernel
theorem dX0_addBest_20 : decode cX0_addBest 20 = .ok (.getfield 15, 3) := by decide +kernel
theorem dX0_addBest_23 : decode cX0_addBest 23 = .ok (.iload_n 1, 1) := by decide +kernel
theorem dX0_addBest_24 : decode cX0_addBest 24 = .ok (.iload_n 2, 1) := by decide +kernel
theorem dX0_addBest_25 : decode cX0_addBest 25 = .ok (.iastore, 1) := by decide +kernel
theorem dX0_addBest_26 : decode cX0_addBest 26 = .ok (.aload_n 0, 1) := by decide +kernel
theorem dX0_addBest_27 : decode cX0_addBest 27 = .ok (.getfield 9, 3) := by decide +kernel
theorem dX0_addBest_30 : decode cX0_addBest 30 = .ok (.iload_n 1, 1) := by decide +kernel
theorem dX0_addBest_31 : decode cX0_addBest 31 = .ok (.iconst 0, 1) := by decide +kernel
theorem dX0_addBest_32 : decode cX0_addBest 32 = .ok (.iastore, 1) := by decide +kernel
theorem dX0_addBest_33 : decode cX0_addBest 33 = .ok (.aload_n 0, 1) := by decide +kernel
theorem dX0_addBest_34 : decode cX0_addBest 34 = .ok (.getfield 9, 3) := by decide +kernel
theorem dX0_addBest_37 : decode cX0_addBest 37 = .ok (.iload_n 1, 1) := by decide +kernel
theorem dX0_addBest_38 : decode cX0_addBest 38 = .ok (.dup2, 1) := by decide +kernel
theorem dX0_addBest_39 : decode cX0_addBest 39 = .ok (.iaload, 1) := by decide +kernel
theorem dX0_addBest_40 : decode cX0_addBest 40 = .ok (.iload_n 2, 1) := by decide +kernel
theorem dX0_addBest_41 : decode cX0_addBest 41 = .ok (.aload_n 0, 1) := by decide +kernel
theorem dX0_addBest_42 : decode cX0_addBest 42 = .ok (.getfield 15, 3) := by decide +kernel
theorem dX0_addBest_45 : decode cX0_addBest 45 = .ok (.iload_n 1, 1) := by decide +kernel
theorem dX0_addBest_46 : decode cX0_addBest 46 = .ok (.iaload, 1) := by decide +kernel
theorem dX0_addBest_47 : decode cX0_addBest 47 = .ok (.if_icmp .ne 7, 3) := by decide +kernel
theorem dX0_addBest_50 : decode cX0_addBest 50 = .ok (.iload_n 3, 1) := by decide +kernel
theorem dX0_addBest_51 : decode cX0_addBest 51 = .ok (.goto 4, 3) := by decide +kernel
theorem dX0_addBest_54 : decode cX0_addBest 54 = .ok (.iconst 0, 1) := by decide +kernel
theorem dX0_addBest_55 : decode cX0_addBest 55 = .ok (.iadd, 1) := by decide +kernel
theorem dX0_addBest_56 : decode cX0_addBest 56 = .ok (.iastore, 1) := by decide +kernel
theorem dX0_addBest_57 : decode cX0_addBest 57 = .ok (.return_, 1) := by decide +kernel
theorem dX1_init_0 : decode cX1_init 0 = .ok (.aload_n 0, 1) := by decide +kernel
theorem dX1_init_1 : decode cX1_init 1 = .ok (.invokespecial 3, 3) := by decide +kernel
theorem dX1_init_4 : decode cX1_init 4 = .ok (.aload_n 0, 1) := by decide +kernel
theorem dX1_init_5 : decode cX1_init 5 = .ok (.bipush 10, 2) := by decide +kernel
theorem dX1_init_7 : decode cX1_init 7 = .ok (.newarray .int, 2) := by decide +kernel
theorem dX1_init_9 : decode cX1_init 9 = .ok (.putfield 9, 3) := by decide +kernel
theorem dX1_init_12 : decode cX1_init 12 = .ok (.aload_n 0, 1) := by decide +kernel
theorem dX1_init_13 : decode cX1_init 13 = .ok (.sipush 1024, 3) := by decide +kernel
theorem dX1_init_16 : decode cX1_init 16 = .ok (.newarray .boolean, 2) := by decide +kernel
theorem dX1_init_18 : decode cX1_init 18 = .ok (.putfield 15, 3) := by decide +kernel
theorem dX1_init_21 : decode cX1_init 21 = .ok (.aload_n 0, 1) := by decide +kernel
theorem dX1_init_22 : decode cX1_init 22 = .ok (.sipush 1024, 3) := by decide +kernel
theorem dX1_init_25 : decode cX1_init 25 = .ok (.newarray .int, 2) := by decide +kernel
theorem dX1_init_27 : decode cX1_init 27 = .ok (.putfield 19, 3) := by decide +kernel
theorem dX1_init_30 : decode cX1_init 30 = .ok (.return_, 1) := by decide +kernel
theorem dX1_begin_0 : decode cX1_begin 0 = .ok (.aload_n 0, 1) := by decide +kernel
theorem dX1_begin_1 : decode cX1_begin 1 = .ok (.iload_n 1, 1) := by decide +kernel
theorem dX1_begin_2 : decode cX1_begin 2 = .ok (.putfield 22, 3) := by decide +kernel
theorem dX1_begin_5 : decode cX1_begin 5 = .ok (.aload_n 0, 1) := by decide +kernel
theorem dX1_begin_6 : decode cX1_begin 6 = .ok (.getfield 9, 3) := by decide +kernel
theorem dX1_begin_9 : decode cX1_begin 9 = .ok (.iconst 0, 1) := by decide +kernel
theorem dX1_begin_10 : decode cX1_begin 10 = .ok (.invokestatic 26, 3) := by decide +kernel
theorem dX1_begin_13 : decode cX1_begin 13 = .ok (.return_, 1) := by decide +kernel
theorem dX1_join_0 : decode cX1_join 0 = .ok (.aload_n 0, 1) := by decide +kernel
theorem dX1_join_1 : decode cX1_join 1 = .ok (.getfield 9, 3) := by decide +kernel
theorem dX1_join_4 : decode cX1_join 4 = .ok (.iload_n 1, 1) := by decide +kernel
theorem dX1_join_5 : decode cX1_join 5 = .ok (.dup2, 1) := by decide +kernel
theorem dX1_join_6 : decode cX1_join 6 = .ok (.iaload, 1) := by decide +kernel
theorem dX1_join_7 : decode cX1_join 7 = .ok (.iconst 1, 1) := by decide +kernel
theorem dX1_join_8 : decode cX1_join 8 = .ok (.iload_n 2, 1) := by decide +kernel
theorem dX1_join_9 : decode cX1_join 9 = .ok (.ishl, 1) := by decide +kernel
theorem dX1_join_10 : decode cX1_join 10 = .ok (.ior, 1) := by decide +kernel
theorem dX1_join_11 : decode cX1_join 11 = .ok (.iastore, 1) := by decide +kernel
theorem dX1_join_12 : decode cX1_join 12 = .ok (.return_, 1) := by decide +kernel
theorem dX1_markTogether_0 : decode cX1_markTogether 0 = .ok (.aload_n 0, 1) := by decide +kernel
theorem dX1_markTogether_1 : decode cX1_markTogether 1 = .ok (.getfield 15, 3) := by decide +kernel
theorem dX1_markTogether_4 : decode cX1_markTogether 4 = .ok (.iconst 0, 1) := by decide +kernel
theorem dX1_markTogether_5 : decode cX1_markTogether 5 = .ok (.iconst 1, 1) := by decide +kernel
theorem dX1_markTogether_6 : decode cX1_markTogether 6 = .ok (.bastore, 1) := by decide +kernel
theorem dX1_markTogether_7 : decode cX1_markTogether 7 = .ok (.iconst 0, 1) := by decide +kernel
theorem dX1_markTogether_8 : decode cX1_markTogether 8 = .ok (.istore_n 1, 1) := by decide +kernel
theorem dX1_markTogether_9 : decode cX1_markTogether 9 = .ok (.iload_n 1, 1) := by decide +kernel
theorem dX1_markTogether_10 : decode cX1_markTogether 10 = .ok (.aload_n 0, 1) := by decide +kernel
theorem dX1_markTogether_11 : decode cX1_markTogether 11 = .ok (.getfield 22, 3) := by decide +kernel
theorem dX1_markTogether_14 : decode cX1_markTogether 14 = .ok (.if_icmp .ge 60, 3) := by decide +kernel
theorem dX1_markTogether_17 : decode cX1_markTogether 17 = .ok (.iconst 0, 1) := by decide +kernel
theorem dX1_markTogether_18 : decode cX1_markTogether 18 = .ok (.istore_n 2, 1) := by decide +kernel
theorem dX1_markTogether_19 : decode cX1_markTogether 19 = .ok (.iload_n 2, 1) := by decide +kernel
theorem dX1_markTogether_20 : decode cX1_markTogether 20 = .ok (.iconst 1, 1) := by decide +kernel
theorem dX1_markTogether_21 : decode cX1_markTogether 21 = .ok (.iload_n 1, 1) := by decide +kernel
theorem dX1_markTogether_22 : decode cX1_markTogether 22 = .ok (.ishl, 1) := by decide +kernel
theorem dX1_markTogether_23 : decode cX1_markTogether 23 = .ok (.if_icmp .ge 45, 3) := by decide +kernel
theorem dX1_markTogether_26 : decode cX1_markTogether 26 = .ok (.aload_n 0, 1) := by decide +kernel
theorem dX1_markTogether_27 : decode cX1_markTogether 27 = .ok (.getfield 15, 3) := by decide +kernel
theorem dX1_markTogether_30 : decode cX1_markTogether 30 = .ok (.iconst 1, 1) := by decide +kernel
theorem dX1_markTogether_31 : decode cX1_markTogether 31 = .ok (.iload_n 1, 1) := by decide +kernel
theorem dX1_markTogether_32 : decode cX1_markTogether 32 = .ok (.ishl, 1) := by decide +kernel
theorem dX1_markTogether_33 : decode cX1_markTogether 33 = .ok (.iload_n 2, 1) := by decide +kernel
theorem dX1_markTogether_34 : decode cX1_markTogether 34 = .ok (.ior, 1) := by decide +kernel
theorem dX1_markTogether_35 : decode cX1_markTogether 35 = .ok (.aload_n 0, 1) := by decide +kernel
theorem dX1_markTogether_36 : decode cX1_markTogether 36 = .ok (.getfield 15, 3) := by decide +kernel
theorem dX1_markTogether_39 : decode cX1_markTogether 39 = .ok (.iload_n 2, 1) := by decide +kernel
theorem dX1_markTogether_40 : decode cX1_markTogether 40 = .ok (.baload, 1) := by decide +kernel
theorem dX1_markTogether_41 : decode cX1_markTogether 41 = .ok (.ifCond .eq 19, 3) := by decide +kernel
theorem dX1_markTogether_44 : decode cX1_markTogether 44 = .ok (.aload_n 0, 1) := by decide +kernel
theorem dX1_markTogether_45 : decode cX1_markTogether 45 = .ok (.getfield 9, 3) := by decide +kernel
theorem dX1_markTogether_48 : decode cX1_markTogether 48 = .ok (.iload_n 1, 1) := by decide +kernel
theorem dX1_markTogether_49 : decode cX1_markTogether 49 = .ok (.iaload, 1) := by decide +kernel
theorem dX1_markTogether_50 : decode cX1_markTogether 50 = .ok (.iload_n 2, 1) := by decide +kernel
theorem dX1_markTogether_51 : decode cX1_markTogether 51 = .ok (.iand, 1) := by decide +kernel
theorem dX1_markTogether_52 : decode cX1_markTogether 52 = .ok (.iload_n 2, 1) := by decide +kernel
theorem dX1_markTogether_53 : decode cX1_markTogether 53 = .ok (.if_icmp .ne 7, 3) := by decide +kernel
theorem dX1_markTogether_56 : decode cX1_markTogether 56 = .ok (.iconst 1, 1) := by decide +kernel
theorem dX1_markTogether_57 : decode cX1_markTogether 57 = .ok (.goto 4, 3) := by decide +kernel
theorem dX1_markTogether_60 : decode cX1_markTogether 60 = .ok (.iconst 0, 1) := by decide +kernel
theorem dX1_markTogether_61 : decode cX1_markTogether 61 = .ok (.bastore, 1) := by decide +kernel
theorem dX1_markTogether_62 : decode cX1_markTogether 62 = .ok (.iinc 2 1, 3) := by decide +kernel
theorem dX1_markTogether_65 : decode cX1_markTogether 65 = .ok (.goto (-46), 3) := by decide +kernel
theorem dX1_markTogether_68 : decode cX1_markTogether 68 = .ok (.iinc 1 1, 3) := by decide +kernel
theorem dX1_markTogether_71 : decode cX1_markTogether 71 = .ok (.goto (-62), 3) := by decide +kernel
theorem dX1_markTogether_74 : decode cX1_markTogether 74 = .ok (.return_, 1) := by decide +kernel
theorem dX1_largest_0 : decode cX1_largest 0 = .ok (.aload_n 0, 1) := by decide +kernel
theorem dX1_largest_1 : decode cX1_largest 1 = .ok (.invokevirtual 32, 3) := by decide +kernel
theorem dX1_largest_4 : decode cX1_largest 4 = .ok (.iconst 0, 1) := by decide +kernel
theorem dX1_largest_5 : decode cX1_largest 5 = .ok (.istore_n 1, 1) := by decide +kernel
theorem dX1_largest_6 : decode cX1_largest 6 = .ok (.iconst 0, 1) := by decide +kernel
theorem dX1_largest_7 : decode cX1_largest 7 = .ok (.istore_n 2, 1) := by decide +kernel
theorem dX1_largest_8 : decode cX1_largest 8 = .ok (.iload_n 2, 1) := by decide +kernel
theorem dX1_largest_9 : decode cX1_largest 9 = .ok (.iconst 1, 1) := by decide +kernel
theorem dX1_largest_10 : decode cX1_largest 10 = .ok (.aload_n 0, 1) := by decide +kernel
theorem dX1_largest_11 : decode cX1_largest 11 = .ok (.getfield 22, 3) := by decide +kernel
theorem dX1_largest_14 : decode cX1_largest 14 = .ok (.ishl, 1) := by decide +kernel
theorem dX1_largest_15 : decode cX1_largest 15 = .ok (.if_icmp .ge 27, 3) := by decide +kernel
theorem dX1_largest_18 : decode cX1_largest 18 = .ok (.aload_n 0, 1) := by decide +kernel
theorem dX1_largest_19 : decode cX1_largest 19 = .ok (.getfield 15, 3) := by decide +kernel
theorem dX1_largest_22 : decode cX1_largest 22 = .ok (.iload_n 2, 1) := by decide +kernel
theorem dX1_largest_23 : decode cX1_largest 23 = .ok (.baload, 1) := by decide +kernel
theorem dX1_largest_24 : decode cX1_largest 24 = .ok (.ifCond .eq 12, 3) := by decide +kernel
theorem dX1_largest_27 : decode cX1_largest 27 = .ok (.iload_n 1, 1) := by decide +kernel
theorem dX1_largest_28 : decode cX1_largest 28 = .ok (.iload_n 2, 1) := by decide +kernel
theorem dX1_largest_29 : decode cX1_largest 29 = .ok (.invokestatic 35, 3) := by decide +kernel
theorem dX1_largest_32 : decode cX1_largest 32 = .ok (.invokestatic 41, 3) := by decide +kernel
theorem dX1_largest_35 : decode cX1_largest 35 = .ok (.istore_n 1, 1) := by decide +kernel
theorem dX1_largest_36 : decode cX1_largest 36 = .ok (.iinc 2 1, 3) := by decide +kernel
theorem dX1_largest_39 : decode cX1_largest 39 = .ok (.goto (-31), 3) := by decide +kernel
theorem dX1_largest_42 : decode cX1_largest 42 = .ok (.iload_n 1, 1) := by decide +kernel
theorem dX1_largest_43 : decode cX1_largest 43 = .ok (.ireturn, 1) := by decide +kernel
theorem dX1_fewest_0 : decode cX1_fewest 0 = .ok (.aload_n 0, 1) := by decide +kernel
theorem dX1_fewest_1 : decode cX1_fewest 1 = .ok (.invokevirtual 32, 3) := by decide +kernel
theorem dX1_fewest_4 : decode cX1_fewest 4 = .ok (.aload_n 0, 1) := by decide +kernel
theorem dX1_fewest_5 : decode cX1_fewest 5 = .ok (.getfield 19, 3) := by decide +kernel
theorem dX1_fewest_8 : decode cX1_fewest 8 = .ok (.iconst 0, 1) := by decide +kernel
theorem dX1_fewest_9 : decode cX1_fewest 9 = .ok (.iconst 0, 1) := by decide +kernel
theorem dX1_fewest_10 : decode cX1_fewest 10 = .ok (.iastore, 1) := by decide +kernel
theorem dX1_fewest_11 : decode cX1_fewest 11 = .ok (.iconst 0, 1) := by decide +kernel
theorem dX1_fewest_12 : decode cX1_fewest 12 = .ok (.istore_n 1, 1) := by decide +kernel
theorem dX1_fewest_13 : decode cX1_fewest 13 = .ok (.iload_n 1, 1) := by decide +kernel
theorem dX1_fewest_14 : decode cX1_fewest 14 = .ok (.aload_n 0, 1) := by decide +kernel
theorem dX1_fewest_15 : decode cX1_fewest 15 = .ok (.getfield 22, 3) := by decide +kernel
theorem dX1_fewest_18 : decode cX1_fewest 18 = .ok (.if_icmp .ge 42, 3) := by decide +kernel
theorem dX1_fewest_21 : decode cX1_fewest 21 = .ok (.iconst 0, 1) := by decide +kernel
theorem dX1_fewest_22 : decode cX1_fewest 22 = .ok (.istore_n 2, 1) := by decide +kernel
theorem dX1_fewest_23 : decode cX1_fewest 23 = .ok (.iload_n 2, 1) := by decide +kernel
theorem dX1_fewest_24 : decode cX1_fewest 24 = .ok (.iconst 1, 1) := by decide +kernel
theorem dX1_fewest_25 : decode cX1_fewest 25 = .ok (.iload_n 1, 1) := by decide +kernel
theorem dX1_fewest_26 : decode cX1_fewest 26 = .ok (.ishl, 1) := by decide +kernel
theorem dX1_fewest_27 : decode cX1_fewest 27 = .ok (.if_icmp .ge 27, 3) := by decide +kernel
theorem dX1_fewest_30 : decode cX1_fewest 30 = .ok (.aload_n 0, 1) := by decide +kernel
theorem dX1_fewest_31 : decode cX1_fewest 31 = .ok (.getfield 19, 3) := by decide +kernel
theorem dX1_fewest_34 : decode cX1_fewest 34 = .ok (.iconst 1, 1) := by decide +kernel
theorem dX1_fewest_35 : decode cX1_fewest 35 = .ok (.iload_n 1, 1) := by decide +kernel
theorem dX1_fewest_36 : decode cX1_fewest 36 = .ok (.ishl, 1) := by decide +kernel
theorem dX1_fewest_37 : decode cX1_fewest 37 = .ok (.iload_n 2, 1) := by decide +kernel
theorem dX1_fewest_38 : decode cX1_fewest 38 = .ok (.ior, 1) := by decide +kernel
theorem dX1_fewest_39 : decode cX1_fewest 39 = .ok (.aload_n 0, 1) := by decide +kernel
theorem dX1_fewest_40 : decode cX1_fewest 40 = .ok (.iconst 1, 1) := by decide +kernel
theorem dX1_fewest_41 : decode cX1_fewest 41 = .ok (.iload_n 1, 1) := by decide +kernel
theorem dX1_fewest_42 : decode cX1_fewest 42 = .ok (.ishl, 1) := by decide +kernel
theorem dX1_fewest_43 : decode cX1_fewest 43 = .ok (.iload_n 2, 1) := by decide +kernel
theorem dX1_fewest_44 : decode cX1_fewest 44 = .ok (.invokevirtual 47, 3) := by decide +kernel
theorem dX1_fewest_47 : decode cX1_fewest 47 = .ok (.iastore, 1) := by decide +kernel
theorem dX1_fewest_48 : decode cX1_fewest 48 = .ok (.iinc 2 1, 3) := by decide +kernel
theorem dX1_fewest_51 : decode cX1_fewest 51 = .ok (.goto (-28), 3) := by decide +kernel
theorem dX1_fewest_54 : decode cX1_fewest 54 = .ok (.iinc 1 1, 3) := by decide +kernel
theorem dX1_fewest_57 : decode cX1_fewest 57 = .ok (.goto (-44), 3) := by decide +kernel
theorem dX1_fewest_60 : decode cX1_fewest 60 = .ok (.aload_n 0, 1) := by decide +kernel
theorem dX1_fewest_61 : decode cX1_fewest 61 = .ok (.getfield 19, 3) := by decide +kernel
theorem dX1_fewest_64 : decode cX1_fewest 64 = .ok (.iconst 1, 1) := by decide +kernel
theorem dX1_fewest_65 : decode cX1_fewest 65 = .ok (.aload_n 0, 1) := by decide +kernel
theorem dX1_fewest_66 : decode cX1_fewest 66 = .ok (.getfield 22, 3) := by decide +kernel
theorem dX1_fewest_69 : decode cX1_fewest 69 = .ok (.ishl, 1) := by decide +kernel
theorem dX1_fewest_70 : decode cX1_fewest 70 = .ok (.iconst 1, 1) := by decide +kernel
theorem dX1_fewest_71 : decode cX1_fewest 71 = .ok (.isub, 1) := by decide +kernel
theorem dX1_fewest_72 : decode cX1_fewest 72 = .ok (.iaload, 1) := by decide +kernel
theorem dX1_fewest_73 : decode cX1_fewest 73 = .ok (.ireturn, 1) := by decide +kernel
theorem dX1_fewestParts_0 : decode cX1_fewestParts 0 = .ok (.iconst 1, 1) := by decide +kernel
theorem dX1_fewestParts_1 : decode cX1_fewestParts 1 = .ok (.aload_n 0, 1) := by decide +kernel
theorem dX1_fewestParts_2 : decode cX1_fewestParts 2 = .ok (.getfield 19, 3) := by decide +kernel
theorem dX1_fewestParts_5 : decode cX1_fewestParts 5 = .ok (.iload_n 2, 1) := by decide +kernel
theorem dX1_fewestParts_6 : decode cX1_fewestParts 6 = .ok (.iaload, 1) := by decide +kernel
theorem dX1_fewestParts_7 : decode cX1_fewestParts 7 = .ok (.iadd, 1) := by decide +kernel
theorem dX1_fewestParts_8 : decode cX1_fewestParts 8 = .ok (.istore_n 3, 1) := by decide +kernel
theorem dX1_fewestParts_9 : decode cX1_fewestParts 9 = .ok (.iload_n 2, 1) := by decide +kernel
theorem dX1_fewestParts_10 : decode cX1_fewestParts 10 = .ok (.istore 4, 2) := by decide +kernel
theorem dX1_fewestParts_12 : decode cX1_fewestParts 12 = .ok (.iload 4, 2) := by decide +kernel
theorem dX1_fewestParts_14 : decode cX1_fewestParts 14 = .ok (.ifCond .le 42, 3) := by decide +kernel
theorem dX1_fewestParts_17 : decode cX1_fewestParts 17 = .ok (.aload_n 0, 1) := by decide +kernel
theorem dX1_fewestParts_18 : decode cX1_fewestParts 18 = .ok (.getfield 15, 3) := by decide +kernel
theorem dX1_fewestParts_21 : decode cX1_fewestParts 21 = .ok (.iload_n 1, 1) := by decide +kernel
theorem dX1_fewestParts_22 : decode cX1_fewestParts 22 = .ok (.iload 4, 2) := by decide +kernel
theorem dX1_fewestParts_24 : decode cX1_fewestParts 24 = .ok (.ior, 1) := by decide +kernel
theorem dX1_fewestParts_25 : decode cX1_fewestParts 25 = .ok (.baload, 1) := by decide +kernel
theorem dX1_fewestParts_26 : decode cX1_fewestParts 26 = .ok (.ifCond .eq 19, 3) := by decide +kernel
theorem dX1_fewestParts_29 : decode cX1_fewestParts 29 = .ok (.iload_n 3, 1) := by decide +kernel
theorem dX1_fewestParts_30 : decode cX1_fewestParts 30 = .ok (.iconst 1, 1) := by decide +kernel
theorem dX1_fewestParts_31 : decode cX1_fewestParts 31 = .ok (.aload_n 0, 1) := by decide +kernel
theorem dX1_fewestParts_32 : decode cX1_fewestParts 32 = .ok (.getfield 19, 3) := by decide +kernel
theorem dX1_fewestParts_35 : decode cX1_fewestParts 35 = .ok (.iload_n 2, 1) := by decide +kernel
theorem dX1_fewestParts_36 : decode cX1_fewestParts 36 = .ok (.iload 4, 2) := by decide +kernel
theorem dX1_fewestParts_38 : decode cX1_fewestParts 38 = .ok (.ixor, 1) := by decide +kernel
theorem dX1_fewestParts_39 : decode cX1_fewestParts 39 = .ok (.iaload, 1) := by decide +kernel
theorem dX1_fewestParts_40 : decode cX1_fewestParts 40 = .ok (.iadd, 1) := by decide +kernel
theorem dX1_fewestParts_41 : decode cX1_fewestParts 41 = .ok (.invokestatic 50, 3) := by decide +kernel
theorem dX1_fewestParts_44 : decode cX1_fewestParts 44 = .ok (.istore_n 3, 1) := by decide +kernel
theorem dX1_fewestParts_45 : decode cX1_fewestParts 45 = .ok (.iload 4, 2) := by decide +kernel
theorem dX1_fewestParts_47 : decode cX1_fewestParts 47 = .ok (.iconst 1, 1) := by decide +kernel
theorem dX1_fewestParts_48 : decode cX1_fewestParts 48 = .ok (.isub, 1) := by decide +kernel
theorem dX1_fewestParts_49 : decode cX1_fewestParts 49 = .ok (.iload_n 2, 1) := by decide +kernel
theorem dX1_fewestParts_50 : decode cX1_fewestParts 50 = .ok (.iand, 1) := by decide +kernel
theorem dX1_fewestParts_51 : decode cX1_fewestParts 51 = .ok (.istore 4, 2) := by decide +kernel
theorem dX1_fewestParts_53 : decode cX1_fewestParts 53 = .ok (.goto (-41), 3) := by decide +kernel
theorem dX1_fewestParts_56 : decode cX1_fewestParts 56 = .ok (.iload_n 3, 1) := by decide +kernel
theorem dX1_fewestParts_57 : decode cX1_fewestParts 57 = .ok (.ireturn, 1) := by decide +kernel
theorem dX2_init_0 : decode cX2_init 0 = .ok (.aload_n 0, 1) := by decide +kernel
theorem dX2_init_1 : decode cX2_init 1 = .ok (.invokespecial 3, 3) := by decide +kernel
theorem dX2_init_4 : decode cX2_init 4 = .ok (.aload_n 0, 1) := by decide +kernel
theorem dX2_init_5 : decode cX2_init 5 = .ok (.bipush 10, 2) := by decide +kernel
theorem dX2_init_7 : decode cX2_init 7 = .ok (.newarray .int, 2) := by decide +kernel
theorem dX2_init_9 : decode cX2_init 9 = .ok (.putfield 9, 3) := by decide +kernel
theorem dX2_init_12 : decode cX2_init 12 = .ok (.aload_n 0, 1) := by decide +kernel
theorem dX2_init_13 : decode cX2_init 13 = .ok (.bipush 10, 2) := by decide +kernel
theorem dX2_init_15 : decode cX2_init 15 = .ok (.newarray .int, 2) := by decide +kernel
theorem dX2_init_17 : decode cX2_init 17 = .ok (.putfield 15, 3) := by decide +kernel
theorem dX2_init_20 : decode cX2_init 20 = .ok (.aload_n 0, 1) := by decide +kernel
theorem dX2_init_21 : decode cX2_init 21 = .ok (.bipush 40, 2) := by decide +kernel
theorem dX2_init_23 : decode cX2_init 23 = .ok (.newarray .int, 2) := by decide +kernel
theorem dX2_init_25 : decode cX2_init 25 = .ok (.putfield 18, 3) := by decide +kernel
theorem dX2_init_28 : decode cX2_init 28 = .ok (.return_, 1) := by decide +kernel
theorem dX2_has_0 : decode cX2_has 0 = .ok (.iload_n 1, 1) := by decide +kernel
theorem dX2_has_1 : decode cX2_has 1 = .ok (.iconst 0, 1) := by decide +kernel
theorem dX2_has_2 : decode cX2_has 2 = .ok (.aload_n 0, 1) := by decide +kernel
theorem dX2_has_3 : decode cX2_has 3 = .ok (.getfield 21, 3) := by decide +kernel
theorem dX2_has_6 : decode cX2_has 6 = .ok (.iconst 1, 1) := by decide +kernel
theorem dX2_has_7 : decode cX2_has 7 = .ok (.isub, 1) := by decide +kernel
theorem dX2_has_8 : decode cX2_has 8 = .ok (.invokestatic 25, 3) := by decide +kernel
theorem dX2_has_11 : decode cX2_has 11 = .ok (.ireturn, 1) := by decide +kernel
theorem dX2_append_0 : decode cX2_append 0 = .ok (.aload_n 0, 1) := by decide +kernel
theorem dX2_append_1 : decode cX2_append 1 = .ok (.getfield 21, 3) := by decide +kernel
theorem dX2_append_4 : decode cX2_append 4 = .ok (.istore_n 3, 1) := by decide +kernel
theorem dX2_append_5 : decode cX2_append 5 = .ok (.aload_n 0, 1) := by decide +kernel
theorem dX2_append_6 : decode cX2_append 6 = .ok (.getfield 9, 3) := by decide +kernel
theorem dX2_append_9 : decode cX2_append 9 = .ok (.iload_n 3, 1) := by decide +kernel
theorem dX2_append_10 : decode cX2_append 10 = .ok (.iload_n 1, 1) := by decide +kernel
theorem dX2_append_11 : decode cX2_append 11 = .ok (.iastore, 1) := by decide +kernel
theorem dX2_append_12 : decode cX2_append 12 = .ok (.aload_n 0, 1) := by decide +kernel
theorem dX2_append_13 : decode cX2_append 13 = .ok (.getfield 15, 3) := by decide +kernel
theorem dX2_append_16 : decode cX2_append 16 = .ok (.iload_n 3, 1) := by decide +kernel
theorem dX2_append_17 : decode cX2_append 17 = .ok (.iload_n 2, 1) := by decide +kernel
theorem dX2_append_18 : decode cX2_append 18 = .ok (.iastore, 1) := by decide +kernel
theorem dX2_append_19 : decode cX2_append 19 = .ok (.aload_n 0, 1) := by decide +kernel
theorem dX2_append_20 : decode cX2_append 20 = .ok (.dup, 1) := by decide +kernel
theorem dX2_append_21 : decode cX2_append 21 = .ok (.getfield 21, 3) := by decide +kernel
theorem dX2_append_24 : decode cX2_append 24 = .ok (.iconst 1, 1) := by decide +kernel
theorem dX2_append_25 : decode cX2_append 25 = .ok (.iadd, 1) := by decide +kernel
theorem dX2_append_26 : decode cX2_append 26 = .ok (.putfield 21, 3) := by decide +kernel
theorem dX2_append_29 : decode cX2_append 29 = .ok (.iload_n 3, 1) := by decide +kernel
theorem dX2_append_30 : decode cX2_append 30 = .ok (.ireturn, 1) := by decide +kernel
theorem dX2_setPlate_0 : decode cX2_setPlate 0 = .ok (.iload_n 2, 1) := by decide +kernel
theorem dX2_setPlate_1 : decode cX2_setPlate 1 = .ok (.istore_n 3, 1) := by decide +kernel
theorem dX2_setPlate_2 : decode cX2_setPlate 2 = .ok (.iconst 3, 1) := by decide +kernel
theorem dX2_setPlate_3 : decode cX2_setPlate 3 = .ok (.istore 4, 2) := by decide +kernel
theorem dX2_setPlate_5 : decode cX2_setPlate 5 = .ok (.iload 4, 2) := by decide +kernel
theorem dX2_setPlate_7 : decode cX2_setPlate 7 = .ok (.ifCond .lt 29, 3) := by decide +kernel
theorem dX2_setPlate_10 : decode cX2_setPlate 10 = .ok (.aload_n 0, 1) := by decide +kernel
theorem dX2_setPlate_11 : decode cX2_setPlate 11 = .ok (.getfield 18, 3) := by decide +kernel
theorem dX2_setPlate_14 : decode cX2_setPlate 14 = .ok (.iload_n 1, 1) := by decide +kernel
theorem dX2_setPlate_15 : decode cX2_setPlate 15 = .ok (.iconst 4, 1) := by decide +kernel
theorem dX2_setPlate_16 : decode cX2_setPlate 16 = .ok (.imul, 1) := by decide +kernel
theorem dX2_setPlate_17 : decode cX2_setPlate 17 = .ok (.iload 4, 2) := by decide +kernel
theorem dX2_setPlate_19 : decode cX2_setPlate 19 = .ok (.iadd, 1) := by decide +kernel
theorem dX2_setPlate_20 : decode cX2_setPlate 20 = .ok (.iload_n 3, 1) := by decide +kernel
theorem dX2_setPlate_21 : decode cX2_setPlate 21 = .ok (.bipush 17, 2) := by decide +kernel
theorem dX2_setPlate_23 : decode cX2_setPlate 23 = .ok (.irem, 1) := by decide +kernel
theorem dX2_setPlate_24 : decode cX2_setPlate 24 = .ok (.iastore, 1) := by decide +kernel
theorem dX2_setPlate_25 : decode cX2_setPlate 25 = .ok (.iload_n 3, 1) := by decide +kernel
theorem dX2_setPlate_26 : decode cX2_setPlate 26 = .ok (.bipush 17, 2) := by decide +kernel
theorem dX2_setPlate_28 : decode cX2_setPlate 28 = .ok (.idiv, 1) := by decide +kernel
theorem dX2_setPlate_29 : decode cX2_setPlate 29 = .ok (.istore_n 3, 1) := by decide +kernel
theorem dX2_setPlate_30 : decode cX2_setPlate 30 = .ok (.iinc 4 (-1), 3) := by decide +kernel
theorem dX2_setPlate_33 : decode cX2_setPlate 33 = .ok (.goto (-28), 3) := by decide +kernel
theorem dX2_setPlate_36 : decode cX2_setPlate 36 = .ok (.return_, 1) := by decide +kernel
theorem dX2_plateOf_0 : decode cX2_plateOf 0 = .ok (.iconst 0, 1) := by decide +kernel
theorem dX2_plateOf_1 : decode cX2_plateOf 1 = .ok (.istore_n 2, 1) := by decide +kernel
theorem dX2_plateOf_2 : decode cX2_plateOf 2 = .ok (.iconst 0, 1) := by decide +kernel
theorem dX2_plateOf_3 : decode cX2_plateOf 3 = .ok (.istore_n 3, 1) := by decide +kernel
theorem dX2_plateOf_4 : decode cX2_plateOf 4 = .ok (.iload_n 3, 1) := by decide +kernel
theorem dX2_plateOf_5 : decode cX2_plateOf 5 = .ok (.iconst 4, 1) := by decide +kernel
theorem dX2_plateOf_6 : decode cX2_plateOf 6 = .ok (.if_icmp .ge 25, 3) := by decide +kernel
theorem dX2_plateOf_9 : decode cX2_plateOf 9 = .ok (.iload_n 2, 1) := by decide +kernel
theorem dX2_plateOf_10 : decode cX2_plateOf 10 = .ok (.bipush 17, 2) := by decide +kernel
theorem dX2_plateOf_12 : decode cX2_plateOf 12 = .ok (.imul, 1) := by decide +kernel
theorem dX2_plateOf_13 : decode cX2_plateOf 13 = .ok (.aload_n 0, 1) := by decide +kernel
theorem dX2_plateOf_14 : decode cX2_plateOf 14 = .ok (.getfield 18, 3) := by decide +kernel
theorem dX2_plateOf_17 : decode cX2_plateOf 17 = .ok (.iload_n 1, 1) := by decide +kernel
theorem dX2_plateOf_18 : decode cX2_plateOf 18 = .ok (.iconst 4, 1) := by decide +kernel
theorem dX2_plateOf_19 : decode cX2_plateOf 19 = .ok (.imul, 1) := by decide +kernel
theorem dX2_plateOf_20 : decode cX2_plateOf 20 = .ok (.iload_n 3, 1) := by decide +kernel
theorem dX2_plateOf_21 : decode cX2_plateOf 21 = .ok (.iadd, 1) := by decide +kernel
theorem dX2_plateOf_22 : decode cX2_plateOf 22 = .ok (.iaload, 1) := by decide +kernel
theorem dX2_plateOf_23 : decode cX2_plateOf 23 = .ok (.iadd, 1) := by decide +kernel
theorem dX2_plateOf_24 : decode cX2_plateOf 24 = .ok (.istore_n 2, 1) := by decide +kernel
theorem dX2_plateOf_25 : decode cX2_plateOf 25 = .ok (.iinc 3 1, 3) := by decide +kernel
theorem dX2_plateOf_28 : decode cX2_plateOf 28 = .ok (.goto (-24), 3) := by decide +kernel
theorem dX2_plateOf_31 : decode cX2_plateOf 31 = .ok (.iload_n 2, 1) := by decide +kernel
theorem dX2_plateOf_32 : decode cX2_plateOf 32 = .ok (.ireturn, 1) := by decide +kernel
theorem dX2_remove_0 : decode cX2_remove 0 = .ok (.aload_n 0, 1) := by decide +kernel
theorem dX2_remove_1 : decode cX2_remove 1 = .ok (.getfield 21, 3) := by decide +kernel
theorem dX2_remove_4 : decode cX2_remove 4 = .ok (.iload_n 1, 1) := by decide +kernel
theorem dX2_remove_5 : decode cX2_remove 5 = .ok (.isub, 1) := by decide +kernel
theorem dX2_remove_6 : decode cX2_remove 6 = .ok (.iconst 1, 1) := by decide +kernel
theorem dX2_remove_7 : decode cX2_remove 7 = .ok (.isub, 1) := by decide +kernel
theorem dX2_remove_8 : decode cX2_remove 8 = .ok (.istore_n 2, 1) := by decide +kernel
theorem dX2_remove_9 : decode cX2_remove 9 = .ok (.aload_n 0, 1) := by decide +kernel
theorem dX2_remove_10 : decode cX2_remove 10 = .ok (.getfield 9, 3) := by decide +kernel
theorem dX2_remove_13 : decode cX2_remove 13 = .ok (.iload_n 1, 1) := by decide +kernel
theorem dX2_remove_14 : decode cX2_remove 14 = .ok (.iconst 1, 1) := by decide +kernel
theorem dX2_remove_15 : decode cX2_remove 15 = .ok (.iadd, 1) := by decide +kernel
theorem dX2_remove_16 : decode cX2_remove 16 = .ok (.aload_n 0, 1) := by decide +kernel
theorem dX2_remove_17 : decode cX2_remove 17 = .ok (.getfield 9, 3) := by decide +kernel
theorem dX2_remove_20 : decode cX2_remove 20 = .ok (.iload_n 1, 1) := by decide +kernel
theorem dX2_remove_21 : decode cX2_remove 21 = .ok (.iload_n 2, 1) := by decide +kernel
theorem dX2_remove_22 : decode cX2_remove 22 = .ok (.invokestatic 29, 3) := by decide +kernel
theorem dX2_remove_25 : decode cX2_remove 25 = .ok (.aload_n 0, 1) := by decide +kernel
theorem dX2_remove_26 : decode cX2_remove 26 = .ok (.getfield 15, 3) := by decide +kernel
theorem dX2_remove_29 : decode cX2_remove 29 = .ok (.iload_n 1, 1) := by decide +kernel
theorem dX2_remove_30 : decode cX2_remove 30 = .ok (.iconst 1, 1) := by decide +kernel
theorem dX2_remove_31 : decode cX2_remove 31 = .ok (.iadd, 1) := by decide +kernel
theorem dX2_remove_32 : decode cX2_remove 32 = .ok (.aload_n 0, 1) := by decide +kernel
theorem dX2_remove_33 : decode cX2_remove 33 = .ok (.getfield 15, 3) := by decide +kernel
theorem dX2_remove_36 : decode cX2_remove 36 = .ok (.iload_n 1, 1) := by decide +kernel
theorem dX2_remove_37 : decode cX2_remove 37 = .ok (.iload_n 2, 1) := by decide +kernel
theorem dX2_remove_38 : decode cX2_remove 38 = .ok (.invokestatic 29, 3) := by decide +kernel
theorem dX2_remove_41 : decode cX2_remove 41 = .ok (.aload_n 0, 1) := by decide +kernel
theorem dX2_remove_42 : decode cX2_remove 42 = .ok (.getfield 18, 3) := by decide +kernel
theorem dX2_remove_45 : decode cX2_remove 45 = .ok (.iload_n 1, 1) := by decide +kernel
theorem dX2_remove_46 : decode cX2_remove 46 = .ok (.iconst 1, 1) := by decide +kernel
theorem dX2_remove_47 : decode cX2_remove 47 = .ok (.iadd, 1) := by decide +kernel
theorem dX2_remove_48 : decode cX2_remove 48 = .ok (.iconst 4, 1) := by decide +kernel
theorem dX2_remove_49 : decode cX2_remove 49 = .ok (.imul, 1) := by decide +kernel
theorem dX2_remove_50 : decode cX2_remove 50 = .ok (.aload_n 0, 1) := by decide +kernel
theorem dX2_remove_51 : decode cX2_remove 51 = .ok (.getfield 18, 3) := by decide +kernel
theorem dX2_remove_54 : decode cX2_remove 54 = .ok (.iload_n 1, 1) := by decide +kernel
theorem dX2_remove_55 : decode cX2_remove 55 = .ok (.iconst 4, 1) := by decide +kernel
theorem dX2_remove_56 : decode cX2_remove 56 = .ok (.imul, 1) := by decide +kernel
theorem dX2_remove_57 : decode cX2_remove 57 = .ok (.iload_n 2, 1) := by decide +kernel
theorem dX2_remove_58 : decode cX2_remove 58 = .ok (.iconst 4, 1) := by decide +kernel
theorem dX2_remove_59 : decode cX2_remove 59 = .ok (.imul, 1) := by decide +kernel
theorem dX2_remove_60 : decode cX2_remove 60 = .ok (.invokestatic 29, 3) := by decide +kernel
theorem dX2_remove_63 : decode cX2_remove 63 = .ok (.aload_n 0, 1) := by decide +kernel
theorem dX2_remove_64 : decode cX2_remove 64 = .ok (.dup, 1) := by decide +kernel
theorem dX2_remove_65 : decode cX2_remove 65 = .ok (.getfield 21, 3) := by decide +kernel
theorem dX2_remove_68 : decode cX2_remove 68 = .ok (.iconst 1, 1) := by decide +kernel
theorem dX2_remove_69 : decode cX2_remove 69 = .ok (.isub, 1) := by decide +kernel
theorem dX2_remove_70 : decode cX2_remove 70 = .ok (.putfield 21, 3) := by decide +kernel
theorem dX2_remove_73 : decode cX2_remove 73 = .ok (.return_, 1) := by decide +kernel
theorem dX2_copyFrom_0 : decode cX2_copyFrom 0 = .ok (.aload_n 0, 1) := by decide +kernel
theorem dX2_copyFrom_1 : decode cX2_copyFrom 1 = .ok (.aload_n 1, 1) := by decide +kernel
theorem dX2_copyFrom_2 : decode cX2_copyFrom 2 = .ok (.getfield 21, 3) := by decide +kernel
theorem dX2_copyFrom_5 : decode cX2_copyFrom 5 = .ok (.putfield 21, 3) := by decide +kernel
theorem dX2_copyFrom_8 : decode cX2_copyFrom 8 = .ok (.aload_n 1, 1) := by decide +kernel
theorem dX2_copyFrom_9 : decode cX2_copyFrom 9 = .ok (.getfield 9, 3) := by decide +kernel
theorem dX2_copyFrom_12 : decode cX2_copyFrom 12 = .ok (.iconst 0, 1) := by decide +kernel
theorem dX2_copyFrom_13 : decode cX2_copyFrom 13 = .ok (.aload_n 0, 1) := by decide +kernel
theorem dX2_copyFrom_14 : decode cX2_copyFrom 14 = .ok (.getfield 9, 3) := by decide +kernel
theorem dX2_copyFrom_17 : decode cX2_copyFrom 17 = .ok (.iconst 0, 1) := by decide +kernel
theorem dX2_copyFrom_18 : decode cX2_copyFrom 18 = .ok (.bipush 10, 2) := by decide +kernel
theorem dX2_copyFrom_20 : decode cX2_copyFrom 20 = .ok (.invokestatic 29, 3) := by decide +kernel
theorem dX2_copyFrom_23 : decode cX2_copyFrom 23 = .ok (.aload_n 1, 1) := by decide +kernel
theorem dX2_copyFrom_24 : decode cX2_copyFrom 24 = .ok (.getfield 15, 3) := by decide +kernel
theorem dX2_copyFrom_27 : decode cX2_copyFrom 27 = .ok (.iconst 0, 1) := by decide +kernel
theorem dX2_copyFrom_28 : decode cX2_copyFrom 28 = .ok (.aload_n 0, 1) := by decide +kernel
theorem dX2_copyFrom_29 : decode cX2_copyFrom 29 = .ok (.getfield 15, 3) := by decide +kernel
theorem dX2_copyFrom_32 : decode cX2_copyFrom 32 = .ok (.iconst 0, 1) := by decide +kernel
theorem dX2_copyFrom_33 : decode cX2_copyFrom 33 = .ok (.bipush 10, 2) := by decide +kernel
theorem dX2_copyFrom_35 : decode cX2_copyFrom 35 = .ok (.invokestatic 29, 3) := by decide +kernel
theorem dX2_copyFrom_38 : decode cX2_copyFrom 38 = .ok (.aload_n 1, 1) := by decide +kernel
theorem dX2_copyFrom_39 : decode cX2_copyFrom 39 = .ok (.getfield 18, 3) := by decide +kernel
theorem dX2_copyFrom_42 : decode cX2_copyFrom 42 = .ok (.iconst 0, 1) := by decide +kernel
theorem dX2_copyFrom_43 : decode cX2_copyFrom 43 = .ok (.aload_n 0, 1) := by decide +kernel
theorem dX2_copyFrom_44 : decode cX2_copyFrom 44 = .ok (.getfield 18, 3) := by decide +kernel
theorem dX2_copyFrom_47 : decode cX2_copyFrom 47 = .ok (.iconst 0, 1) := by decide +kernel
theorem dX2_copyFrom_48 : decode cX2_copyFrom 48 = .ok (.bipush 40, 2) := by decide +kernel
theorem dX2_copyFrom_50 : decode cX2_copyFrom 50 = .ok (.invokestatic 29, 3) := by decide +kernel
theorem dX2_copyFrom_53 : decode cX2_copyFrom 53 = .ok (.return_, 1) := by decide +kernel
theorem dX2_mayBeOneCar_0 : decode cX2_mayBeOneCar 0 = .ok (.aload_n 0, 1) := by decide +kernel
theorem dX2_mayBeOneCar_1 : decode cX2_mayBeOneCar 1 = .ok (.getfield 15, 3) := by decide +kernel
theorem dX2_mayBeOneCar_4 : decode cX2_mayBeOneCar 4 = .ok (.iload_n 1, 1) := by decide +kernel
theorem dX2_mayBeOneCar_5 : decode cX2_mayBeOneCar 5 = .ok (.iaload, 1) := by decide +kernel
theorem dX2_mayBeOneCar_6 : decode cX2_mayBeOneCar 6 = .ok (.aload_n 0, 1) := by decide +kernel
theorem dX2_mayBeOneCar_7 : decode cX2_mayBeOneCar 7 = .ok (.getfield 15, 3) := by decide +kernel
theorem dX2_mayBeOneCar_10 : decode cX2_mayBeOneCar 10 = .ok (.iload_n 2, 1) := by decide +kernel
theorem dX2_mayBeOneCar_11 : decode cX2_mayBeOneCar 11 = .ok (.iaload, 1) := by decide +kernel
theorem dX2_mayBeOneCar_12 : decode cX2_mayBeOneCar 12 = .ok (.invokestatic 35, 3) := by decide +kernel
theorem dX2_mayBeOneCar_15 : decode cX2_mayBeOneCar 15 = .ok (.ifCond .eq 5, 3) := by decide +kernel
theorem dX2_mayBeOneCar_18 : decode cX2_mayBeOneCar 18 = .ok (.iconst 0, 1) := by decide +kernel
theorem dX2_mayBeOneCar_19 : decode cX2_mayBeOneCar 19 = .ok (.ireturn, 1) := by decide +kernel
theorem dX2_mayBeOneCar_20 : decode cX2_mayBeOneCar 20 = .ok (.iconst 0, 1) := by decide +kernel
theorem dX2_mayBeOneCar_21 : decode cX2_mayBeOneCar 21 = .ok (.istore_n 3, 1) := by decide +kernel
theorem dX2_mayBeOneCar_22 : decode cX2_mayBeOneCar 22 = .ok (.iload_n 3, 1) := by decide +kernel
theorem dX2_mayBeOneCar_23 : decode cX2_mayBeOneCar 23 = .ok (.iconst 4, 1) := by decide +kernel
theorem dX2_mayBeOneCar_24 : decode cX2_mayBeOneCar 24 = .ok (.if_icmp .ge 80, 3) := by decide +kernel
theorem dX2_mayBeOneCar_27 : decode cX2_mayBeOneCar 27 = .ok (.aload_n 0, 1) := by decide +kernel
theorem dX2_mayBeOneCar_28 : decode cX2_mayBeOneCar 28 = .ok (.getfield 18, 3) := by decide +kernel
theorem dX2_mayBeOneCar_31 : decode cX2_mayBeOneCar 31 = .ok (.iload_n 1, 1) := by decide +kernel
theorem dX2_mayBeOneCar_32 : decode cX2_mayBeOneCar 32 = .ok (.iconst 4, 1) := by decide +kernel
theorem dX2_mayBeOneCar_33 : decode cX2_mayBeOneCar 33 = .ok (.imul, 1) := by decide +kernel
theorem dX2_mayBeOneCar_34 : decode cX2_mayBeOneCar 34 = .ok (.iload_n 3, 1) := by decide +kernel
theorem dX2_mayBeOneCar_35 : decode cX2_mayBeOneCar 35 = .ok (.iadd, 1) := by decide +kernel
theorem dX2_mayBeOneCar_36 : decode cX2_mayBeOneCar 36 = .ok (.iaload, 1) := by decide +kernel
theorem dX2_mayBeOneCar_37 : decode cX2_mayBeOneCar 37 = .ok (.istore 4, 2) := by decide +kernel
theorem dX2_mayBeOneCar_39 : decode cX2_mayBeOneCar 39 = .ok (.aload_n 0, 1) := by decide +kernel
theorem dX2_mayBeOneCar_40 : decode cX2_mayBeOneCar 40 = .ok (.getfield 18, 3) := by decide +kernel
theorem dX2_mayBeOneCar_43 : decode cX2_mayBeOneCar 43 = .ok (.iload_n 2, 1) := by decide +kernel
theorem dX2_mayBeOneCar_44 : decode cX2_mayBeOneCar 44 = .ok (.iconst 4, 1) := by decide +kernel
theorem dX2_mayBeOneCar_45 : decode cX2_mayBeOneCar 45 = .ok (.imul, 1) := by decide +kernel
theorem dX2_mayBeOneCar_46 : decode cX2_mayBeOneCar 46 = .ok (.iload_n 3, 1) := by decide +kernel
theorem dX2_mayBeOneCar_47 : decode cX2_mayBeOneCar 47 = .ok (.iadd, 1) := by decide +kernel
theorem dX2_mayBeOneCar_48 : decode cX2_mayBeOneCar 48 = .ok (.iaload, 1) := by decide +kernel
theorem dX2_mayBeOneCar_49 : decode cX2_mayBeOneCar 49 = .ok (.istore 5, 2) := by decide +kernel
theorem dX2_mayBeOneCar_51 : decode cX2_mayBeOneCar 51 = .ok (.iload 4, 2) := by decide +kernel
theorem dX2_mayBeOneCar_53 : decode cX2_mayBeOneCar 53 = .ok (.ifCond .eq 24, 3) := by decide +kernel
theorem dX2_mayBeOneCar_56 : decode cX2_mayBeOneCar 56 = .ok (.iload 5, 2) := by decide +kernel
theorem dX2_mayBeOneCar_58 : decode cX2_mayBeOneCar 58 = .ok (.ifCond .eq 19, 3) := by decide +kernel
theorem dX2_mayBeOneCar_61 : decode cX2_mayBeOneCar 61 = .ok (.iload 4, 2) := by decide +kernel
theorem dX2_mayBeOneCar_63 : decode cX2_mayBeOneCar 63 = .ok (.invokestatic 39, 3) := by decide +kernel
theorem dX2_mayBeOneCar_66 : decode cX2_mayBeOneCar 66 = .ok (.ifCond .ne 11, 3) := by decide +kernel
theorem dX2_mayBeOneCar_69 : decode cX2_mayBeOneCar 69 = .ok (.iload 5, 2) := by decide +kernel
theorem dX2_mayBeOneCar_71 : decode cX2_mayBeOneCar 71 = .ok (.invokestatic 39, 3) := by decide +kernel
theorem dX2_mayBeOneCar_74 : decode cX2_mayBeOneCar 74 = .ok (.ifCond .eq 7, 3) := by decide +kernel
theorem dX2_mayBeOneCar_77 : decode cX2_mayBeOneCar 77 = .ok (.iconst 1, 1) := by decide +kernel
theorem dX2_mayBeOneCar_78 : decode cX2_mayBeOneCar 78 = .ok (.goto 4, 3) := by decide +kernel
theorem dX2_mayBeOneCar_81 : decode cX2_mayBeOneCar 81 = .ok (.iconst 0, 1) := by decide +kernel
theorem dX2_mayBeOneCar_82 : decode cX2_mayBeOneCar 82 = .ok (.istore 6, 2) := by decide +kernel
theorem dX2_mayBeOneCar_84 : decode cX2_mayBeOneCar 84 = .ok (.iload 6, 2) := by decide +kernel
theorem dX2_mayBeOneCar_86 : decode cX2_mayBeOneCar 86 = .ok (.ifCond .ne 12, 3) := by decide +kernel
theorem dX2_mayBeOneCar_89 : decode cX2_mayBeOneCar 89 = .ok (.iload 4, 2) := by decide +kernel
theorem dX2_mayBeOneCar_91 : decode cX2_mayBeOneCar 91 = .ok (.iload 5, 2) := by decide +kernel
theorem dX2_mayBeOneCar_93 : decode cX2_mayBeOneCar 93 = .ok (.if_icmp .eq 5, 3) := by decide +kernel
theorem dX2_mayBeOneCar_96 : decode cX2_mayBeOneCar 96 = .ok (.iconst 0, 1) := by decide +kernel
theorem dX2_mayBeOneCar_97 : decode cX2_mayBeOneCar 97 = .ok (.ireturn, 1) := by decide +kernel
theorem dX2_mayBeOneCar_98 : decode cX2_mayBeOneCar 98 = .ok (.iinc 3 1, 3) := by decide +kernel
theorem dX2_mayBeOneCar_101 : decode cX2_mayBeOneCar 101 = .ok (.goto (-79), 3) := by decide +kernel
theorem dX2_mayBeOneCar_104 : decode cX2_mayBeOneCar 104 = .ok (.iconst 1, 1) := by decide +kernel
theorem dX2_mayBeOneCar_105 : decode cX2_mayBeOneCar 105 = .ok (.ireturn, 1) := by decide +kernel
theorem dX2_areUnlikeColours_0 : decode cX2_areUnlikeColours 0 = .ok (.iload_n 0, 1) := by decide +kernel
theorem dX2_areUnlikeColours_1 : decode cX2_areUnlikeColours 1 = .ok (.ifCond .eq 16, 3) := by decide +kernel
theorem dX2_areUnlikeColours_4 : decode cX2_areUnlikeColours 4 = .ok (.iload_n 1, 1) := by decide +kernel
theorem dX2_areUnlikeColours_5 : decode cX2_areUnlikeColours 5 = .ok (.ifCond .eq 12, 3) := by decide +kernel
theorem dX2_areUnlikeColours_8 : decode cX2_areUnlikeColours 8 = .ok (.iload_n 0, 1) := by decide +kernel
theorem dX2_areUnlikeColours_9 : decode cX2_areUnlikeColours 9 = .ok (.iload_n 1, 1) := by decide +kernel
theorem dX2_areUnlikeColours_10 : decode cX2_areUnlikeColours 10 = .ok (.if_icmp .eq 7, 3) := by decide +kernel
theorem dX2_areUnlikeColours_13 : decode cX2_areUnlikeColours 13 = .ok (.iconst 1, 1) := by decide +kernel
theorem dX2_areUnlikeColours_14 : decode cX2_areUnlikeColours 14 = .ok (.goto 4, 3) := by decide +kernel
theorem dX2_areUnlikeColours_17 : decode cX2_areUnlikeColours 17 = .ok (.iconst 0, 1) := by decide +kernel
theorem dX2_areUnlikeColours_18 : decode cX2_areUnlikeColours 18 = .ok (.ireturn, 1) := by decide +kernel
theorem dX2_isDoubtful_0 : decode cX2_isDoubtful 0 = .ok (.iload_n 0, 1) := by decide +kernel
theorem dX2_isDoubtful_1 : decode cX2_isDoubtful 1 = .ok (.bipush 8, 2) := by decide +kernel
theorem dX2_isDoubtful_3 : decode cX2_isDoubtful 3 = .ok (.if_icmp .le 7, 3) := by decide +kernel
theorem dX2_isDoubtful_6 : decode cX2_isDoubtful 6 = .ok (.iconst 1, 1) := by decide +kernel
theorem dX2_isDoubtful_7 : decode cX2_isDoubtful 7 = .ok (.goto 4, 3) := by decide +kernel
theorem dX2_isDoubtful_10 : decode cX2_isDoubtful 10 = .ok (.iconst 0, 1) := by decide +kernel
theorem dX2_isDoubtful_11 : decode cX2_isDoubtful 11 = .ok (.ireturn, 1) := by decide +kernel
theorem dX2_letterOf_0 : decode cX2_letterOf 0 = .ok (.iload_n 0, 1) := by decide +kernel
theorem dX2_letterOf_1 : decode cX2_letterOf 1 = .ok (.iconst 1, 1) := by decide +kernel
theorem dX2_letterOf_2 : decode cX2_letterOf 2 = .ok (.isub, 1) := by decide +kernel
theorem dX2_letterOf_3 : decode cX2_letterOf 3 = .ok (.bipush 8, 2) := by decide +kernel
theorem dX2_letterOf_5 : decode cX2_letterOf 5 = .ok (.irem, 1) := by decide +kernel
theorem dX2_letterOf_6 : decode cX2_letterOf 6 = .ok (.ireturn, 1) := by decide +kernel
theorem dX3_init_0 : decode cX3_init 0 = .ok (.aload_n 0, 1) := by decide +kernel
theorem dX3_init_1 : decode cX3_init 1 = .ok (.invokespecial 3, 3) := by decide +kernel
theorem dX3_init_4 : decode cX3_init 4 = .ok (.aload_n 0, 1) := by decide +kernel
theorem dX3_init_5 : decode cX3_init 5 = .ok (.bipush 100, 2) := by decide +kernel
theorem dX3_init_7 : decode cX3_init 7 = .ok (.newarray .long, 2) := by decide +kernel
theorem dX3_init_9 : decode cX3_init 9 = .ok (.putfield 9, 3) := by decide +kernel
theorem dX3_init_12 : decode cX3_init 12 = .ok (.aload_n 0, 1) := by decide +kernel
theorem dX3_init_13 : decode cX3_init 13 = .ok (.bipush 11, 2) := by decide +kernel
theorem dX3_init_15 : decode cX3_init 15 = .ok (.newarray .long, 2) := by decide +kernel
theorem dX3_init_17 : decode cX3_init 17 = .ok (.putfield 15, 3) := by decide +kernel
theorem dX3_init_20 : decode cX3_init 20 = .ok (.aload_n 0, 1) := by decide +kernel
theorem dX3_init_21 : decode cX3_init 21 = .ok (.bipush 11, 2) := by decide +kernel
theorem dX3_init_23 : decode cX3_init 23 = .ok (.newarray .long, 2) := by decide +kernel
theorem dX3_init_25 : decode cX3_init 25 = .ok (.putfield 18, 3) := by decide +kernel
theorem dX3_init_28 : decode cX3_init 28 = .ok (.aload_n 0, 1) := by decide +kernel
theorem dX3_init_29 : decode cX3_init 29 = .ok (.bipush 11, 2) := by decide +kernel
theorem dX3_init_31 : decode cX3_init 31 = .ok (.newarray .long, 2) := by decide +kernel
theorem dX3_init_33 : decode cX3_init 33 = .ok (.putfield 21, 3) := by decide +kernel
theorem dX3_init_36 : decode cX3_init 36 = .ok (.aload_n 0, 1) := by decide +kernel
theorem dX3_init_37 : decode cX3_init 37 = .ok (.bipush 11, 2) := by decide +kernel
theorem dX3_init_39 : decode cX3_init 39 = .ok (.newarray .int, 2) := by decide +kernel
theorem dX3_init_41 : decode cX3_init 41 = .ok (.putfield 24, 3) := by decide +kernel
theorem dX3_init_44 : decode cX3_init 44 = .ok (.aload_n 0, 1) := by decide +kernel
theorem dX3_init_45 : decode cX3_init 45 = .ok (.bipush 11, 2) := by decide +kernel
theorem dX3_init_47 : decode cX3_init 47 = .ok (.newarray .int, 2) := by decide +kernel
theorem dX3_init_49 : decode cX3_init 49 = .ok (.putfield 28, 3) := by decide +kernel
theorem dX3_init_52 : decode cX3_init 52 = .ok (.return_, 1) := by decide +kernel
theorem dX3_clear_0 : decode cX3_clear 0 = .ok (.aload_n 0, 1) := by decide +kernel
theorem dX3_clear_1 : decode cX3_clear 1 = .ok (.getfield 9, 3) := by decide +kernel
theorem dX3_clear_4 : decode cX3_clear 4 = .ok (.lconst 0, 1) := by decide +kernel
theorem dX3_clear_5 : decode cX3_clear 5 = .ok (.invokestatic 31, 3) := by decide +kernel
theorem dX3_clear_8 : decode cX3_clear 8 = .ok (.return_, 1) := by decide +kernel
theorem dX3_setWeight_0 : decode cX3_setWeight 0 = .ok (.aload_n 0, 1) := by decide +kernel
theorem dX3_setWeight_1 : decode cX3_setWeight 1 = .ok (.getfield 9, 3) := by decide +kernel
theorem dX3_setWeight_4 : decode cX3_setWeight 4 = .ok (.iload_n 1, 1) := by decide +kernel
theorem dX3_setWeight_5 : decode cX3_setWeight 5 = .ok (.bipush 10, 2) := by decide +kernel
theorem dX3_setWeight_7 : decode cX3_setWeight 7 = .ok (.imul, 1) := by decide +kernel
theorem dX3_setWeight_8 : decode cX3_setWeight 8 = .ok (.iload_n 2, 1) := by decide +kernel
theorem dX3_setWeight_9 : decode cX3_setWeight 9 = .ok (.iadd, 1) := by decide +kernel
theorem dX3_setWeight_10 : decode cX3_setWeight 10 = .ok (.lconst 0, 1) := by decide +kernel
theorem dX3_setWeight_11 : decode cX3_setWeight 11 = .ok (.lload_n 3, 1) := by decide +kernel
theorem dX3_setWeight_12 : decode cX3_setWeight 12 = .ok (.invokestatic 37, 3) := by decide +kernel
theorem dX3_setWeight_15 : decode cX3_setWeight 15 = .ok (.lastore, 1) := by decide +kernel
theorem dX3_setWeight_16 : decode cX3_setWeight 16 = .ok (.return_, 1) := by decide +kernel
theorem dX3_settle_0 : decode cX3_settle 0 = .ok (.aload_n 0, 1) := by decide +kernel
theorem dX3_settle_1 : decode cX3_settle 1 = .ok (.iload_n 1, 1) := by decide +kernel
theorem dX3_settle_2 : decode cX3_settle 2 = .ok (.iload_n 2, 1) := by decide +kernel
theorem dX3_settle_3 : decode cX3_settle 3 = .ok (.invokestatic 43, 3) := by decide +kernel
theorem dX3_settle_6 : decode cX3_settle 6 = .ok (.putfield 47, 3) := by decide +kernel
theorem dX3_settle_9 : decode cX3_settle 9 = .ok (.aload_n 0, 1) := by decide +kernel
theorem dX3_settle_10 : decode cX3_settle 10 = .ok (.getfield 15, 3) := by decide +kernel
theorem dX3_settle_13 : decode cX3_settle 13 = .ok (.lconst 0, 1) := by decide +kernel
theorem dX3_settle_14 : decode cX3_settle 14 = .ok (.invokestatic 31, 3) := by decide +kernel
theorem dX3_settle_17 : decode cX3_settle 17 = .ok (.aload_n 0, 1) := by decide +kernel
theorem dX3_settle_18 : decode cX3_settle 18 = .ok (.getfield 18, 3) := by decide +kernel
theorem dX3_settle_21 : decode cX3_settle 21 = .ok (.lconst 0, 1) := by decide +kernel
theorem dX3_settle_22 : decode cX3_settle 22 = .ok (.invokestatic 31, 3) := by decide +kernel
theorem dX3_settle_25 : decode cX3_settle 25 = .ok (.aload_n 0, 1) := by decide +kernel
theorem dX3_settle_26 : decode cX3_settle 26 = .ok (.getfield 24, 3) := by decide +kernel
theorem dX3_settle_29 : decode cX3_settle 29 = .ok (.iconst 0, 1) := by decide +kernel
theorem dX3_settle_30 : decode cX3_settle 30 = .ok (.invokestatic 51, 3) := by decide +kernel
theorem dX3_settle_33 : decode cX3_settle 33 = .ok (.iconst 1, 1) := by decide +kernel
theorem dX3_settle_34 : decode cX3_settle 34 = .ok (.istore_n 3, 1) := by decide +kernel
theorem dX3_settle_35 : decode cX3_settle 35 = .ok (.iload_n 3, 1) := by decide +kernel
theorem dX3_settle_36 : decode cX3_settle 36 = .ok (.iload_n 1, 1) := by decide +kernel
theorem dX3_settle_37 : decode cX3_settle 37 = .ok (.if_icmp .gt 14, 3) := by decide +kernel
theorem dX3_settle_40 : decode cX3_settle 40 = .ok (.aload_n 0, 1) := by decide +kernel
theorem dX3_settle_41 : decode cX3_settle 41 = .ok (.iload_n 3, 1) := by decide +kernel
theorem dX3_settle_42 : decode cX3_settle 42 = .ok (.invokevirtual 54, 3) := by decide +kernel
theorem dX3_settle_45 : decode cX3_settle 45 = .ok (.iinc 3 1, 3) := by decide +kernel
theorem dX3_settle_48 : decode cX3_settle 48 = .ok (.goto (-13), 3) := by decide +kernel
theorem dX3_settle_51 : decode cX3_settle 51 = .ok (.lconst 0, 1) := by decide +kernel
theorem dX3_settle_52 : decode cX3_settle 52 = .ok (.lstore_n 3, 1) := by decide +kernel
theorem dX3_settle_53 : decode cX3_settle 53 = .ok (.iconst 1, 1) := by decide +kernel
theorem dX3_settle_54 : decode cX3_settle 54 = .ok (.istore 5, 2) := by decide +kernel
theorem dX3_settle_56 : decode cX3_settle 56 = .ok (.iload 5, 2) := by decide +kernel
theorem dX3_settle_58 : decode cX3_settle 58 = .ok (.aload_n 0, 1) := by decide +kernel
theorem dX3_settle_59 : decode cX3_settle 59 = .ok (.getfield 47, 3) := by decide +kernel
theorem dX3_settle_62 : decode cX3_settle 62 = .ok (.if_icmp .gt 47, 3) := by decide +kernel
theorem dX3_settle_65 : decode cX3_settle 65 = .ok (.aload_n 0, 1) := by decide +kernel
theorem dX3_settle_66 : decode cX3_settle 66 = .ok (.getfield 24, 3) := by decide +kernel
theorem dX3_settle_69 : decode cX3_settle 69 = .ok (.iload 5, 2) := by decide +kernel
theorem dX3_settle_71 : decode cX3_settle 71 = .ok (.iaload, 1) := by decide +kernel
theorem dX3_settle_72 : decode cX3_settle 72 = .ok (.istore 6, 2) := by decide +kernel
theorem dX3_settle_74 : decode cX3_settle 74 = .ok (.lload_n 3, 1) := by decide +kernel
theorem dX3_settle_75 : decode cX3_settle 75 = .ok (.iload 6, 2) := by decide +kernel
theorem dX3_settle_77 : decode cX3_settle 77 = .ok (.ifCond .ne 7, 3) := by decide +kernel
theorem dX3_settle_80 : decode cX3_settle 80 = .ok (.lconst 0, 1) := by decide +kernel
theorem dX3_settle_81 : decode cX3_settle 81 = .ok (.goto 20, 3) := by decide +kernel
theorem dX3_settle_84 : decode cX3_settle 84 = .ok (.aload_n 0, 1) := by decide +kernel
theorem dX3_settle_85 : decode cX3_settle 85 = .ok (.getfield 9, 3) := by decide +kernel
theorem dX3_settle_88 : decode cX3_settle 88 = .ok (.iload 6, 2) := by decide +kernel
theorem dX3_settle_90 : decode cX3_settle 90 = .ok (.iconst 1, 1) := by decide +kernel
theorem dX3_settle_91 : decode cX3_settle 91 = .ok (.isub, 1) := by decide +kernel
theorem dX3_settle_92 : decode cX3_settle 92 = .ok (.bipush 10, 2) := by decide +kernel
theorem dX3_settle_94 : decode cX3_settle 94 = .ok (.imul, 1) := by decide +kernel
theorem dX3_settle_95 : decode cX3_settle 95 = .ok (.iload 5, 2) := by decide +kernel
theorem dX3_settle_97 : decode cX3_settle 97 = .ok (.iadd, 1) := by decide +kernel
theorem dX3_settle_98 : decode cX3_settle 98 = .ok (.iconst 1, 1) := by decide +kernel
theorem dX3_settle_99 : decode cX3_settle 99 = .ok (.isub, 1) := by decide +kernel
theorem dX3_settle_100 : decode cX3_settle 100 = .ok (.laload, 1) := by decide +kernel
theorem dX3_settle_101 : decode cX3_settle 101 = .ok (.ladd, 1) := by decide +kernel
theorem dX3_settle_102 : decode cX3_settle 102 = .ok (.lstore_n 3, 1) := by decide +kernel
theorem dX3_settle_103 : decode cX3_settle 103 = .ok (.iinc 5 1, 3) := by decide +kernel
theorem dX3_settle_106 : decode cX3_settle 106 = .ok (.goto (-50), 3) := by decide +kernel
theorem dX3_settle_109 : decode cX3_settle 109 = .ok (.lload_n 3, 1) := by decide +kernel
theorem dX3_settle_110 : decode cX3_settle 110 = .ok (.lreturn, 1) := by decide +kernel
theorem dX3_isTaken_0 : decode cX3_isTaken 0 = .ok (.aload_n 0, 1) := by decide +kernel
theorem dX3_isTaken_1 : decode cX3_isTaken 1 = .ok (.getfield 24, 3) := by decide +kernel
theorem dX3_isTaken_4 : decode cX3_isTaken 4 = .ok (.iload_n 2, 1) := by decide +kernel
theorem dX3_isTaken_5 : decode cX3_isTaken 5 = .ok (.iconst 1, 1) := by decide +kernel
theorem dX3_isTaken_6 : decode cX3_isTaken 6 = .ok (.iadd, 1) := by decide +kernel
theorem dX3_isTaken_7 : decode cX3_isTaken 7 = .ok (.iaload, 1) := by decide +kernel
theorem dX3_isTaken_8 : decode cX3_isTaken 8 = .ok (.iload_n 1, 1) := by decide +kernel
theorem dX3_isTaken_9 : decode cX3_isTaken 9 = .ok (.iconst 1, 1) := by decide +kernel
theorem dX3_isTaken_10 : decode cX3_isTaken 10 = .ok (.iadd, 1) := by decide +kernel
theorem dX3_isTaken_11 : decode cX3_isTaken 11 = .ok (.if_icmp .ne 23, 3) := by decide +kernel
theorem dX3_isTaken_14 : decode cX3_isTaken 14 = .ok (.aload_n 0, 1) := by decide +kernel
theorem dX3_isTaken_15 : decode cX3_isTaken 15 = .ok (.getfield 9, 3) := by decide +kernel
theorem dX3_isTaken_18 : decode cX3_isTaken 18 = .ok (.iload_n 1, 1) := by decide +kernel
theorem dX3_isTaken_19 : decode cX3_isTaken 19 = .ok (.bipush 10, 2) := by decide +kernel
theorem dX3_isTaken_21 : decode cX3_isTaken 21 = .ok (.imul, 1) := by decide +kernel
theorem dX3_isTaken_22 : decode cX3_isTaken 22 = .ok (.iload_n 2, 1) := by decide +kernel
theorem dX3_isTaken_23 : decode cX3_isTaken 23 = .ok (.iadd, 1) := by decide +kernel
theorem dX3_isTaken_24 : decode cX3_isTaken 24 = .ok (.laload, 1) := by decide +kernel
theorem dX3_isTaken_25 : decode cX3_isTaken 25 = .ok (.lconst 0, 1) := by decide +kernel
theorem dX3_isTaken_26 : decode cX3_isTaken 26 = .ok (.lcmp, 1) := by decide +kernel
theorem dX3_isTaken_27 : decode cX3_isTaken 27 = .ok (.ifCond .ge 7, 3) := by decide +kernel
theorem dX3_isTaken_30 : decode cX3_isTaken 30 = .ok (.iconst 1, 1) := by decide +kernel
theorem dX3_isTaken_31 : decode cX3_isTaken 31 = .ok (.goto 4, 3) := by decide +kernel
theorem dX3_isTaken_34 : decode cX3_isTaken 34 = .ok (.iconst 0, 1) := by decide +kernel
theorem dX3_isTaken_35 : decode cX3_isTaken 35 = .ok (.ireturn, 1) := by decide +kernel
theorem dX3_seat_0 : decode cX3_seat 0 = .ok (.aload_n 0, 1) := by decide +kernel
theorem dX3_seat_1 : decode cX3_seat 1 = .ok (.getfield 21, 3) := by decide +kernel
theorem dX3_seat_4 : decode cX3_seat 4 = .ok (.ldc2_w 58, 3) := by decide +kernel
theorem dX3_seat_7 : decode cX3_seat 7 = .ok (.invokestatic 31, 3) := by decide +kernel
theorem dX3_seat_10 : decode cX3_seat 10 = .ok (.aload_n 0, 1) := by decide +kernel
theorem dX3_seat_11 : decode cX3_seat 11 = .ok (.iconst 0, 1) := by decide +kernel
theorem dX3_seat_12 : decode cX3_seat 12 = .ok (.putfield 60, 3) := by decide +kernel
theorem dX3_seat_15 : decode cX3_seat 15 = .ok (.aload_n 0, 1) := by decide +kernel
theorem dX3_seat_16 : decode cX3_seat 16 = .ok (.getfield 24, 3) := by decide +kernel
theorem dX3_seat_19 : decode cX3_seat 19 = .ok (.iconst 0, 1) := by decide +kernel
theorem dX3_seat_20 : decode cX3_seat 20 = .ok (.iload_n 1, 1) := by decide +kernel
theorem dX3_seat_21 : decode cX3_seat 21 = .ok (.iastore, 1) := by decide +kernel
theorem dX3_seat_22 : decode cX3_seat 22 = .ok (.iconst 0, 1) := by decide +kernel
theorem dX3_seat_23 : decode cX3_seat 23 = .ok (.istore_n 2, 1) := by decide +kernel
theorem dX3_seat_24 : decode cX3_seat 24 = .ok (.iconst 0, 1) := by decide +kernel
theorem dX3_seat_25 : decode cX3_seat 25 = .ok (.istore_n 3, 1) := by decide +kernel
theorem dX3_seat_26 : decode cX3_seat 26 = .ok (.iload_n 3, 1) := by decide +kernel
theorem dX3_seat_27 : decode cX3_seat 27 = .ok (.aload_n 0, 1) := by decide +kernel
theorem dX3_seat_28 : decode cX3_seat 28 = .ok (.getfield 47, 3) := by decide +kernel
theorem dX3_seat_31 : decode cX3_seat 31 = .ok (.if_icmp .gt 55, 3) := by decide +kernel
theorem dX3_seat_34 : decode cX3_seat 34 = .ok (.aload_n 0, 1) := by decide +kernel
theorem dX3_seat_35 : decode cX3_seat 35 = .ok (.getfield 24, 3) := by decide +kernel
theorem dX3_seat_38 : decode cX3_seat 38 = .ok (.iload_n 2, 1) := by decide +kernel
theorem dX3_seat_39 : decode cX3_seat 39 = .ok (.iaload, 1) := by decide +kernel
theorem dX3_seat_40 : decode cX3_seat 40 = .ok (.ifCond .eq 46, 3) := by decide +kernel
theorem dX3_seat_43 : decode cX3_seat 43 = .ok (.aload_n 0, 1) := by decide +kernel
theorem dX3_seat_44 : decode cX3_seat 44 = .ok (.dup, 1) := by decide +kernel
theorem dX3_seat_45 : decode cX3_seat 45 = .ok (.getfield 60, 3) := by decide +kernel
theorem dX3_seat_48 : decode cX3_seat 48 = .ok (.iconst 1, 1) := by decide +kernel
theorem dX3_seat_49 : decode cX3_seat 49 = .ok (.iload_n 2, 1) := by decide +kernel
theorem dX3_seat_50 : decode cX3_seat 50 = .ok (.ishl, 1) := by decide +kernel
theorem dX3_seat_51 : decode cX3_seat 51 = .ok (.ior, 1) := by decide +kernel
theorem dX3_seat_52 : decode cX3_seat 52 = .ok (.putfield 60, 3) := by decide +kernel
theorem dX3_seat_55 : decode cX3_seat 55 = .ok (.aload_n 0, 1) := by decide +kernel
theorem dX3_seat_56 : decode cX3_seat 56 = .ok (.iload_n 2, 1) := by decide +kernel
theorem dX3_seat_57 : decode cX3_seat 57 = .ok (.invokevirtual 63, 3) := by decide +kernel
theorem dX3_seat_60 : decode cX3_seat 60 = .ok (.aload_n 0, 1) := by decide +kernel
theorem dX3_seat_61 : decode cX3_seat 61 = .ok (.invokevirtual 66, 3) := by decide +kernel
theorem dX3_seat_64 : decode cX3_seat 64 = .ok (.istore 4, 2) := by decide +kernel
theorem dX3_seat_66 : decode cX3_seat 66 = .ok (.aload_n 0, 1) := by decide +kernel
theorem dX3_seat_67 : decode cX3_seat 67 = .ok (.aload_n 0, 1) := by decide +kernel
theorem dX3_seat_68 : decode cX3_seat 68 = .ok (.getfield 21, 3) := by decide +kernel
theorem dX3_seat_71 : decode cX3_seat 71 = .ok (.iload 4, 2) := by decide +kernel
theorem dX3_seat_73 : decode cX3_seat 73 = .ok (.laload, 1) := by decide +kernel
theorem dX3_seat_74 : decode cX3_seat 74 = .ok (.invokevirtual 70, 3) := by decide +kernel
theorem dX3_seat_77 : decode cX3_seat 77 = .ok (.iload 4, 2) := by decide +kernel
theorem dX3_seat_79 : decode cX3_seat 79 = .ok (.istore_n 2, 1) := by decide +kernel
theorem dX3_seat_80 : decode cX3_seat 80 = .ok (.iinc 3 1, 3) := by decide +kernel
theorem dX3_seat_83 : decode cX3_seat 83 = .ok (.goto (-57), 3) := by decide +kernel
theorem dX3_seat_86 : decode cX3_seat 86 = .ok (.iconst 0, 1) := by decide +kernel
theorem dX3_seat_87 : decode cX3_seat 87 = .ok (.istore_n 3, 1) := by decide +kernel
theorem dX3_seat_88 : decode cX3_seat 88 = .ok (.iload_n 3, 1) := by decide +kernel
theorem dX3_seat_89 : decode cX3_seat 89 = .ok (.aload_n 0, 1) := by decide +kernel
theorem dX3_seat_90 : decode cX3_seat 90 = .ok (.getfield 47, 3) := by decide +kernel
theorem dX3_seat_93 : decode cX3_seat 93 = .ok (.if_icmp .gt 37, 3) := by decide +kernel
theorem dX3_seat_96 : decode cX3_seat 96 = .ok (.iload_n 2, 1) := by decide +kernel
theorem dX3_seat_97 : decode cX3_seat 97 = .ok (.ifCond .eq 33, 3) := by decide +kernel
theorem dX3_seat_100 : decode cX3_seat 100 = .ok (.aload_n 0, 1) := by decide +kernel
theorem dX3_seat_101 : decode cX3_seat 101 = .ok (.getfield 24, 3) := by decide +kernel
theorem dX3_seat_104 : decode cX3_seat 104 = .ok (.iload_n 2, 1) := by decide +kernel
theorem dX3_seat_105 : decode cX3_seat 105 = .ok (.aload_n 0, 1) := by decide +kernel
theorem dX3_seat_106 : decode cX3_seat 106 = .ok (.getfield 24, 3) := by decide +kernel
theorem dX3_seat_109 : decode cX3_seat 109 = .ok (.aload_n 0, 1) := by decide +kernel
theorem dX3_seat_110 : decode cX3_seat 110 = .ok (.getfield 28, 3) := by decide +kernel
theorem dX3_seat_113 : decode cX3_seat 113 = .ok (.iload_n 2, 1) := by decide +kernel
theorem dX3_seat_114 : decode cX3_seat 114 = .ok (.iaload, 1) := by decide +kernel
theorem dX3_seat_115 : decode cX3_seat 115 = .ok (.iaload, 1) := by decide +kernel
theorem dX3_seat_116 : decode cX3_seat 116 = .ok (.iastore, 1) := by decide +kernel
theorem dX3_seat_117 : decode cX3_seat 117 = .ok (.aload_n 0, 1) := by decide +kernel
theorem dX3_seat_118 : decode cX3_seat 118 = .ok (.getfield 28, 3) := by decide +kernel
theorem dX3_seat_121 : decode cX3_seat 121 = .ok (.iload_n 2, 1) := by decide +kernel
theorem dX3_seat_122 : decode cX3_seat 122 = .ok (.iaload, 1) := by decide +kernel
theorem dX3_seat_123 : decode cX3_seat 123 = .ok (.istore_n 2, 1) := by decide +kernel
theorem dX3_seat_124 : decode cX3_seat 124 = .ok (.iinc 3 1, 3) := by decide +kernel
theorem dX3_seat_127 : decode cX3_seat 127 = .ok (.goto (-39), 3) := by decide +kernel
theorem dX3_seat_130 : decode cX3_seat 130 = .ok (.return_, 1) := by decide +kernel
theorem dX3_reachFrom_0 : decode cX3_reachFrom 0 = .ok (.aload_n 0, 1) := by decide +kernel
theorem dX3_reachFrom_1 : decode cX3_reachFrom 1 = .ok (.getfield 24, 3) := by decide +kernel
theorem dX3_reachFrom_4 : decode cX3_reachFrom 4 = .ok (.iload_n 1, 1) := by decide +kernel
theorem dX3_reachFrom_5 : decode cX3_reachFrom 5 = .ok (.iaload, 1) := by decide +kernel
theorem dX3_reachFrom_6 : decode cX3_reachFrom 6 = .ok (.istore_n 2, 1) := by decide +kernel
theorem dX3_reachFrom_7 : decode cX3_reachFrom 7 = .ok (.iconst 1, 1) := by decide +kernel
theorem dX3_reachFrom_8 : decode cX3_reachFrom 8 = .ok (.istore_n 3, 1) := by decide +kernel
theorem dX3_reachFrom_9 : decode cX3_reachFrom 9 = .ok (.iload_n 3, 1) := by decide +kernel
theorem dX3_reachFrom_10 : decode cX3_reachFrom 10 = .ok (.aload_n 0, 1) := by decide +kernel
theorem dX3_reachFrom_11 : decode cX3_reachFrom 11 = .ok (.getfield 47, 3) := by decide +kernel
theorem dX3_reachFrom_14 : decode cX3_reachFrom 14 = .ok (.if_icmp .gt 82, 3) := by decide +kernel
theorem dX3_reachFrom_17 : decode cX3_reachFrom 17 = .ok (.aload_n 0, 1) := by decide +kernel
theorem dX3_reachFrom_18 : decode cX3_reachFrom 18 = .ok (.getfield 9, 3) := by decide +kernel
theorem dX3_reachFrom_21 : decode cX3_reachFrom 21 = .ok (.iload_n 2, 1) := by decide +kernel
theorem dX3_reachFrom_22 : decode cX3_reachFrom 22 = .ok (.iconst 1, 1) := by decide +kernel
theorem dX3_reachFrom_23 : decode cX3_reachFrom 23 = .ok (.isub, 1) := by decide +kernel
theorem dX3_reachFrom_24 : decode cX3_reachFrom 24 = .ok (.bipush 10, 2) := by decide +kernel
theorem dX3_reachFrom_26 : decode cX3_reachFrom 26 = .ok (.imul, 1) := by decide +kernel
theorem dX3_reachFrom_27 : decode cX3_reachFrom 27 = .ok (.iload_n 3, 1) := by decide +kernel
theorem dX3_reachFrom_28 : decode cX3_reachFrom 28 = .ok (.iadd, 1) := by decide +kernel
theorem dX3_reachFrom_29 : decode cX3_reachFrom 29 = .ok (.iconst 1, 1) := by decide +kernel
theorem dX3_reachFrom_30 : decode cX3_reachFrom 30 = .ok (.isub, 1) := by decide +kernel
theorem dX3_reachFrom_31 : decode cX3_reachFrom 31 = .ok (.laload, 1) := by decide +kernel
theorem dX3_reachFrom_32 : decode cX3_reachFrom 32 = .ok (.lstore 4, 2) := by decide +kernel
theorem dX3_reachFrom_34 : decode cX3_reachFrom 34 = .ok (.lload 4, 2) := by decide +kernel
theorem dX3_reachFrom_36 : decode cX3_reachFrom 36 = .ok (.aload_n 0, 1) := by decide +kernel
theorem dX3_reachFrom_37 : decode cX3_reachFrom 37 = .ok (.getfield 15, 3) := by decide +kernel
theorem dX3_reachFrom_40 : decode cX3_reachFrom 40 = .ok (.iload_n 2, 1) := by decide +kernel
theorem dX3_reachFrom_41 : decode cX3_reachFrom 41 = .ok (.laload, 1) := by decide +kernel
theorem dX3_reachFrom_42 : decode cX3_reachFrom 42 = .ok (.lsub, 1) := by decide +kernel
theorem dX3_reachFrom_43 : decode cX3_reachFrom 43 = .ok (.aload_n 0, 1) := by decide +kernel
theorem dX3_reachFrom_44 : decode cX3_reachFrom 44 = .ok (.getfield 18, 3) := by decide +kernel
theorem dX3_reachFrom_47 : decode cX3_reachFrom 47 = .ok (.iload_n 3, 1) := by decide +kernel
theorem dX3_reachFrom_48 : decode cX3_reachFrom 48 = .ok (.laload, 1) := by decide +kernel
theorem dX3_reachFrom_49 : decode cX3_reachFrom 49 = .ok (.lsub, 1) := by decide +kernel
theorem dX3_reachFrom_50 : decode cX3_reachFrom 50 = .ok (.lstore 6, 2) := by decide +kernel
theorem dX3_reachFrom_52 : decode cX3_reachFrom 52 = .ok (.aload_n 0, 1) := by decide +kernel
theorem dX3_reachFrom_53 : decode cX3_reachFrom 53 = .ok (.getfield 60, 3) := by decide +kernel
theorem dX3_reachFrom_56 : decode cX3_reachFrom 56 = .ok (.iload_n 3, 1) := by decide +kernel
theorem dX3_reachFrom_57 : decode cX3_reachFrom 57 = .ok (.ishr, 1) := by decide +kernel
theorem dX3_reachFrom_58 : decode cX3_reachFrom 58 = .ok (.iconst 1, 1) := by decide +kernel
theorem dX3_reachFrom_59 : decode cX3_reachFrom 59 = .ok (.iand, 1) := by decide +kernel
theorem dX3_reachFrom_60 : decode cX3_reachFrom 60 = .ok (.ifCond .ne 30, 3) := by decide +kernel
theorem dX3_reachFrom_63 : decode cX3_reachFrom 63 = .ok (.lload 6, 2) := by decide +kernel
theorem dX3_reachFrom_65 : decode cX3_reachFrom 65 = .ok (.aload_n 0, 1) := by decide +kernel
theorem dX3_reachFrom_66 : decode cX3_reachFrom 66 = .ok (.getfield 21, 3) := by decide +kernel
theorem dX3_reachFrom_69 : decode cX3_reachFrom 69 = .ok (.iload_n 3, 1) := by decide +kernel
theorem dX3_reachFrom_70 : decode cX3_reachFrom 70 = .ok (.laload, 1) := by decide +kernel
theorem dX3_reachFrom_71 : decode cX3_reachFrom 71 = .ok (.lcmp, 1) := by decide +kernel
theorem dX3_reachFrom_72 : decode cX3_reachFrom 72 = .ok (.ifCond .ge 18, 3) := by decide +kernel
theorem dX3_reachFrom_75 : decode cX3_reachFrom 75 = .ok (.aload_n 0, 1) := by decide +kernel
theorem dX3_reachFrom_76 : decode cX3_reachFrom 76 = .ok (.getfield 21, 3) := by decide +kernel
theorem dX3_reachFrom_79 : decode cX3_reachFrom 79 = .ok (.iload_n 3, 1) := by decide +kernel
theorem dX3_reachFrom_80 : decode cX3_reachFrom 80 = .ok (.lload 6, 2) := by decide +kernel
theorem dX3_reachFrom_82 : decode cX3_reachFrom 82 = .ok (.lastore, 1) := by decide +kernel
theorem dX3_reachFrom_83 : decode cX3_reachFrom 83 = .ok (.aload_n 0, 1) := by decide +kernel
theorem dX3_reachFrom_84 : decode cX3_reachFrom 84 = .ok (.getfield 28, 3) := by decide +kernel
theorem dX3_reachFrom_87 : decode cX3_reachFrom 87 = .ok (.iload_n 3, 1) := by decide +kernel
theorem dX3_reachFrom_88 : decode cX3_reachFrom 88 = .ok (.iload_n 1, 1) := by decide +kernel
theorem dX3_reachFrom_89 : decode cX3_reachFrom 89 = .ok (.iastore, 1) := by decide +kernel
theorem dX3_reachFrom_90 : decode cX3_reachFrom 90 = .ok (.iinc 3 1, 3) := by decide +kernel
theorem dX3_reachFrom_93 : decode cX3_reachFrom 93 = .ok (.goto (-84), 3) := by decide +kernel
theorem dX3_reachFrom_96 : decode cX3_reachFrom 96 = .ok (.return_, 1) := by decide +kernel
theorem dX3_nearest_0 : decode cX3_nearest 0 = .ok (.iconst 0, 1) := by decide +kernel
theorem dX3_nearest_1 : decode cX3_nearest 1 = .ok (.istore_n 1, 1) := by decide +kernel
theorem dX3_nearest_2 : decode cX3_nearest 2 = .ok (.iconst 1, 1) := by decide +kernel
theorem dX3_nearest_3 : decode cX3_nearest 3 = .ok (.istore_n 2, 1) := by decide +kernel
theorem dX3_nearest_4 : decode cX3_nearest 4 = .ok (.iload_n 2, 1) := by decide +kernel
theorem dX3_nearest_5 : decode cX3_nearest 5 = .ok (.aload_n 0, 1) := by decide +kernel
theorem dX3_nearest_6 : decode cX3_nearest 6 = .ok (.getfield 47, 3) := by decide +kernel
theorem dX3_nearest_9 : decode cX3_nearest 9 = .ok (.if_icmp .gt 42, 3) := by decide +kernel
theorem dX3_nearest_12 : decode cX3_nearest 12 = .ok (.aload_n 0, 1) := by decide +kernel
theorem dX3_nearest_13 : decode cX3_nearest 13 = .ok (.getfield 60, 3) := by decide +kernel
theorem dX3_nearest_16 : decode cX3_nearest 16 = .ok (.iload_n 2, 1) := by decide +kernel
theorem dX3_nearest_17 : decode cX3_nearest 17 = .ok (.ishr, 1) := by decide +kernel
theorem dX3_nearest_18 : decode cX3_nearest 18 = .ok (.iconst 1, 1) := by decide +kernel
theorem dX3_nearest_19 : decode cX3_nearest 19 = .ok (.iand, 1) := by decide +kernel
theorem dX3_nearest_20 : decode cX3_nearest 20 = .ok (.ifCond .ne 25, 3) := by decide +kernel
theorem dX3_nearest_23 : decode cX3_nearest 23 = .ok (.iload_n 1, 1) := by decide +kernel
theorem dX3_nearest_24 : decode cX3_nearest 24 = .ok (.ifCond .eq 19, 3) := by decide +kernel
theorem dX3_nearest_27 : decode cX3_nearest 27 = .ok (.aload_n 0, 1) := by decide +kernel
theorem dX3_nearest_28 : decode cX3_nearest 28 = .ok (.getfield 21, 3) := by decide +kernel
theorem dX3_nearest_31 : decode cX3_nearest 31 = .ok (.iload_n 2, 1) := by decide +kernel
theorem dX3_nearest_32 : decode cX3_nearest 32 = .ok (.laload, 1) := by decide +kernel
theorem dX3_nearest_33 : decode cX3_nearest 33 = .ok (.aload_n 0, 1) := by decide +kernel
theorem dX3_nearest_34 : decode cX3_nearest 34 = .ok (.getfield 21, 3) := by decide +kernel
theorem dX3_nearest_37 : decode cX3_nearest 37 = .ok (.iload_n 1, 1) := by decide +kernel
theorem dX3_nearest_38 : decode cX3_nearest 38 = .ok (.laload, 1) := by decide +kernel
theorem dX3_nearest_39 : decode cX3_nearest 39 = .ok (.lcmp, 1) := by decide +kernel
theorem dX3_nearest_40 : decode cX3_nearest 40 = .ok (.ifCond .ge 5, 3) := by decide +kernel
theorem dX3_nearest_43 : decode cX3_nearest 43 = .ok (.iload_n 2, 1) := by decide +kernel
theorem dX3_nearest_44 : decode cX3_nearest 44 = .ok (.istore_n 1, 1) := by decide +kernel
theorem dX3_nearest_45 : decode cX3_nearest 45 = .ok (.iinc 2 1, 3) := by decide +kernel
theorem dX3_nearest_48 : decode cX3_nearest 48 = .ok (.goto (-44), 3) := by decide +kernel
theorem dX3_nearest_51 : decode cX3_nearest 51 = .ok (.iload_n 1, 1) := by decide +kernel
theorem dX3_nearest_52 : decode cX3_nearest 52 = .ok (.ireturn, 1) := by decide +kernel
theorem dX3_shiftPrices_0 : decode cX3_shiftPrices 0 = .ok (.iconst 0, 1) := by decide +kernel
theorem dX3_shiftPrices_1 : decode cX3_shiftPrices 1 = .ok (.istore_n 3, 1) := by decide +kernel
theorem dX3_shiftPrices_2 : decode cX3_shiftPrices 2 = .ok (.iload_n 3, 1) := by decide +kernel
theorem dX3_shiftPrices_3 : decode cX3_shiftPrices 3 = .ok (.aload_n 0, 1) := by decide +kernel
theorem dX3_shiftPrices_4 : decode cX3_shiftPrices 4 = .ok (.getfield 47, 3) := by decide +kernel
theorem dX3_shiftPrices_7 : decode cX3_shiftPrices 7 = .ok (.if_icmp .gt 59, 3) := by decide +kernel
theorem dX3_shiftPrices_10 : decode cX3_shiftPrices 10 = .ok (.aload_n 0, 1) := by decide +kernel
theorem dX3_shiftPrices_11 : decode cX3_shiftPrices 11 = .ok (.getfield 60, 3) := by decide +kernel
theorem dX3_shiftPrices_14 : decode cX3_shiftPrices 14 = .ok (.iload_n 3, 1) := by decide +kernel
theorem dX3_shiftPrices_15 : decode cX3_shiftPrices 15 = .ok (.ishr, 1) := by decide +kernel
theorem dX3_shiftPrices_16 : decode cX3_shiftPrices 16 = .ok (.iconst 1, 1) := by decide +kernel
theorem dX3_shiftPrices_17 : decode cX3_shiftPrices 17 = .ok (.iand, 1) := by decide +kernel
theorem dX3_shiftPrices_18 : decode cX3_shiftPrices 18 = .ok (.iconst 1, 1) := by decide +kernel
theorem dX3_shiftPrices_19 : decode cX3_shiftPrices 19 = .ok (.if_icmp .ne 31, 3) := by decide +kernel
theorem dX3_shiftPrices_22 : decode cX3_shiftPrices 22 = .ok (.aload_n 0, 1) := by decide +kernel
theorem dX3_shiftPrices_23 : decode cX3_shiftPrices 23 = .ok (.getfield 15, 3) := by decide +kernel
theorem dX3_shiftPrices_26 : decode cX3_shiftPrices 26 = .ok (.aload_n 0, 1) := by decide +kernel
theorem dX3_shiftPrices_27 : decode cX3_shiftPrices 27 = .ok (.getfield 24, 3) := by decide +kernel
theorem dX3_shiftPrices_30 : decode cX3_shiftPrices 30 = .ok (.iload_n 3, 1) := by decide +kernel
theorem dX3_shiftPrices_31 : decode cX3_shiftPrices 31 = .ok (.iaload, 1) := by decide +kernel
theorem dX3_shiftPrices_32 : decode cX3_shiftPrices 32 = .ok (.dup2, 1) := by decide +kernel
theorem dX3_shiftPrices_33 : decode cX3_shiftPrices 33 = .ok (.laload, 1) := by decide +kernel
theorem dX3_shiftPrices_34 : decode cX3_shiftPrices 34 = .ok (.lload_n 1, 1) := by decide +kernel
theorem dX3_shiftPrices_35 : decode cX3_shiftPrices 35 = .ok (.ladd, 1) := by decide +kernel
theorem dX3_shiftPrices_36 : decode cX3_shiftPrices 36 = .ok (.lastore, 1) := by decide +kernel
theorem dX3_shiftPrices_37 : decode cX3_shiftPrices 37 = .ok (.aload_n 0, 1) := by decide +kernel
theorem dX3_shiftPrices_38 : decode cX3_shiftPrices 38 = .ok (.getfield 18, 3) := by decide +kernel
theorem dX3_shiftPrices_41 : decode cX3_shiftPrices 41 = .ok (.iload_n 3, 1) := by decide +kernel
theorem dX3_shiftPrices_42 : decode cX3_shiftPrices 42 = .ok (.dup2, 1) := by decide +kernel
theorem dX3_shiftPrices_43 : decode cX3_shiftPrices 43 = .ok (.laload, 1) := by decide +kernel
theorem dX3_shiftPrices_44 : decode cX3_shiftPrices 44 = .ok (.lload_n 1, 1) := by decide +kernel
theorem dX3_shiftPrices_45 : decode cX3_shiftPrices 45 = .ok (.lsub, 1) := by decide +kernel
theorem dX3_shiftPrices_46 : decode cX3_shiftPrices 46 = .ok (.lastore, 1) := by decide +kernel
theorem dX3_shiftPrices_47 : decode cX3_shiftPrices 47 = .ok (.goto 13, 3) := by decide +kernel
theorem dX3_shiftPrices_50 : decode cX3_shiftPrices 50 = .ok (.aload_n 0, 1) := by decide +kernel
theorem dX3_shiftPrices_51 : decode cX3_shiftPrices 51 = .ok (.getfield 21, 3) := by decide +kernel
theorem dX3_shiftPrices_54 : decode cX3_shiftPrices 54 = .ok (.iload_n 3, 1) := by decide +kernel
theorem dX3_shiftPrices_55 : decode cX3_shiftPrices 55 = .ok (.dup2, 1) := by decide +kernel
theorem dX3_shiftPrices_56 : decode cX3_shiftPrices 56 = .ok (.laload, 1) := by decide +kernel
theorem dX3_shiftPrices_57 : decode cX3_shiftPrices 57 = .ok (.lload_n 1, 1) := by decide +kernel
theorem dX3_shiftPrices_58 : decode cX3_shiftPrices 58 = .ok (.lsub, 1) := by decide +kernel
theorem dX3_shiftPrices_59 : decode cX3_shiftPrices 59 = .ok (.lastore, 1) := by decide +kernel
theorem dX3_shiftPrices_60 : decode cX3_shiftPrices 60 = .ok (.iinc 3 1, 3) := by decide +kernel
theorem dX3_shiftPrices_63 : decode cX3_shiftPrices 63 = .ok (.goto (-61), 3) := by decide +kernel
theorem dX3_shiftPrices_66 : decode cX3_shiftPrices 66 = .ok (.return_, 1) := by decide +kernel
theorem dX4_init_0 : decode cX4_init 0 = .ok (.aload_n 0, 1) := by decide +kernel
theorem dX4_init_1 : decode cX4_init 1 = .ok (.invokespecial 3, 3) := by decide +kernel
theorem dX4_init_4 : decode cX4_init 4 = .ok (.aload_n 0, 1) := by decide +kernel
theorem dX4_init_5 : decode cX4_init 5 = .ok (.new 9, 3) := by decide +kernel
theorem dX4_init_8 : decode cX4_init 8 = .ok (.dup, 1) := by decide +kernel
theorem dX4_init_9 : decode cX4_init 9 = .ok (.invokespecial 11, 3) := by decide +kernel
theorem dX4_init_12 : decode cX4_init 12 = .ok (.putfield 12, 3) := by decide +kernel
theorem dX4_init_15 : decode cX4_init 15 = .ok (.aload_n 0, 1) := by decide +kernel
theorem dX4_init_16 : decode cX4_init 16 = .ok (.bipush 10, 2) := by decide +kernel
theorem dX4_init_18 : decode cX4_init 18 = .ok (.newarray .int, 2) := by decide +kernel
theorem dX4_init_20 : decode cX4_init 20 = .ok (.putfield 18, 3) := by decide +kernel
theorem dX4_init_23 : decode cX4_init 23 = .ok (.aload_n 0, 1) := by decide +kernel
theorem dX4_init_24 : decode cX4_init 24 = .ok (.aload_n 1, 1) := by decide +kernel
theorem dX4_init_25 : decode cX4_init 25 = .ok (.putfield 22, 3) := by decide +kernel
theorem dX4_init_28 : decode cX4_init 28 = .ok (.aload_n 0, 1) := by decide +kernel
theorem dX4_init_29 : decode cX4_init 29 = .ok (.getfield 18, 3) := by decide +kernel
theorem dX4_init_32 : decode cX4_init 32 = .ok (.bipush (-4), 2) := by decide +kernel
theorem dX4_init_34 : decode cX4_init 34 = .ok (.invokestatic 26, 3) := by decide +kernel
theorem dX4_init_37 : decode cX4_init 37 = .ok (.return_, 1) := by decide +kernel
theorem dX4_weighAll_0 : decode cX4_weighAll 0 = .ok (.aload_n 0, 1) := by decide +kernel
theorem dX4_weighAll_1 : decode cX4_weighAll 1 = .ok (.getfield 12, 3) := by decide +kernel
theorem dX4_weighAll_4 : decode cX4_weighAll 4 = .ok (.invokevirtual 32, 3) := by decide +kernel
theorem dX4_weighAll_7 : decode cX4_weighAll 7 = .ok (.iconst 0, 1) := by decide +kernel
theorem dX4_weighAll_8 : decode cX4_weighAll 8 = .ok (.istore_n 3, 1) := by decide +kernel
theorem dX4_weighAll_9 : decode cX4_weighAll 9 = .ok (.iload_n 3, 1) := by decide +kernel
theorem dX4_weighAll_10 : decode cX4_weighAll 10 = .ok (.aload_n 0, 1) := by decide +kernel
theorem dX4_weighAll_11 : decode cX4_weighAll 11 = .ok (.getfield 22, 3) := by decide +kernel
theorem dX4_weighAll_14 : decode cX4_weighAll 14 = .ok (.getfield 35, 3) := by decide +kernel
theorem dX4_weighAll_17 : decode cX4_weighAll 17 = .ok (.if_icmp .ge 39, 3) := by decide +kernel
theorem dX4_weighAll_20 : decode cX4_weighAll 20 = .ok (.iconst 0, 1) := by decide +kernel
theorem dX4_weighAll_21 : decode cX4_weighAll 21 = .ok (.istore 4, 2) := by decide +kernel
theorem dX4_weighAll_23 : decode cX4_weighAll 23 = .ok (.iload 4, 2) := by decide +kernel
theorem dX4_weighAll_25 : decode cX4_weighAll 25 = .ok (.aload_n 0, 1) := by decide +kernel
theorem dX4_weighAll_26 : decode cX4_weighAll 26 = .ok (.getfield 22, 3) := by decide +kernel
theorem dX4_weighAll_29 : decode cX4_weighAll 29 = .ok (.getfield 41, 3) := by decide +kernel
theorem dX4_weighAll_32 : decode cX4_weighAll 32 = .ok (.if_icmp .ge 18, 3) := by decide +kernel
theorem dX4_weighAll_35 : decode cX4_weighAll 35 = .ok (.aload_n 0, 1) := by decide +kernel
theorem dX4_weighAll_36 : decode cX4_weighAll 36 = .ok (.iload_n 3, 1) := by decide +kernel
theorem dX4_weighAll_37 : decode cX4_weighAll 37 = .ok (.iload 4, 2) := by decide +kernel
theorem dX4_weighAll_39 : decode cX4_weighAll 39 = .ok (.iload_n 1, 1) := by decide +kernel
theorem dX4_weighAll_40 : decode cX4_weighAll 40 = .ok (.iload_n 2, 1) := by decide +kernel
theorem dX4_weighAll_41 : decode cX4_weighAll 41 = .ok (.invokevirtual 44, 3) := by decide +kernel
theorem dX4_weighAll_44 : decode cX4_weighAll 44 = .ok (.iinc 4 1, 3) := by decide +kernel
theorem dX4_weighAll_47 : decode cX4_weighAll 47 = .ok (.goto (-24), 3) := by decide +kernel
theorem dX4_weighAll_50 : decode cX4_weighAll 50 = .ok (.iinc 3 1, 3) := by decide +kernel
theorem dX4_weighAll_53 : decode cX4_weighAll 53 = .ok (.goto (-44), 3) := by decide +kernel
theorem dX4_weighAll_56 : decode cX4_weighAll 56 = .ok (.return_, 1) := by decide +kernel
theorem dX4_weighPair_0 : decode cX4_weighPair 0 = .ok (.aload_n 0, 1) := by decide +kernel
theorem dX4_weighPair_1 : decode cX4_weighPair 1 = .ok (.getfield 22, 3) := by decide +kernel
theorem dX4_weighPair_4 : decode cX4_weighPair 4 = .ok (.iload_n 1, 1) := by decide +kernel
theorem dX4_weighPair_5 : decode cX4_weighPair 5 = .ok (.iload_n 2, 1) := by decide +kernel
theorem dX4_weighPair_6 : decode cX4_weighPair 6 = .ok (.invokevirtual 48, 3) := by decide +kernel
theorem dX4_weighPair_9 : decode cX4_weighPair 9 = .ok (.ifCond .eq 29, 3) := by decide +kernel
theorem dX4_weighPair_12 : decode cX4_weighPair 12 = .ok (.aload_n 0, 1) := by decide +kernel
theorem dX4_weighPair_13 : decode cX4_weighPair 13 = .ok (.getfield 12, 3) := by decide +kernel
theorem dX4_weighPair_16 : decode cX4_weighPair 16 = .ok (.iload_n 1, 1) := by decide +kernel
theorem dX4_weighPair_17 : decode cX4_weighPair 17 = .ok (.iload_n 2, 1) := by decide +kernel
theorem dX4_weighPair_18 : decode cX4_weighPair 18 = .ok (.iload_n 3, 1) := by decide +kernel
theorem dX4_weighPair_19 : decode cX4_weighPair 19 = .ok (.i2l, 1) := by decide +kernel
theorem dX4_weighPair_20 : decode cX4_weighPair 20 = .ok (.aload_n 0, 1) := by decide +kernel
theorem dX4_weighPair_21 : decode cX4_weighPair 21 = .ok (.getfield 22, 3) := by decide +kernel
theorem dX4_weighPair_24 : decode cX4_weighPair 24 = .ok (.iload_n 1, 1) := by decide +kernel
theorem dX4_weighPair_25 : decode cX4_weighPair 25 = .ok (.iload_n 2, 1) := by decide +kernel
theorem dX4_weighPair_26 : decode cX4_weighPair 26 = .ok (.invokevirtual 52, 3) := by decide +kernel
theorem dX4_weighPair_29 : decode cX4_weighPair 29 = .ok (.i2l, 1) := by decide +kernel
theorem dX4_weighPair_30 : decode cX4_weighPair 30 = .ok (.lmul, 1) := by decide +kernel
theorem dX4_weighPair_31 : decode cX4_weighPair 31 = .ok (.iload 4, 2) := by decide +kernel
theorem dX4_weighPair_33 : decode cX4_weighPair 33 = .ok (.i2l, 1) := by decide +kernel
theorem dX4_weighPair_34 : decode cX4_weighPair 34 = .ok (.ladd, 1) := by decide +kernel
theorem dX4_weighPair_35 : decode cX4_weighPair 35 = .ok (.invokevirtual 56, 3) := by decide +kernel
theorem dX4_weighPair_38 : decode cX4_weighPair 38 = .ok (.return_, 1) := by decide +kernel
theorem dX4_settle_0 : decode cX4_settle 0 = .ok (.aload_n 0, 1) := by decide +kernel
theorem dX4_settle_1 : decode cX4_settle 1 = .ok (.getfield 12, 3) := by decide +kernel
theorem dX4_settle_4 : decode cX4_settle 4 = .ok (.aload_n 0, 1) := by decide +kernel
theorem dX4_settle_5 : decode cX4_settle 5 = .ok (.getfield 22, 3) := by decide +kernel
theorem dX4_settle_8 : decode cX4_settle 8 = .ok (.getfield 35, 3) := by decide +kernel
theorem dX4_settle_11 : decode cX4_settle 11 = .ok (.aload_n 0, 1) := by decide +kernel
theorem dX4_settle_12 : decode cX4_settle 12 = .ok (.getfield 22, 3) := by decide +kernel
theorem dX4_settle_15 : decode cX4_settle 15 = .ok (.getfield 41, 3) := by decide +kernel
theorem dX4_settle_18 : decode cX4_settle 18 = .ok (.invokevirtual 60, 3) := by decide +kernel
theorem dX4_settle_21 : decode cX4_settle 21 = .ok (.lreturn, 1) := by decide +kernel
theorem dX4_leastGain_0 : decode cX4_leastGain 0 = .ok (.aload_n 0, 1) := by decide +kernel
theorem dX4_leastGain_1 : decode cX4_leastGain 1 = .ok (.iconst 1, 1) := by decide +kernel
theorem dX4_leastGain_2 : decode cX4_leastGain 2 = .ok (.iconst 0, 1) := by decide +kernel
theorem dX4_leastGain_3 : decode cX4_leastGain 3 = .ok (.invokevirtual 64, 3) := by decide +kernel
theorem dX4_leastGain_6 : decode cX4_leastGain 6 = .ok (.aload_n 0, 1) := by decide +kernel
theorem dX4_leastGain_7 : decode cX4_leastGain 7 = .ok (.invokevirtual 68, 3) := by decide +kernel
theorem dX4_leastGain_10 : decode cX4_leastGain 10 = .ok (.lreturn, 1) := by decide +kernel
theorem dX4_leastTotal_0 : decode cX4_leastTotal 0 = .ok (.aload_n 0, 1) := by decide +kernel
theorem dX4_leastTotal_1 : decode cX4_leastTotal 1 = .ok (.iconst 1, 1) := by decide +kernel
theorem dX4_leastTotal_2 : decode cX4_leastTotal 2 = .ok (.iconst 0, 1) := by decide +kernel
theorem dX4_leastTotal_3 : decode cX4_leastTotal 3 = .ok (.invokevirtual 64, 3) := by decide +kernel
theorem dX4_leastTotal_6 : decode cX4_leastTotal 6 = .ok (.aload_n 0, 1) := by decide +kernel
theorem dX4_leastTotal_7 : decode cX4_leastTotal 7 = .ok (.getfield 22, 3) := by decide +kernel
theorem dX4_leastTotal_10 : decode cX4_leastTotal 10 = .ok (.getfield 71, 3) := by decide +kernel
theorem dX4_leastTotal_13 : decode cX4_leastTotal 13 = .ok (.i2l, 1) := by decide +kernel
theorem dX4_leastTotal_14 : decode cX4_leastTotal 14 = .ok (.aload_n 0, 1) := by decide +kernel
theorem dX4_leastTotal_15 : decode cX4_leastTotal 15 = .ok (.invokevirtual 68, 3) := by decide +kernel
theorem dX4_leastTotal_18 : decode cX4_leastTotal 18 = .ok (.ladd, 1) := by decide +kernel
theorem dX4_leastTotal_19 : decode cX4_leastTotal 19 = .ok (.lreturn, 1) := by decide +kernel
theorem dX4_leastWith_0 : decode cX4_leastWith 0 = .ok (.aload_n 0, 1) := by decide +kernel
theorem dX4_leastWith_1 : decode cX4_leastWith 1 = .ok (.iconst 1, 1) := by decide +kernel
theorem dX4_leastWith_2 : decode cX4_leastWith 2 = .ok (.iconst 0, 1) := by decide +kernel
theorem dX4_leastWith_3 : decode cX4_leastWith 3 = .ok (.invokevirtual 64, 3) := by decide +kernel
theorem dX4_leastWith_6 : decode cX4_leastWith 6 = .ok (.iconst 0, 1) := by decide +kernel
theorem dX4_leastWith_7 : decode cX4_leastWith 7 = .ok (.istore_n 3, 1) := by decide +kernel
theorem dX4_leastWith_8 : decode cX4_leastWith 8 = .ok (.iload_n 3, 1) := by decide +kernel
theorem dX4_leastWith_9 : decode cX4_leastWith 9 = .ok (.bipush 10, 2) := by decide +kernel
theorem dX4_leastWith_11 : decode cX4_leastWith 11 = .ok (.if_icmp .ge 29, 3) := by decide +kernel
theorem dX4_leastWith_14 : decode cX4_leastWith 14 = .ok (.aload_n 0, 1) := by decide +kernel
theorem dX4_leastWith_15 : decode cX4_leastWith 15 = .ok (.getfield 12, 3) := by decide +kernel
theorem dX4_leastWith_18 : decode cX4_leastWith 18 = .ok (.iload_n 1, 1) := by decide +kernel
theorem dX4_leastWith_19 : decode cX4_leastWith 19 = .ok (.iload_n 3, 1) := by decide +kernel
theorem dX4_leastWith_20 : decode cX4_leastWith 20 = .ok (.lconst 0, 1) := by decide +kernel
theorem dX4_leastWith_21 : decode cX4_leastWith 21 = .ok (.invokevirtual 56, 3) := by decide +kernel
theorem dX4_leastWith_24 : decode cX4_leastWith 24 = .ok (.aload_n 0, 1) := by decide +kernel
theorem dX4_leastWith_25 : decode cX4_leastWith 25 = .ok (.getfield 12, 3) := by decide +kernel
theorem dX4_leastWith_28 : decode cX4_leastWith 28 = .ok (.iload_n 3, 1) := by decide +kernel
theorem dX4_leastWith_29 : decode cX4_leastWith 29 = .ok (.iload_n 2, 1) := by decide +kernel
theorem dX4_leastWith_30 : decode cX4_leastWith 30 = .ok (.lconst 0, 1) := by decide +kernel
theorem dX4_leastWith_31 : decode cX4_leastWith 31 = .ok (.invokevirtual 56, 3) := by decide +kernel
theorem dX4_leastWith_34 : decode cX4_leastWith 34 = .ok (.iinc 3 1, 3) := by decide +kernel
theorem dX4_leastWith_37 : decode cX4_leastWith 37 = .ok (.goto (-29), 3) := by decide +kernel
theorem dX4_leastWith_40 : decode cX4_leastWith 40 = .ok (.aload_n 0, 1) := by decide +kernel
theorem dX4_leastWith_41 : decode cX4_leastWith 41 = .ok (.getfield 22, 3) := by decide +kernel
theorem dX4_leastWith_44 : decode cX4_leastWith 44 = .ok (.getfield 71, 3) := by decide +kernel
theorem dX4_leastWith_47 : decode cX4_leastWith 47 = .ok (.aload_n 0, 1) := by decide +kernel
theorem dX4_leastWith_48 : decode cX4_leastWith 48 = .ok (.getfield 22, 3) := by decide +kernel
theorem dX4_leastWith_51 : decode cX4_leastWith 51 = .ok (.iload_n 1, 1) := by decide +kernel
theorem dX4_leastWith_52 : decode cX4_leastWith 52 = .ok (.iload_n 2, 1) := by decide +kernel
theorem dX4_leastWith_53 : decode cX4_leastWith 53 = .ok (.invokevirtual 52, 3) := by decide +kernel
theorem dX4_leastWith_56 : decode cX4_leastWith 56 = .ok (.iadd, 1) := by decide +kernel
theorem dX4_leastWith_57 : decode cX4_leastWith 57 = .ok (.i2l, 1) := by decide +kernel
theorem dX4_leastWith_58 : decode cX4_leastWith 58 = .ok (.aload_n 0, 1) := by decide +kernel
theorem dX4_leastWith_59 : decode cX4_leastWith 59 = .ok (.invokevirtual 68, 3) := by decide +kernel
theorem dX4_leastWith_62 : decode cX4_leastWith 62 = .ok (.ladd, 1) := by decide +kernel
theorem dX4_leastWith_63 : decode cX4_leastWith 63 = .ok (.lreturn, 1) := by decide +kernel
theorem dX4_leastWithout_0 : decode cX4_leastWithout 0 = .ok (.aload_n 0, 1) := by decide +kernel
theorem dX4_leastWithout_1 : decode cX4_leastWithout 1 = .ok (.iconst 1, 1) := by decide +kernel
theorem dX4_leastWithout_2 : decode cX4_leastWithout 2 = .ok (.iconst 0, 1) := by decide +kernel
theorem dX4_leastWithout_3 : decode cX4_leastWithout 3 = .ok (.invokevirtual 64, 3) := by decide +kernel
theorem dX4_leastWithout_6 : decode cX4_leastWithout 6 = .ok (.aload_n 0, 1) := by decide +kernel
theorem dX4_leastWithout_7 : decode cX4_leastWithout 7 = .ok (.getfield 12, 3) := by decide +kernel
theorem dX4_leastWithout_10 : decode cX4_leastWithout 10 = .ok (.iload_n 1, 1) := by decide +kernel
theorem dX4_leastWithout_11 : decode cX4_leastWithout 11 = .ok (.iload_n 2, 1) := by decide +kernel
theorem dX4_leastWithout_12 : decode cX4_leastWithout 12 = .ok (.lconst 0, 1) := by decide +kernel
theorem dX4_leastWithout_13 : decode cX4_leastWithout 13 = .ok (.invokevirtual 56, 3) := by decide +kernel
theorem dX4_leastWithout_16 : decode cX4_leastWithout 16 = .ok (.aload_n 0, 1) := by decide +kernel
theorem dX4_leastWithout_17 : decode cX4_leastWithout 17 = .ok (.getfield 22, 3) := by decide +kernel
theorem dX4_leastWithout_20 : decode cX4_leastWithout 20 = .ok (.getfield 71, 3) := by decide +kernel
theorem dX4_leastWithout_23 : decode cX4_leastWithout 23 = .ok (.i2l, 1) := by decide +kernel
theorem dX4_leastWithout_24 : decode cX4_leastWithout 24 = .ok (.aload_n 0, 1) := by decide +kernel
theorem dX4_leastWithout_25 : decode cX4_leastWithout 25 = .ok (.invokevirtual 68, 3) := by decide +kernel
theorem dX4_leastWithout_28 : decode cX4_leastWithout 28 = .ok (.ladd, 1) := by decide +kernel
theorem dX4_leastWithout_29 : decode cX4_leastWithout 29 = .ok (.lreturn, 1) := by decide +kernel
theorem dX4_isInAllBest_0 : decode cX4_isInAllBest 0 = .ok (.aload_n 0, 1) := by decide +kernel
theorem dX4_isInAllBest_1 : decode cX4_isInAllBest 1 = .ok (.iload_n 1, 1) := by decide +kernel
theorem dX4_isInAllBest_2 : decode cX4_isInAllBest 2 = .ok (.iload_n 2, 1) := by decide +kernel
theorem dX4_isInAllBest_3 : decode cX4_isInAllBest 3 = .ok (.invokevirtual 74, 3) := by decide +kernel
theorem dX4_isInAllBest_6 : decode cX4_isInAllBest 6 = .ok (.aload_n 0, 1) := by decide +kernel
theorem dX4_isInAllBest_7 : decode cX4_isInAllBest 7 = .ok (.invokevirtual 77, 3) := by decide +kernel
theorem dX4_isInAllBest_10 : decode cX4_isInAllBest 10 = .ok (.lcmp, 1) := by decide +kernel
theorem dX4_isInAllBest_11 : decode cX4_isInAllBest 11 = .ok (.ifCond .le 7, 3) := by decide +kernel
theorem dX4_isInAllBest_14 : decode cX4_isInAllBest 14 = .ok (.iconst 1, 1) := by decide +kernel
theorem dX4_isInAllBest_15 : decode cX4_isInAllBest 15 = .ok (.goto 4, 3) := by decide +kernel
theorem dX4_isInAllBest_18 : decode cX4_isInAllBest 18 = .ok (.iconst 0, 1) := by decide +kernel
theorem dX4_isInAllBest_19 : decode cX4_isInAllBest 19 = .ok (.ireturn, 1) := by decide +kernel
theorem dX4_isAlone_0 : decode cX4_isAlone 0 = .ok (.iload_n 3, 1) := by decide +kernel
theorem dX4_isAlone_1 : decode cX4_isAlone 1 = .ok (.ifCond .eq 7, 3) := by decide +kernel
theorem dX4_isAlone_4 : decode cX4_isAlone 4 = .ok (.iconst (-1), 1) := by decide +kernel
theorem dX4_isAlone_5 : decode cX4_isAlone 5 = .ok (.goto 4, 3) := by decide +kernel
theorem dX4_isAlone_8 : decode cX4_isAlone 8 = .ok (.iconst 1, 1) := by decide +kernel
theorem dX4_isAlone_9 : decode cX4_isAlone 9 = .ok (.istore 4, 2) := by decide +kernel
theorem dX4_isAlone_11 : decode cX4_isAlone 11 = .ok (.aload_n 0, 1) := by decide +kernel
theorem dX4_isAlone_12 : decode cX4_isAlone 12 = .ok (.invokevirtual 80, 3) := by decide +kernel
theorem dX4_isAlone_15 : decode cX4_isAlone 15 = .ok (.lstore 5, 2) := by decide +kernel
theorem dX4_isAlone_17 : decode cX4_isAlone 17 = .ok (.aload_n 0, 1) := by decide +kernel
theorem dX4_isAlone_18 : decode cX4_isAlone 18 = .ok (.iconst 2, 1) := by decide +kernel
theorem dX4_isAlone_19 : decode cX4_isAlone 19 = .ok (.iconst 0, 1) := by decide +kernel
theorem dX4_isAlone_20 : decode cX4_isAlone 20 = .ok (.invokevirtual 64, 3) := by decide +kernel
theorem dX4_isAlone_23 : decode cX4_isAlone 23 = .ok (.iload_n 1, 1) := by decide +kernel
theorem dX4_isAlone_24 : decode cX4_isAlone 24 = .ok (.ifCond .ne 13, 3) := by decide +kernel
theorem dX4_isAlone_27 : decode cX4_isAlone 27 = .ok (.aload_n 0, 1) := by decide +kernel
theorem dX4_isAlone_28 : decode cX4_isAlone 28 = .ok (.getfield 22, 3) := by decide +kernel
theorem dX4_isAlone_31 : decode cX4_isAlone 31 = .ok (.getfield 41, 3) := by decide +kernel
theorem dX4_isAlone_34 : decode cX4_isAlone 34 = .ok (.goto 10, 3) := by decide +kernel
theorem dX4_isAlone_37 : decode cX4_isAlone 37 = .ok (.aload_n 0, 1) := by decide +kernel
theorem dX4_isAlone_38 : decode cX4_isAlone 38 = .ok (.getfield 22, 3) := by decide +kernel
theorem dX4_isAlone_41 : decode cX4_isAlone 41 = .ok (.getfield 35, 3) := by decide +kernel
theorem dX4_isAlone_44 : decode cX4_isAlone 44 = .ok (.istore 7, 2) := by decide +kernel
theorem dX4_isAlone_46 : decode cX4_isAlone 46 = .ok (.iconst 0, 1) := by decide +kernel
theorem dX4_isAlone_47 : decode cX4_isAlone 47 = .ok (.istore 8, 2) := by decide +kernel
theorem dX4_isAlone_49 : decode cX4_isAlone 49 = .ok (.iload 8, 2) := by decide +kernel
theorem dX4_isAlone_51 : decode cX4_isAlone 51 = .ok (.iload 7, 2) := by decide +kernel
theorem dX4_isAlone_53 : decode cX4_isAlone 53 = .ok (.if_icmp .ge 36, 3) := by decide +kernel
theorem dX4_isAlone_56 : decode cX4_isAlone 56 = .ok (.aload_n 0, 1) := by decide +kernel
theorem dX4_isAlone_57 : decode cX4_isAlone 57 = .ok (.iload_n 1, 1) := by decide +kernel
theorem dX4_isAlone_58 : decode cX4_isAlone 58 = .ok (.ifCond .ne 7, 3) := by decide +kernel
theorem dX4_isAlone_61 : decode cX4_isAlone 61 = .ok (.iload_n 2, 1) := by decide +kernel
theorem dX4_isAlone_62 : decode cX4_isAlone 62 = .ok (.goto 5, 3) := by decide +kernel
theorem dX4_isAlone_65 : decode cX4_isAlone 65 = .ok (.iload 8, 2) := by decide +kernel
theorem dX4_isAlone_67 : decode cX4_isAlone 67 = .ok (.iload_n 1, 1) := by decide +kernel
theorem dX4_isAlone_68 : decode cX4_isAlone 68 = .ok (.ifCond .ne 8, 3) := by decide +kernel
theorem dX4_isAlone_71 : decode cX4_isAlone 71 = .ok (.iload 8, 2) := by decide +kernel
theorem dX4_isAlone_73 : decode cX4_isAlone 73 = .ok (.goto 4, 3) := by decide +kernel
theorem dX4_isAlone_76 : decode cX4_isAlone 76 = .ok (.iload_n 2, 1) := by decide +kernel
theorem dX4_isAlone_77 : decode cX4_isAlone 77 = .ok (.iconst 2, 1) := by decide +kernel
theorem dX4_isAlone_78 : decode cX4_isAlone 78 = .ok (.iload 4, 2) := by decide +kernel
theorem dX4_isAlone_80 : decode cX4_isAlone 80 = .ok (.invokevirtual 44, 3) := by decide +kernel
theorem dX4_isAlone_83 : decode cX4_isAlone 83 = .ok (.iinc 8 1, 3) := by decide +kernel
theorem dX4_isAlone_86 : decode cX4_isAlone 86 = .ok (.goto (-37), 3) := by decide +kernel
theorem dX4_isAlone_89 : decode cX4_isAlone 89 = .ok (.aload_n 0, 1) := by decide +kernel
theorem dX4_isAlone_90 : decode cX4_isAlone 90 = .ok (.invokevirtual 68, 3) := by decide +kernel
theorem dX4_isAlone_93 : decode cX4_isAlone 93 = .ok (.ldc2_w 83, 3) := by decide +kernel
theorem dX4_isAlone_96 : decode cX4_isAlone 96 = .ok (.lload 5, 2) := by decide +kernel
theorem dX4_isAlone_98 : decode cX4_isAlone 98 = .ok (.lmul, 1) := by decide +kernel
theorem dX4_isAlone_99 : decode cX4_isAlone 99 = .ok (.lcmp, 1) := by decide +kernel
theorem dX4_isAlone_100 : decode cX4_isAlone 100 = .ok (.ifCond .ne 7, 3) := by decide +kernel
theorem dX4_isAlone_103 : decode cX4_isAlone 103 = .ok (.iconst 1, 1) := by decide +kernel
theorem dX4_isAlone_104 : decode cX4_isAlone 104 = .ok (.goto 4, 3) := by decide +kernel
theorem dX4_isAlone_107 : decode cX4_isAlone 107 = .ok (.iconst 0, 1) := by decide +kernel
theorem dX4_isAlone_108 : decode cX4_isAlone 108 = .ok (.ireturn, 1) := by decide +kernel
theorem dX4_fewestInBest_0 : decode cX4_fewestInBest 0 = .ok (.aload_n 0, 1) := by decide +kernel
theorem dX4_fewestInBest_1 : decode cX4_fewestInBest 1 = .ok (.invokevirtual 80, 3) := by decide +kernel
theorem dX4_fewestInBest_4 : decode cX4_fewestInBest 4 = .ok (.lstore_n 1, 1) := by decide +kernel
theorem dX4_fewestInBest_5 : decode cX4_fewestInBest 5 = .ok (.aload_n 0, 1) := by decide +kernel
theorem dX4_fewestInBest_6 : decode cX4_fewestInBest 6 = .ok (.bipush 32, 2) := by decide +kernel
theorem dX4_fewestInBest_8 : decode cX4_fewestInBest 8 = .ok (.iconst 1, 1) := by decide +kernel
theorem dX4_fewestInBest_9 : decode cX4_fewestInBest 9 = .ok (.invokevirtual 64, 3) := by decide +kernel
theorem dX4_fewestInBest_12 : decode cX4_fewestInBest 12 = .ok (.aload_n 0, 1) := by decide +kernel
theorem dX4_fewestInBest_13 : decode cX4_fewestInBest 13 = .ok (.invokevirtual 68, 3) := by decide +kernel
theorem dX4_fewestInBest_16 : decode cX4_fewestInBest 16 = .ok (.ldc2_w 85, 3) := by decide +kernel
theorem dX4_fewestInBest_19 : decode cX4_fewestInBest 19 = .ok (.lload_n 1, 1) := by decide +kernel
theorem dX4_fewestInBest_20 : decode cX4_fewestInBest 20 = .ok (.lmul, 1) := by decide +kernel
theorem dX4_fewestInBest_21 : decode cX4_fewestInBest 21 = .ok (.lsub, 1) := by decide +kernel
theorem dX4_fewestInBest_22 : decode cX4_fewestInBest 22 = .ok (.l2i, 1) := by decide +kernel
theorem dX4_fewestInBest_23 : decode cX4_fewestInBest 23 = .ok (.ireturn, 1) := by decide +kernel
theorem dX4_mostInBest_0 : decode cX4_mostInBest 0 = .ok (.aload_n 0, 1) := by decide +kernel
theorem dX4_mostInBest_1 : decode cX4_mostInBest 1 = .ok (.invokevirtual 80, 3) := by decide +kernel
theorem dX4_mostInBest_4 : decode cX4_mostInBest 4 = .ok (.lstore_n 1, 1) := by decide +kernel
theorem dX4_mostInBest_5 : decode cX4_mostInBest 5 = .ok (.aload_n 0, 1) := by decide +kernel
theorem dX4_mostInBest_6 : decode cX4_mostInBest 6 = .ok (.bipush 32, 2) := by decide +kernel
theorem dX4_mostInBest_8 : decode cX4_mostInBest 8 = .ok (.iconst (-1), 1) := by decide +kernel
theorem dX4_mostInBest_9 : decode cX4_mostInBest 9 = .ok (.invokevirtual 64, 3) := by decide +kernel
theorem dX4_mostInBest_12 : decode cX4_mostInBest 12 = .ok (.ldc2_w 85, 3) := by decide +kernel
theorem dX4_mostInBest_15 : decode cX4_mostInBest 15 = .ok (.lload_n 1, 1) := by decide +kernel
theorem dX4_mostInBest_16 : decode cX4_mostInBest 16 = .ok (.lmul, 1) := by decide +kernel
theorem dX4_mostInBest_17 : decode cX4_mostInBest 17 = .ok (.aload_n 0, 1) := by decide +kernel
theorem dX4_mostInBest_18 : decode cX4_mostInBest 18 = .ok (.invokevirtual 68, 3) := by decide +kernel
theorem dX4_mostInBest_21 : decode cX4_mostInBest 21 = .ok (.lsub, 1) := by decide +kernel
theorem dX4_mostInBest_22 : decode cX4_mostInBest 22 = .ok (.l2i, 1) := by decide +kernel
theorem dX4_mostInBest_23 : decode cX4_mostInBest 23 = .ok (.ireturn, 1) := by decide +kernel
theorem dX4_findFirst_0 : decode cX4_findFirst 0 = .ok (.aload_n 0, 1) := by decide +kernel
theorem dX4_findFirst_1 : decode cX4_findFirst 1 = .ok (.getfield 12, 3) := by decide +kernel
theorem dX4_findFirst_4 : decode cX4_findFirst 4 = .ok (.invokevirtual 32, 3) := by decide +kernel
theorem dX4_findFirst_7 : decode cX4_findFirst 7 = .ok (.ldc2_w 87, 3) := by decide +kernel
theorem dX4_findFirst_10 : decode cX4_findFirst 10 = .ok (.lstore_n 1, 1) := by decide +kernel
theorem dX4_findFirst_11 : decode cX4_findFirst 11 = .ok (.iconst 0, 1) := by decide +kernel
theorem dX4_findFirst_12 : decode cX4_findFirst 12 = .ok (.istore_n 3, 1) := by decide +kernel
theorem dX4_findFirst_13 : decode cX4_findFirst 13 = .ok (.iload_n 3, 1) := by decide +kernel
theorem dX4_findFirst_14 : decode cX4_findFirst 14 = .ok (.aload_n 0, 1) := by decide +kernel
theorem dX4_findFirst_15 : decode cX4_findFirst 15 = .ok (.getfield 22, 3) := by decide +kernel
theorem dX4_findFirst_18 : decode cX4_findFirst 18 = .ok (.getfield 35, 3) := by decide +kernel
theorem dX4_findFirst_21 : decode cX4_findFirst 21 = .ok (.if_icmp .ge 87, 3) := by decide +kernel
theorem dX4_findFirst_24 : decode cX4_findFirst 24 = .ok (.lload_n 1, 1) := by decide +kernel
theorem dX4_findFirst_25 : decode cX4_findFirst 25 = .ok (.ldc2_w 89, 3) := by decide +kernel
theorem dX4_findFirst_28 : decode cX4_findFirst 28 = .ok (.ldiv, 1) := by decide +kernel
theorem dX4_findFirst_29 : decode cX4_findFirst 29 = .ok (.lstore_n 1, 1) := by decide +kernel
theorem dX4_findFirst_30 : decode cX4_findFirst 30 = .ok (.iconst 0, 1) := by decide +kernel
theorem dX4_findFirst_31 : decode cX4_findFirst 31 = .ok (.istore 4, 2) := by decide +kernel
theorem dX4_findFirst_33 : decode cX4_findFirst 33 = .ok (.iload 4, 2) := by decide +kernel
theorem dX4_findFirst_35 : decode cX4_findFirst 35 = .ok (.aload_n 0, 1) := by decide +kernel
theorem dX4_findFirst_36 : decode cX4_findFirst 36 = .ok (.getfield 22, 3) := by decide +kernel
theorem dX4_findFirst_39 : decode cX4_findFirst 39 = .ok (.getfield 41, 3) := by decide +kernel
theorem dX4_findFirst_42 : decode cX4_findFirst 42 = .ok (.if_icmp .ge 60, 3) := by decide +kernel
theorem dX4_findFirst_45 : decode cX4_findFirst 45 = .ok (.aload_n 0, 1) := by decide +kernel
theorem dX4_findFirst_46 : decode cX4_findFirst 46 = .ok (.getfield 22, 3) := by decide +kernel
theorem dX4_findFirst_49 : decode cX4_findFirst 49 = .ok (.iload_n 3, 1) := by decide +kernel
theorem dX4_findFirst_50 : decode cX4_findFirst 50 = .ok (.iload 4, 2) := by decide +kernel
theorem dX4_findFirst_52 : decode cX4_findFirst 52 = .ok (.invokevirtual 48, 3) := by decide +kernel
theorem dX4_findFirst_55 : decode cX4_findFirst 55 = .ok (.ifCond .eq 41, 3) := by decide +kernel
theorem dX4_findFirst_58 : decode cX4_findFirst 58 = .ok (.bipush 10, 2) := by decide +kernel
theorem dX4_findFirst_60 : decode cX4_findFirst 60 = .ok (.iload 4, 2) := by decide +kernel
theorem dX4_findFirst_62 : decode cX4_findFirst 62 = .ok (.isub, 1) := by decide +kernel
theorem dX4_findFirst_63 : decode cX4_findFirst 63 = .ok (.i2l, 1) := by decide +kernel
theorem dX4_findFirst_64 : decode cX4_findFirst 64 = .ok (.lload_n 1, 1) := by decide +kernel
theorem dX4_findFirst_65 : decode cX4_findFirst 65 = .ok (.lmul, 1) := by decide +kernel
theorem dX4_findFirst_66 : decode cX4_findFirst 66 = .ok (.lstore 5, 2) := by decide +kernel
theorem dX4_findFirst_68 : decode cX4_findFirst 68 = .ok (.aload_n 0, 1) := by decide +kernel
theorem dX4_findFirst_69 : decode cX4_findFirst 69 = .ok (.getfield 12, 3) := by decide +kernel
theorem dX4_findFirst_72 : decode cX4_findFirst 72 = .ok (.iload_n 3, 1) := by decide +kernel
theorem dX4_findFirst_73 : decode cX4_findFirst 73 = .ok (.iload 4, 2) := by decide +kernel
theorem dX4_findFirst_75 : decode cX4_findFirst 75 = .ok (.ldc2_w 87, 3) := by decide +kernel
theorem dX4_findFirst_78 : decode cX4_findFirst 78 = .ok (.aload_n 0, 1) := by decide +kernel
theorem dX4_findFirst_79 : decode cX4_findFirst 79 = .ok (.getfield 22, 3) := by decide +kernel
theorem dX4_findFirst_82 : decode cX4_findFirst 82 = .ok (.iload_n 3, 1) := by decide +kernel
theorem dX4_findFirst_83 : decode cX4_findFirst 83 = .ok (.iload 4, 2) := by decide +kernel
theorem dX4_findFirst_85 : decode cX4_findFirst 85 = .ok (.invokevirtual 52, 3) := by decide +kernel
theorem dX4_findFirst_88 : decode cX4_findFirst 88 = .ok (.i2l, 1) := by decide +kernel
theorem dX4_findFirst_89 : decode cX4_findFirst 89 = .ok (.lmul, 1) := by decide +kernel
theorem dX4_findFirst_90 : decode cX4_findFirst 90 = .ok (.lload 5, 2) := by decide +kernel
theorem dX4_findFirst_92 : decode cX4_findFirst 92 = .ok (.lsub, 1) := by decide +kernel
theorem dX4_findFirst_93 : decode cX4_findFirst 93 = .ok (.invokevirtual 56, 3) := by decide +kernel
theorem dX4_findFirst_96 : decode cX4_findFirst 96 = .ok (.iinc 4 1, 3) := by decide +kernel
theorem dX4_findFirst_99 : decode cX4_findFirst 99 = .ok (.goto (-66), 3) := by decide +kernel
theorem dX4_findFirst_102 : decode cX4_findFirst 102 = .ok (.iinc 3 1, 3) := by decide +kernel
theorem dX4_findFirst_105 : decode cX4_findFirst 105 = .ok (.goto (-92), 3) := by decide +kernel
theorem dX4_findFirst_108 : decode cX4_findFirst 108 = .ok (.aload_n 0, 1) := by decide +kernel
theorem dX4_findFirst_109 : decode cX4_findFirst 109 = .ok (.invokevirtual 68, 3) := by decide +kernel
theorem dX4_findFirst_112 : decode cX4_findFirst 112 = .ok (.pop2, 1) := by decide +kernel
theorem dX4_findFirst_113 : decode cX4_findFirst 113 = .ok (.iconst 0, 1) := by decide +kernel
theorem dX4_findFirst_114 : decode cX4_findFirst 114 = .ok (.istore_n 3, 1) := by decide +kernel
theorem dX4_findFirst_115 : decode cX4_findFirst 115 = .ok (.iload_n 3, 1) := by decide +kernel
theorem dX4_findFirst_116 : decode cX4_findFirst 116 = .ok (.bipush 10, 2) := by decide +kernel
theorem dX4_findFirst_118 : decode cX4_findFirst 118 = .ok (.if_icmp .ge 36, 3) := by decide +kernel
theorem dX4_findFirst_121 : decode cX4_findFirst 121 = .ok (.aload_n 0, 1) := by decide +kernel
theorem dX4_findFirst_122 : decode cX4_findFirst 122 = .ok (.getfield 18, 3) := by decide +kernel
theorem dX4_findFirst_125 : decode cX4_findFirst 125 = .ok (.iload_n 3, 1) := by decide +kernel
theorem dX4_findFirst_126 : decode cX4_findFirst 126 = .ok (.iload_n 3, 1) := by decide +kernel
theorem dX4_findFirst_127 : decode cX4_findFirst 127 = .ok (.aload_n 0, 1) := by decide +kernel
theorem dX4_findFirst_128 : decode cX4_findFirst 128 = .ok (.getfield 22, 3) := by decide +kernel
theorem dX4_findFirst_131 : decode cX4_findFirst 131 = .ok (.getfield 35, 3) := by decide +kernel
theorem dX4_findFirst_134 : decode cX4_findFirst 134 = .ok (.if_icmp .ge 11, 3) := by decide +kernel
theorem dX4_findFirst_137 : decode cX4_findFirst 137 = .ok (.aload_n 0, 1) := by decide +kernel
theorem dX4_findFirst_138 : decode cX4_findFirst 138 = .ok (.iload_n 3, 1) := by decide +kernel
theorem dX4_findFirst_139 : decode cX4_findFirst 139 = .ok (.invokevirtual 91, 3) := by decide +kernel
theorem dX4_findFirst_142 : decode cX4_findFirst 142 = .ok (.goto 5, 3) := by decide +kernel
theorem dX4_findFirst_145 : decode cX4_findFirst 145 = .ok (.bipush (-4), 2) := by decide +kernel
theorem dX4_findFirst_147 : decode cX4_findFirst 147 = .ok (.iastore, 1) := by decide +kernel
theorem dX4_findFirst_148 : decode cX4_findFirst 148 = .ok (.iinc 3 1, 3) := by decide +kernel
theorem dX4_findFirst_151 : decode cX4_findFirst 151 = .ok (.goto (-36), 3) := by decide +kernel
theorem dX4_findFirst_154 : decode cX4_findFirst 154 = .ok (.return_, 1) := by decide +kernel
theorem dX4_partnerTaken_0 : decode cX4_partnerTaken 0 = .ok (.iconst 0, 1) := by decide +kernel
theorem dX4_partnerTaken_1 : decode cX4_partnerTaken 1 = .ok (.istore_n 2, 1) := by decide +kernel
theorem dX4_partnerTaken_2 : decode cX4_partnerTaken 2 = .ok (.iload_n 2, 1) := by decide +kernel
theorem dX4_partnerTaken_3 : decode cX4_partnerTaken 3 = .ok (.aload_n 0, 1) := by decide +kernel
theorem dX4_partnerTaken_4 : decode cX4_partnerTaken 4 = .ok (.getfield 22, 3) := by decide +kernel
theorem dX4_partnerTaken_7 : decode cX4_partnerTaken 7 = .ok (.getfield 41, 3) := by decide +kernel
theorem dX4_partnerTaken_10 : decode cX4_partnerTaken 10 = .ok (.if_icmp .ge 23, 3) := by decide +kernel
theorem dX4_partnerTaken_13 : decode cX4_partnerTaken 13 = .ok (.aload_n 0, 1) := by decide +kernel
theorem dX4_partnerTaken_14 : decode cX4_partnerTaken 14 = .ok (.getfield 12, 3) := by decide +kernel
theorem dX4_partnerTaken_17 : decode cX4_partnerTaken 17 = .ok (.iload_n 1, 1) := by decide +kernel
theorem dX4_partnerTaken_18 : decode cX4_partnerTaken 18 = .ok (.iload_n 2, 1) := by decide +kernel
theorem dX4_partnerTaken_19 : decode cX4_partnerTaken 19 = .ok (.invokevirtual 95, 3) := by decide +kernel
theorem dX4_partnerTaken_22 : decode cX4_partnerTaken 22 = .ok (.ifCond .eq 5, 3) := by decide +kernel
theorem dX4_partnerTaken_25 : decode cX4_partnerTaken 25 = .ok (.iload_n 2, 1) := by decide +kernel
theorem dX4_partnerTaken_26 : decode cX4_partnerTaken 26 = .ok (.ireturn, 1) := by decide +kernel
theorem dX4_partnerTaken_27 : decode cX4_partnerTaken 27 = .ok (.iinc 2 1, 3) := by decide +kernel
theorem dX4_partnerTaken_30 : decode cX4_partnerTaken 30 = .ok (.goto (-28), 3) := by decide +kernel
theorem dX4_partnerTaken_33 : decode cX4_partnerTaken 33 = .ok (.bipush (-4), 2) := by decide +kernel
theorem dX4_partnerTaken_35 : decode cX4_partnerTaken 35 = .ok (.ireturn, 1) := by decide +kernel
theorem dX4_countFirst_0 : decode cX4_countFirst 0 = .ok (.iconst 0, 1) := by decide +kernel
theorem dX4_countFirst_1 : decode cX4_countFirst 1 = .ok (.istore_n 1, 1) := by decide +kernel
theorem dX4_countFirst_2 : decode cX4_countFirst 2 = .ok (.iconst 0, 1) := by decide +kernel
theorem dX4_countFirst_3 : decode cX4_countFirst 3 = .ok (.istore_n 2, 1) := by decide +kernel
theorem dX4_countFirst_4 : decode cX4_countFirst 4 = .ok (.iload_n 2, 1) := by decide +kernel
theorem dX4_countFirst_5 : decode cX4_countFirst 5 = .ok (.bipush 10, 2) := by decide +kernel
theorem dX4_countFirst_7 : decode cX4_countFirst 7 = .ok (.if_icmp .ge 28, 3) := by decide +kernel
theorem dX4_countFirst_10 : decode cX4_countFirst 10 = .ok (.iload_n 1, 1) := by decide +kernel
theorem dX4_countFirst_11 : decode cX4_countFirst 11 = .ok (.aload_n 0, 1) := by decide +kernel
theorem dX4_countFirst_12 : decode cX4_countFirst 12 = .ok (.getfield 18, 3) := by decide +kernel
theorem dX4_countFirst_15 : decode cX4_countFirst 15 = .ok (.iload_n 2, 1) := by decide +kernel
theorem dX4_countFirst_16 : decode cX4_countFirst 16 = .ok (.iaload, 1) := by decide +kernel
theorem dX4_countFirst_17 : decode cX4_countFirst 17 = .ok (.bipush (-4), 2) := by decide +kernel
theorem dX4_countFirst_19 : decode cX4_countFirst 19 = .ok (.if_icmp .ne 7, 3) := by decide +kernel
theorem dX4_countFirst_22 : decode cX4_countFirst 22 = .ok (.iconst 0, 1) := by decide +kernel
theorem dX4_countFirst_23 : decode cX4_countFirst 23 = .ok (.goto 4, 3) := by decide +kernel
theorem dX4_countFirst_26 : decode cX4_countFirst 26 = .ok (.iconst 1, 1) := by decide +kernel
theorem dX4_countFirst_27 : decode cX4_countFirst 27 = .ok (.iadd, 1) := by decide +kernel
theorem dX4_countFirst_28 : decode cX4_countFirst 28 = .ok (.istore_n 1, 1) := by decide +kernel
theorem dX4_countFirst_29 : decode cX4_countFirst 29 = .ok (.iinc 2 1, 3) := by decide +kernel
theorem dX4_countFirst_32 : decode cX4_countFirst 32 = .ok (.goto (-28), 3) := by decide +kernel
theorem dX4_countFirst_35 : decode cX4_countFirst 35 = .ok (.iload_n 1, 1) := by decide +kernel
theorem dX4_countFirst_36 : decode cX4_countFirst 36 = .ok (.ireturn, 1) := by decide +kernel
theorem dX4_isFirstOnlyBest_0 : decode cX4_isFirstOnlyBest 0 = .ok (.lconst 0, 1) := by decide +kernel
theorem dX4_isFirstOnlyBest_1 : decode cX4_isFirstOnlyBest 1 = .ok (.lstore_n 1, 1) := by decide +kernel
theorem dX4_isFirstOnlyBest_2 : decode cX4_isFirstOnlyBest 2 = .ok (.aload_n 0, 1) := by decide +kernel
theorem dX4_isFirstOnlyBest_3 : decode cX4_isFirstOnlyBest 3 = .ok (.bipush 32, 2) := by decide +kernel
theorem dX4_isFirstOnlyBest_5 : decode cX4_isFirstOnlyBest 5 = .ok (.iconst (-1), 1) := by decide +kernel
theorem dX4_isFirstOnlyBest_6 : decode cX4_isFirstOnlyBest 6 = .ok (.invokevirtual 64, 3) := by decide +kernel
theorem dX4_isFirstOnlyBest_9 : decode cX4_isFirstOnlyBest 9 = .ok (.iconst 0, 1) := by decide +kernel
theorem dX4_isFirstOnlyBest_10 : decode cX4_isFirstOnlyBest 10 = .ok (.istore_n 3, 1) := by decide +kernel
theorem dX4_isFirstOnlyBest_11 : decode cX4_isFirstOnlyBest 11 = .ok (.iload_n 3, 1) := by decide +kernel
theorem dX4_isFirstOnlyBest_12 : decode cX4_isFirstOnlyBest 12 = .ok (.aload_n 0, 1) := by decide +kernel
theorem dX4_isFirstOnlyBest_13 : decode cX4_isFirstOnlyBest 13 = .ok (.getfield 22, 3) := by decide +kernel
theorem dX4_isFirstOnlyBest_16 : decode cX4_isFirstOnlyBest 16 = .ok (.getfield 35, 3) := by decide +kernel
theorem dX4_isFirstOnlyBest_19 : decode cX4_isFirstOnlyBest 19 = .ok (.if_icmp .ge 52, 3) := by decide +kernel
theorem dX4_isFirstOnlyBest_22 : decode cX4_isFirstOnlyBest 22 = .ok (.aload_n 0, 1) := by decide +kernel
theorem dX4_isFirstOnlyBest_23 : decode cX4_isFirstOnlyBest 23 = .ok (.getfield 18, 3) := by decide +kernel
theorem dX4_isFirstOnlyBest_26 : decode cX4_isFirstOnlyBest 26 = .ok (.iload_n 3, 1) := by decide +kernel
theorem dX4_isFirstOnlyBest_27 : decode cX4_isFirstOnlyBest 27 = .ok (.iaload, 1) := by decide +kernel
theorem dX4_isFirstOnlyBest_28 : decode cX4_isFirstOnlyBest 28 = .ok (.bipush (-4), 2) := by decide +kernel
theorem dX4_isFirstOnlyBest_30 : decode cX4_isFirstOnlyBest 30 = .ok (.if_icmp .eq 35, 3) := by decide +kernel
theorem dX4_isFirstOnlyBest_33 : decode cX4_isFirstOnlyBest 33 = .ok (.lload_n 1, 1) := by decide +kernel
theorem dX4_isFirstOnlyBest_34 : decode cX4_isFirstOnlyBest 34 = .ok (.aload_n 0, 1) := by decide +kernel
theorem dX4_isFirstOnlyBest_35 : decode cX4_isFirstOnlyBest 35 = .ok (.getfield 22, 3) := by decide +kernel
theorem dX4_isFirstOnlyBest_38 : decode cX4_isFirstOnlyBest 38 = .ok (.iload_n 3, 1) := by decide +kernel
theorem dX4_isFirstOnlyBest_39 : decode cX4_isFirstOnlyBest 39 = .ok (.aload_n 0, 1) := by decide +kernel
theorem dX4_isFirstOnlyBest_40 : decode cX4_isFirstOnlyBest 40 = .ok (.getfield 18, 3) := by decide +kernel
theorem dX4_isFirstOnlyBest_43 : decode cX4_isFirstOnlyBest 43 = .ok (.iload_n 3, 1) := by decide +kernel
theorem dX4_isFirstOnlyBest_44 : decode cX4_isFirstOnlyBest 44 = .ok (.iaload, 1) := by decide +kernel
theorem dX4_isFirstOnlyBest_45 : decode cX4_isFirstOnlyBest 45 = .ok (.invokevirtual 52, 3) := by decide +kernel
theorem dX4_isFirstOnlyBest_48 : decode cX4_isFirstOnlyBest 48 = .ok (.i2l, 1) := by decide +kernel
theorem dX4_isFirstOnlyBest_49 : decode cX4_isFirstOnlyBest 49 = .ok (.ladd, 1) := by decide +kernel
theorem dX4_isFirstOnlyBest_50 : decode cX4_isFirstOnlyBest 50 = .ok (.lstore_n 1, 1) := by decide +kernel
theorem dX4_isFirstOnlyBest_51 : decode cX4_isFirstOnlyBest 51 = .ok (.aload_n 0, 1) := by decide +kernel
theorem dX4_isFirstOnlyBest_52 : decode cX4_isFirstOnlyBest 52 = .ok (.iload_n 3, 1) := by decide +kernel
theorem dX4_isFirstOnlyBest_53 : decode cX4_isFirstOnlyBest 53 = .ok (.aload_n 0, 1) := by decide +kernel
theorem dX4_isFirstOnlyBest_54 : decode cX4_isFirstOnlyBest 54 = .ok (.getfield 18, 3) := by decide +kernel
theorem dX4_isFirstOnlyBest_57 : decode cX4_isFirstOnlyBest 57 = .ok (.iload_n 3, 1) := by decide +kernel
theorem dX4_isFirstOnlyBest_58 : decode cX4_isFirstOnlyBest 58 = .ok (.iaload, 1) := by decide +kernel
theorem dX4_isFirstOnlyBest_59 : decode cX4_isFirstOnlyBest 59 = .ok (.bipush 32, 2) := by decide +kernel
theorem dX4_isFirstOnlyBest_61 : decode cX4_isFirstOnlyBest 61 = .ok (.iconst 1, 1) := by decide +kernel
theorem dX4_isFirstOnlyBest_62 : decode cX4_isFirstOnlyBest 62 = .ok (.invokevirtual 44, 3) := by decide +kernel
theorem dX4_isFirstOnlyBest_65 : decode cX4_isFirstOnlyBest 65 = .ok (.iinc 3 1, 3) := by decide +kernel
theorem dX4_isFirstOnlyBest_68 : decode cX4_isFirstOnlyBest 68 = .ok (.goto (-57), 3) := by decide +kernel
theorem dX4_isFirstOnlyBest_71 : decode cX4_isFirstOnlyBest 71 = .ok (.aload_n 0, 1) := by decide +kernel
theorem dX4_isFirstOnlyBest_72 : decode cX4_isFirstOnlyBest 72 = .ok (.invokevirtual 68, 3) := by decide +kernel
theorem dX4_isFirstOnlyBest_75 : decode cX4_isFirstOnlyBest 75 = .ok (.ldc2_w 85, 3) := by decide +kernel
theorem dX4_isFirstOnlyBest_78 : decode cX4_isFirstOnlyBest 78 = .ok (.lload_n 1, 1) := by decide +kernel
theorem dX4_isFirstOnlyBest_79 : decode cX4_isFirstOnlyBest 79 = .ok (.lmul, 1) := by decide +kernel
theorem dX4_isFirstOnlyBest_80 : decode cX4_isFirstOnlyBest 80 = .ok (.aload_n 0, 1) := by decide +kernel
theorem dX4_isFirstOnlyBest_81 : decode cX4_isFirstOnlyBest 81 = .ok (.invokevirtual 98, 3) := by decide +kernel
theorem dX4_isFirstOnlyBest_84 : decode cX4_isFirstOnlyBest 84 = .ok (.i2l, 1) := by decide +kernel
theorem dX4_isFirstOnlyBest_85 : decode cX4_isFirstOnlyBest 85 = .ok (.ladd, 1) := by decide +kernel
theorem dX4_isFirstOnlyBest_86 : decode cX4_isFirstOnlyBest 86 = .ok (.lcmp, 1) := by decide +kernel
theorem dX4_isFirstOnlyBest_87 : decode cX4_isFirstOnlyBest 87 = .ok (.ifCond .ne 7, 3) := by decide +kernel
theorem dX4_isFirstOnlyBest_90 : decode cX4_isFirstOnlyBest 90 = .ok (.iconst 1, 1) := by decide +kernel
theorem dX4_isFirstOnlyBest_91 : decode cX4_isFirstOnlyBest 91 = .ok (.goto 4, 3) := by decide +kernel
theorem dX4_isFirstOnlyBest_94 : decode cX4_isFirstOnlyBest 94 = .ok (.iconst 0, 1) := by decide +kernel
theorem dX4_isFirstOnlyBest_95 : decode cX4_isFirstOnlyBest 95 = .ok (.ireturn, 1) := by decide +kernel
theorem dX5_init_0 : decode cX5_init 0 = .ok (.aload_n 0, 1) := by decide +kernel
theorem dX5_init_1 : decode cX5_init 1 = .ok (.invokespecial 3, 3) := by decide +kernel
theorem dX5_init_4 : decode cX5_init 4 = .ok (.aload_n 0, 1) := by decide +kernel
theorem dX5_init_5 : decode cX5_init 5 = .ok (.bipush 100, 2) := by decide +kernel
theorem dX5_init_7 : decode cX5_init 7 = .ok (.newarray .int, 2) := by decide +kernel
theorem dX5_init_9 : decode cX5_init 9 = .ok (.putfield 9, 3) := by decide +kernel
theorem dX5_init_12 : decode cX5_init 12 = .ok (.aload_n 0, 1) := by decide +kernel
theorem dX5_init_13 : decode cX5_init 13 = .ok (.bipush 100, 2) := by decide +kernel
theorem dX5_init_15 : decode cX5_init 15 = .ok (.newarray .int, 2) := by decide +kernel
theorem dX5_init_17 : decode cX5_init 17 = .ok (.putfield 15, 3) := by decide +kernel
theorem dX5_init_20 : decode cX5_init 20 = .ok (.return_, 1) := by decide +kernel
theorem dX5_comparePlates_0 : decode cX5_comparePlates 0 = .ok (.aload_n 0, 1) := by decide +kernel
theorem dX5_comparePlates_1 : decode cX5_comparePlates 1 = .ok (.aload_n 1, 1) := by decide +kernel
theorem dX5_comparePlates_2 : decode cX5_comparePlates 2 = .ok (.getfield 18, 3) := by decide +kernel
theorem dX5_comparePlates_5 : decode cX5_comparePlates 5 = .ok (.getfield 24, 3) := by decide +kernel
theorem dX5_comparePlates_8 : decode cX5_comparePlates 8 = .ok (.putfield 30, 3) := by decide +kernel
theorem dX5_comparePlates_11 : decode cX5_comparePlates 11 = .ok (.aload_n 0, 1) := by decide +kernel
theorem dX5_comparePlates_12 : decode cX5_comparePlates 12 = .ok (.aload_n 1, 1) := by decide +kernel
theorem dX5_comparePlates_13 : decode cX5_comparePlates 13 = .ok (.getfield 33, 3) := by decide +kernel
theorem dX5_comparePlates_16 : decode cX5_comparePlates 16 = .ok (.getfield 24, 3) := by decide +kernel
theorem dX5_comparePlates_19 : decode cX5_comparePlates 19 = .ok (.putfield 36, 3) := by decide +kernel
theorem dX5_comparePlates_22 : decode cX5_comparePlates 22 = .ok (.aload_n 1, 1) := by decide +kernel
theorem dX5_comparePlates_23 : decode cX5_comparePlates 23 = .ok (.getfield 39, 3) := by decide +kernel
theorem dX5_comparePlates_26 : decode cX5_comparePlates 26 = .ok (.getfield 43, 3) := by decide +kernel
theorem dX5_comparePlates_29 : decode cX5_comparePlates 29 = .ok (.bipush 7, 2) := by decide +kernel
theorem dX5_comparePlates_31 : decode cX5_comparePlates 31 = .ok (.iaload, 1) := by decide +kernel
theorem dX5_comparePlates_32 : decode cX5_comparePlates 32 = .ok (.istore_n 3, 1) := by decide +kernel
theorem dX5_comparePlates_33 : decode cX5_comparePlates 33 = .ok (.aload_n 1, 1) := by decide +kernel
theorem dX5_comparePlates_34 : decode cX5_comparePlates 34 = .ok (.getfield 39, 3) := by decide +kernel
theorem dX5_comparePlates_37 : decode cX5_comparePlates 37 = .ok (.getfield 43, 3) := by decide +kernel
theorem dX5_comparePlates_40 : decode cX5_comparePlates 40 = .ok (.bipush 8, 2) := by decide +kernel
theorem dX5_comparePlates_42 : decode cX5_comparePlates 42 = .ok (.iaload, 1) := by decide +kernel
theorem dX5_comparePlates_43 : decode cX5_comparePlates 43 = .ok (.istore 4, 2) := by decide +kernel
theorem dX5_comparePlates_45 : decode cX5_comparePlates 45 = .ok (.aload_n 0, 1) := by decide +kernel
theorem dX5_comparePlates_46 : decode cX5_comparePlates 46 = .ok (.iload_n 3, 1) := by decide +kernel
theorem dX5_comparePlates_47 : decode cX5_comparePlates 47 = .ok (.aload_n 0, 1) := by decide +kernel
theorem dX5_comparePlates_48 : decode cX5_comparePlates 48 = .ok (.getfield 30, 3) := by decide +kernel
theorem dX5_comparePlates_51 : decode cX5_comparePlates 51 = .ok (.imul, 1) := by decide +kernel
theorem dX5_comparePlates_52 : decode cX5_comparePlates 52 = .ok (.iload 4, 2) := by decide +kernel
theorem dX5_comparePlates_54 : decode cX5_comparePlates 54 = .ok (.aload_n 0, 1) := by decide +kernel
theorem dX5_comparePlates_55 : decode cX5_comparePlates 55 = .ok (.getfield 36, 3) := by decide +kernel
theorem dX5_comparePlates_58 : decode cX5_comparePlates 58 = .ok (.imul, 1) := by decide +kernel
theorem dX5_comparePlates_59 : decode cX5_comparePlates 59 = .ok (.iadd, 1) := by decide +kernel
theorem dX5_comparePlates_60 : decode cX5_comparePlates 60 = .ok (.putfield 48, 3) := by decide +kernel
theorem dX5_comparePlates_63 : decode cX5_comparePlates 63 = .ok (.aload_n 0, 1) := by decide +kernel
theorem dX5_comparePlates_64 : decode cX5_comparePlates 64 = .ok (.iload_n 3, 1) := by decide +kernel
theorem dX5_comparePlates_65 : decode cX5_comparePlates 65 = .ok (.iload 4, 2) := by decide +kernel
theorem dX5_comparePlates_67 : decode cX5_comparePlates 67 = .ok (.iadd, 1) := by decide +kernel
theorem dX5_comparePlates_68 : decode cX5_comparePlates 68 = .ok (.putfield 51, 3) := by decide +kernel
theorem dX5_comparePlates_71 : decode cX5_comparePlates 71 = .ok (.iconst 0, 1) := by decide +kernel
theorem dX5_comparePlates_72 : decode cX5_comparePlates 72 = .ok (.istore 5, 2) := by decide +kernel
theorem dX5_comparePlates_74 : decode cX5_comparePlates 74 = .ok (.iload 5, 2) := by decide +kernel
theorem dX5_comparePlates_76 : decode cX5_comparePlates 76 = .ok (.aload_n 0, 1) := by decide +kernel
theorem dX5_comparePlates_77 : decode cX5_comparePlates 77 = .ok (.getfield 30, 3) := by decide +kernel
theorem dX5_comparePlates_80 : decode cX5_comparePlates 80 = .ok (.if_icmp .ge 49, 3) := by decide +kernel
theorem dX5_comparePlates_83 : decode cX5_comparePlates 83 = .ok (.iconst 0, 1) := by decide +kernel
theorem dX5_comparePlates_84 : decode cX5_comparePlates 84 = .ok (.istore 6, 2) := by decide +kernel
theorem dX5_comparePlates_86 : decode cX5_comparePlates 86 = .ok (.iload 6, 2) := by decide +kernel
theorem dX5_comparePlates_88 : decode cX5_comparePlates 88 = .ok (.aload_n 0, 1) := by decide +kernel
theorem dX5_comparePlates_89 : decode cX5_comparePlates 89 = .ok (.getfield 36, 3) := by decide +kernel
theorem dX5_comparePlates_92 : decode cX5_comparePlates 92 = .ok (.if_icmp .ge 31, 3) := by decide +kernel
theorem dX5_comparePlates_95 : decode cX5_comparePlates 95 = .ok (.aload_n 0, 1) := by decide +kernel
theorem dX5_comparePlates_96 : decode cX5_comparePlates 96 = .ok (.getfield 9, 3) := by decide +kernel
theorem dX5_comparePlates_99 : decode cX5_comparePlates 99 = .ok (.iload 5, 2) := by decide +kernel
theorem dX5_comparePlates_101 : decode cX5_comparePlates 101 = .ok (.bipush 10, 2) := by decide +kernel
theorem dX5_comparePlates_103 : decode cX5_comparePlates 103 = .ok (.imul, 1) := by decide +kernel
theorem dX5_comparePlates_104 : decode cX5_comparePlates 104 = .ok (.iload 6, 2) := by decide +kernel
theorem dX5_comparePlates_106 : decode cX5_comparePlates 106 = .ok (.iadd, 1) := by decide +kernel
theorem dX5_comparePlates_107 : decode cX5_comparePlates 107 = .ok (.aload_n 1, 1) := by decide +kernel
theorem dX5_comparePlates_108 : decode cX5_comparePlates 108 = .ok (.iload 5, 2) := by decide +kernel
theorem dX5_comparePlates_110 : decode cX5_comparePlates 110 = .ok (.iload 6, 2) := by decide +kernel
theorem dX5_comparePlates_112 : decode cX5_comparePlates 112 = .ok (.iload_n 2, 1) := by decide +kernel
theorem dX5_comparePlates_113 : decode cX5_comparePlates 113 = .ok (.invokestatic 54, 3) := by decide +kernel
theorem dX5_comparePlates_116 : decode cX5_comparePlates 116 = .ok (.iastore, 1) := by decide +kernel
theorem dX5_comparePlates_117 : decode cX5_comparePlates 117 = .ok (.iinc 6 1, 3) := by decide +kernel
theorem dX5_comparePlates_120 : decode cX5_comparePlates 120 = .ok (.goto (-34), 3) := by decide +kernel
theorem dX5_comparePlates_123 : decode cX5_comparePlates 123 = .ok (.iinc 5 1, 3) := by decide +kernel
theorem dX5_comparePlates_126 : decode cX5_comparePlates 126 = .ok (.goto (-52), 3) := by decide +kernel
theorem dX5_comparePlates_129 : decode cX5_comparePlates 129 = .ok (.return_, 1) := by decide +kernel
theorem dX5_addTimes_0 : decode cX5_addTimes 0 = .ok (.iconst 0, 1) := by decide +kernel
theorem dX5_addTimes_1 : decode cX5_addTimes 1 = .ok (.istore_n 3, 1) := by decide +kernel
theorem dX5_addTimes_2 : decode cX5_addTimes 2 = .ok (.iload_n 3, 1) := by decide +kernel
theorem dX5_addTimes_3 : decode cX5_addTimes 3 = .ok (.aload_n 0, 1) := by decide +kernel
theorem dX5_addTimes_4 : decode cX5_addTimes 4 = .ok (.getfield 30, 3) := by decide +kernel
theorem dX5_addTimes_7 : decode cX5_addTimes 7 = .ok (.if_icmp .ge 77, 3) := by decide +kernel
theorem dX5_addTimes_10 : decode cX5_addTimes 10 = .ok (.iconst 0, 1) := by decide +kernel
theorem dX5_addTimes_11 : decode cX5_addTimes 11 = .ok (.istore 4, 2) := by decide +kernel
theorem dX5_addTimes_13 : decode cX5_addTimes 13 = .ok (.iload 4, 2) := by decide +kernel
theorem dX5_addTimes_15 : decode cX5_addTimes 15 = .ok (.aload_n 0, 1) := by decide +kernel
theorem dX5_addTimes_16 : decode cX5_addTimes 16 = .ok (.getfield 36, 3) := by decide +kernel
theorem dX5_addTimes_19 : decode cX5_addTimes 19 = .ok (.if_icmp .ge 59, 3) := by decide +kernel
theorem dX5_addTimes_22 : decode cX5_addTimes 22 = .ok (.aload_n 0, 1) := by decide +kernel
theorem dX5_addTimes_23 : decode cX5_addTimes 23 = .ok (.getfield 9, 3) := by decide +kernel
theorem dX5_addTimes_26 : decode cX5_addTimes 26 = .ok (.iload_n 3, 1) := by decide +kernel
theorem dX5_addTimes_27 : decode cX5_addTimes 27 = .ok (.bipush 10, 2) := by decide +kernel
theorem dX5_addTimes_29 : decode cX5_addTimes 29 = .ok (.imul, 1) := by decide +kernel
theorem dX5_addTimes_30 : decode cX5_addTimes 30 = .ok (.iload 4, 2) := by decide +kernel
theorem dX5_addTimes_32 : decode cX5_addTimes 32 = .ok (.iadd, 1) := by decide +kernel
theorem dX5_addTimes_33 : decode cX5_addTimes 33 = .ok (.iaload, 1) := by decide +kernel
theorem dX5_addTimes_34 : decode cX5_addTimes 34 = .ok (.istore 5, 2) := by decide +kernel
theorem dX5_addTimes_36 : decode cX5_addTimes 36 = .ok (.aload_n 1, 1) := by decide +kernel
theorem dX5_addTimes_37 : decode cX5_addTimes 37 = .ok (.iload_n 3, 1) := by decide +kernel
theorem dX5_addTimes_38 : decode cX5_addTimes 38 = .ok (.iload 4, 2) := by decide +kernel
theorem dX5_addTimes_40 : decode cX5_addTimes 40 = .ok (.iload_n 2, 1) := by decide +kernel
theorem dX5_addTimes_41 : decode cX5_addTimes 41 = .ok (.invokevirtual 58, 3) := by decide +kernel
theorem dX5_addTimes_44 : decode cX5_addTimes 44 = .ok (.istore 6, 2) := by decide +kernel
theorem dX5_addTimes_46 : decode cX5_addTimes 46 = .ok (.aload_n 0, 1) := by decide +kernel
theorem dX5_addTimes_47 : decode cX5_addTimes 47 = .ok (.getfield 15, 3) := by decide +kernel
theorem dX5_addTimes_50 : decode cX5_addTimes 50 = .ok (.iload_n 3, 1) := by decide +kernel
theorem dX5_addTimes_51 : decode cX5_addTimes 51 = .ok (.bipush 10, 2) := by decide +kernel
theorem dX5_addTimes_53 : decode cX5_addTimes 53 = .ok (.imul, 1) := by decide +kernel
theorem dX5_addTimes_54 : decode cX5_addTimes 54 = .ok (.iload 4, 2) := by decide +kernel
theorem dX5_addTimes_56 : decode cX5_addTimes 56 = .ok (.iadd, 1) := by decide +kernel
theorem dX5_addTimes_57 : decode cX5_addTimes 57 = .ok (.aload_n 1, 1) := by decide +kernel
theorem dX5_addTimes_58 : decode cX5_addTimes 58 = .ok (.getfield 39, 3) := by decide +kernel
theorem dX5_addTimes_61 : decode cX5_addTimes 61 = .ok (.getfield 43, 3) := by decide +kernel
theorem dX5_addTimes_64 : decode cX5_addTimes 64 = .ok (.iload 5, 2) := by decide +kernel
theorem dX5_addTimes_66 : decode cX5_addTimes 66 = .ok (.iload 6, 2) := by decide +kernel
theorem dX5_addTimes_68 : decode cX5_addTimes 68 = .ok (.invokestatic 62, 3) := by decide +kernel
theorem dX5_addTimes_71 : decode cX5_addTimes 71 = .ok (.iastore, 1) := by decide +kernel
theorem dX5_addTimes_72 : decode cX5_addTimes 72 = .ok (.iinc 4 1, 3) := by decide +kernel
theorem dX5_addTimes_75 : decode cX5_addTimes 75 = .ok (.goto (-62), 3) := by decide +kernel
theorem dX5_addTimes_78 : decode cX5_addTimes 78 = .ok (.iinc 3 1, 3) := by decide +kernel
theorem dX5_addTimes_81 : decode cX5_addTimes 81 = .ok (.goto (-79), 3) := by decide +kernel
theorem dX5_addTimes_84 : decode cX5_addTimes 84 = .ok (.return_, 1) := by decide +kernel
theorem dX5_costBy_0 : decode cX5_costBy 0 = .ok (.iload_n 1, 1) := by decide +kernel
theorem dX5_costBy_1 : decode cX5_costBy 1 = .ok (.bipush (-4), 2) := by decide +kernel
theorem dX5_costBy_3 : decode cX5_costBy 3 = .ok (.if_icmp .eq 16, 3) := by decide +kernel
theorem dX5_costBy_6 : decode cX5_costBy 6 = .ok (.iload_n 2, 1) := by decide +kernel
theorem dX5_costBy_7 : decode cX5_costBy 7 = .ok (.aload_n 0, 1) := by decide +kernel
theorem dX5_costBy_8 : decode cX5_costBy 8 = .ok (.iconst 0, 1) := by decide +kernel
theorem dX5_costBy_9 : decode cX5_costBy 9 = .ok (.iaload, 1) := by decide +kernel
theorem dX5_costBy_10 : decode cX5_costBy 10 = .ok (.aload_n 0, 1) := by decide +kernel
theorem dX5_costBy_11 : decode cX5_costBy 11 = .ok (.iconst 1, 1) := by decide +kernel
theorem dX5_costBy_12 : decode cX5_costBy 12 = .ok (.iaload, 1) := by decide +kernel
theorem dX5_costBy_13 : decode cX5_costBy 13 = .ok (.invokestatic 66, 3) := by decide +kernel
theorem dX5_costBy_16 : decode cX5_costBy 16 = .ok (.ifCond .ne 6, 3) := by decide +kernel
theorem dX5_costBy_19 : decode cX5_costBy 19 = .ok (.bipush (-4), 2) := by decide +kernel
theorem dX5_costBy_21 : decode cX5_costBy 21 = .ok (.ireturn, 1) := by decide +kernel
theorem dX5_costBy_22 : decode cX5_costBy 22 = .ok (.iload_n 1, 1) := by decide +kernel
theorem dX5_costBy_23 : decode cX5_costBy 23 = .ok (.iload_n 2, 1) := by decide +kernel
theorem dX5_costBy_24 : decode cX5_costBy 24 = .ok (.aload_n 0, 1) := by decide +kernel
theorem dX5_costBy_25 : decode cX5_costBy 25 = .ok (.iconst 2, 1) := by decide +kernel
theorem dX5_costBy_26 : decode cX5_costBy 26 = .ok (.iaload, 1) := by decide +kernel
theorem dX5_costBy_27 : decode cX5_costBy 27 = .ok (.isub, 1) := by decide +kernel
theorem dX5_costBy_28 : decode cX5_costBy 28 = .ok (.invokestatic 70, 3) := by decide +kernel
theorem dX5_costBy_31 : decode cX5_costBy 31 = .ok (.aload_n 0, 1) := by decide +kernel
theorem dX5_costBy_32 : decode cX5_costBy 32 = .ok (.iconst 3, 1) := by decide +kernel
theorem dX5_costBy_33 : decode cX5_costBy 33 = .ok (.iaload, 1) := by decide +kernel
theorem dX5_costBy_34 : decode cX5_costBy 34 = .ok (.imul, 1) := by decide +kernel
theorem dX5_costBy_35 : decode cX5_costBy 35 = .ok (.iadd, 1) := by decide +kernel
theorem dX5_costBy_36 : decode cX5_costBy 36 = .ok (.ireturn, 1) := by decide +kernel
theorem dX5_pointsBut_0 : decode cX5_pointsBut 0 = .ok (.aload_n 0, 1) := by decide +kernel
theorem dX5_pointsBut_1 : decode cX5_pointsBut 1 = .ok (.getfield 18, 3) := by decide +kernel
theorem dX5_pointsBut_4 : decode cX5_pointsBut 4 = .ok (.getfield 76, 3) := by decide +kernel
theorem dX5_pointsBut_7 : decode cX5_pointsBut 7 = .ok (.iload_n 1, 1) := by decide +kernel
theorem dX5_pointsBut_8 : decode cX5_pointsBut 8 = .ok (.iaload, 1) := by decide +kernel
theorem dX5_pointsBut_9 : decode cX5_pointsBut 9 = .ok (.aload_n 0, 1) := by decide +kernel
theorem dX5_pointsBut_10 : decode cX5_pointsBut 10 = .ok (.getfield 33, 3) := by decide +kernel
theorem dX5_pointsBut_13 : decode cX5_pointsBut 13 = .ok (.getfield 76, 3) := by decide +kernel
theorem dX5_pointsBut_16 : decode cX5_pointsBut 16 = .ok (.iload_n 2, 1) := by decide +kernel
theorem dX5_pointsBut_17 : decode cX5_pointsBut 17 = .ok (.iaload, 1) := by decide +kernel
theorem dX5_pointsBut_18 : decode cX5_pointsBut 18 = .ok (.invokestatic 79, 3) := by decide +kernel
theorem dX5_pointsBut_21 : decode cX5_pointsBut 21 = .ok (.istore 4, 2) := by decide +kernel
theorem dX5_pointsBut_23 : decode cX5_pointsBut 23 = .ok (.iload 4, 2) := by decide +kernel
theorem dX5_pointsBut_25 : decode cX5_pointsBut 25 = .ok (.ifCond .eq 16, 3) := by decide +kernel
theorem dX5_pointsBut_28 : decode cX5_pointsBut 28 = .ok (.aload_n 0, 1) := by decide +kernel
theorem dX5_pointsBut_29 : decode cX5_pointsBut 29 = .ok (.getfield 39, 3) := by decide +kernel
theorem dX5_pointsBut_32 : decode cX5_pointsBut 32 = .ok (.getfield 43, 3) := by decide +kernel
theorem dX5_pointsBut_35 : decode cX5_pointsBut 35 = .ok (.bipush 6, 2) := by decide +kernel
theorem dX5_pointsBut_37 : decode cX5_pointsBut 37 = .ok (.iaload, 1) := by decide +kernel
theorem dX5_pointsBut_38 : decode cX5_pointsBut 38 = .ok (.goto 4, 3) := by decide +kernel
theorem dX5_pointsBut_41 : decode cX5_pointsBut 41 = .ok (.iconst 0, 1) := by decide +kernel
theorem dX5_pointsBut_42 : decode cX5_pointsBut 42 = .ok (.istore 5, 2) := by decide +kernel
theorem dX5_pointsBut_44 : decode cX5_pointsBut 44 = .ok (.iconst 0, 1) := by decide +kernel
theorem dX5_pointsBut_45 : decode cX5_pointsBut 45 = .ok (.istore 6, 2) := by decide +kernel
theorem dX5_pointsBut_47 : decode cX5_pointsBut 47 = .ok (.iload 6, 2) := by decide +kernel
theorem dX5_pointsBut_49 : decode cX5_pointsBut 49 = .ok (.iconst 4, 1) := by decide +kernel
theorem dX5_pointsBut_50 : decode cX5_pointsBut 50 = .ok (.if_icmp .ge 84, 3) := by decide +kernel
theorem dX5_pointsBut_53 : decode cX5_pointsBut 53 = .ok (.aload_n 0, 1) := by decide +kernel
theorem dX5_pointsBut_54 : decode cX5_pointsBut 54 = .ok (.getfield 18, 3) := by decide +kernel
theorem dX5_pointsBut_57 : decode cX5_pointsBut 57 = .ok (.getfield 83, 3) := by decide +kernel
theorem dX5_pointsBut_60 : decode cX5_pointsBut 60 = .ok (.iload_n 1, 1) := by decide +kernel
theorem dX5_pointsBut_61 : decode cX5_pointsBut 61 = .ok (.iconst 4, 1) := by decide +kernel
theorem dX5_pointsBut_62 : decode cX5_pointsBut 62 = .ok (.imul, 1) := by decide +kernel
theorem dX5_pointsBut_63 : decode cX5_pointsBut 63 = .ok (.iload 6, 2) := by decide +kernel
theorem dX5_pointsBut_65 : decode cX5_pointsBut 65 = .ok (.iadd, 1) := by decide +kernel
theorem dX5_pointsBut_66 : decode cX5_pointsBut 66 = .ok (.iaload, 1) := by decide +kernel
theorem dX5_pointsBut_67 : decode cX5_pointsBut 67 = .ok (.istore 7, 2) := by decide +kernel
theorem dX5_pointsBut_69 : decode cX5_pointsBut 69 = .ok (.aload_n 0, 1) := by decide +kernel
theorem dX5_pointsBut_70 : decode cX5_pointsBut 70 = .ok (.getfield 33, 3) := by decide +kernel
theorem dX5_pointsBut_73 : decode cX5_pointsBut 73 = .ok (.getfield 83, 3) := by decide +kernel
theorem dX5_pointsBut_76 : decode cX5_pointsBut 76 = .ok (.iload_n 2, 1) := by decide +kernel
theorem dX5_pointsBut_77 : decode cX5_pointsBut 77 = .ok (.iconst 4, 1) := by decide +kernel
theorem dX5_pointsBut_78 : decode cX5_pointsBut 78 = .ok (.imul, 1) := by decide +kernel
theorem dX5_pointsBut_79 : decode cX5_pointsBut 79 = .ok (.iload 6, 2) := by decide +kernel
theorem dX5_pointsBut_81 : decode cX5_pointsBut 81 = .ok (.iadd, 1) := by decide +kernel
theorem dX5_pointsBut_82 : decode cX5_pointsBut 82 = .ok (.iaload, 1) := by decide +kernel
theorem dX5_pointsBut_83 : decode cX5_pointsBut 83 = .ok (.istore 8, 2) := by decide +kernel
theorem dX5_pointsBut_85 : decode cX5_pointsBut 85 = .ok (.iload_n 3, 1) := by decide +kernel
theorem dX5_pointsBut_86 : decode cX5_pointsBut 86 = .ok (.iload 6, 2) := by decide +kernel
theorem dX5_pointsBut_88 : decode cX5_pointsBut 88 = .ok (.ishr, 1) := by decide +kernel
theorem dX5_pointsBut_89 : decode cX5_pointsBut 89 = .ok (.iconst 1, 1) := by decide +kernel
theorem dX5_pointsBut_90 : decode cX5_pointsBut 90 = .ok (.iand, 1) := by decide +kernel
theorem dX5_pointsBut_91 : decode cX5_pointsBut 91 = .ok (.ifCond .ne 7, 3) := by decide +kernel
theorem dX5_pointsBut_94 : decode cX5_pointsBut 94 = .ok (.iconst 0, 1) := by decide +kernel
theorem dX5_pointsBut_95 : decode cX5_pointsBut 95 = .ok (.goto 14, 3) := by decide +kernel
theorem dX5_pointsBut_98 : decode cX5_pointsBut 98 = .ok (.aload_n 0, 1) := by decide +kernel
theorem dX5_pointsBut_99 : decode cX5_pointsBut 99 = .ok (.getfield 39, 3) := by decide +kernel
theorem dX5_pointsBut_102 : decode cX5_pointsBut 102 = .ok (.iload 7, 2) := by decide +kernel
theorem dX5_pointsBut_104 : decode cX5_pointsBut 104 = .ok (.iload 8, 2) := by decide +kernel
theorem dX5_pointsBut_106 : decode cX5_pointsBut 106 = .ok (.invokevirtual 86, 3) := by decide +kernel
theorem dX5_pointsBut_109 : decode cX5_pointsBut 109 = .ok (.istore 9, 2) := by decide +kernel
theorem dX5_pointsBut_111 : decode cX5_pointsBut 111 = .ok (.iload 9, 2) := by decide +kernel
theorem dX5_pointsBut_113 : decode cX5_pointsBut 113 = .ok (.bipush (-4), 2) := by decide +kernel
theorem dX5_pointsBut_115 : decode cX5_pointsBut 115 = .ok (.if_icmp .ne 6, 3) := by decide +kernel
theorem dX5_pointsBut_118 : decode cX5_pointsBut 118 = .ok (.bipush (-4), 2) := by decide +kernel
theorem dX5_pointsBut_120 : decode cX5_pointsBut 120 = .ok (.ireturn, 1) := by decide +kernel
theorem dX5_pointsBut_121 : decode cX5_pointsBut 121 = .ok (.iload 5, 2) := by decide +kernel
theorem dX5_pointsBut_123 : decode cX5_pointsBut 123 = .ok (.iload 9, 2) := by decide +kernel
theorem dX5_pointsBut_125 : decode cX5_pointsBut 125 = .ok (.iadd, 1) := by decide +kernel
theorem dX5_pointsBut_126 : decode cX5_pointsBut 126 = .ok (.istore 5, 2) := by decide +kernel
theorem dX5_pointsBut_128 : decode cX5_pointsBut 128 = .ok (.iinc 6 1, 3) := by decide +kernel
theorem dX5_pointsBut_131 : decode cX5_pointsBut 131 = .ok (.goto (-84), 3) := by decide +kernel
theorem dX5_pointsBut_134 : decode cX5_pointsBut 134 = .ok (.iload 5, 2) := by decide +kernel
theorem dX5_pointsBut_136 : decode cX5_pointsBut 136 = .ok (.ireturn, 1) := by decide +kernel
theorem dX5_costOf_0 : decode cX5_costOf 0 = .ok (.aload_n 0, 1) := by decide +kernel
theorem dX5_costOf_1 : decode cX5_costOf 1 = .ok (.getfield 15, 3) := by decide +kernel
theorem dX5_costOf_4 : decode cX5_costOf 4 = .ok (.iload_n 1, 1) := by decide +kernel
theorem dX5_costOf_5 : decode cX5_costOf 5 = .ok (.bipush 10, 2) := by decide +kernel
theorem dX5_costOf_7 : decode cX5_costOf 7 = .ok (.imul, 1) := by decide +kernel
theorem dX5_costOf_8 : decode cX5_costOf 8 = .ok (.iload_n 2, 1) := by decide +kernel
theorem dX5_costOf_9 : decode cX5_costOf 9 = .ok (.iadd, 1) := by decide +kernel
theorem dX5_costOf_10 : decode cX5_costOf 10 = .ok (.iaload, 1) := by decide +kernel
theorem dX5_costOf_11 : decode cX5_costOf 11 = .ok (.ireturn, 1) := by decide +kernel
theorem dX5_mayBe_0 : decode cX5_mayBe 0 = .ok (.aload_n 0, 1) := by decide +kernel
theorem dX5_mayBe_1 : decode cX5_mayBe 1 = .ok (.getfield 15, 3) := by decide +kernel
theorem dX5_mayBe_4 : decode cX5_mayBe 4 = .ok (.iload_n 1, 1) := by decide +kernel
theorem dX5_mayBe_5 : decode cX5_mayBe 5 = .ok (.bipush 10, 2) := by decide +kernel
theorem dX5_mayBe_7 : decode cX5_mayBe 7 = .ok (.imul, 1) := by decide +kernel
theorem dX5_mayBe_8 : decode cX5_mayBe 8 = .ok (.iload_n 2, 1) := by decide +kernel
theorem dX5_mayBe_9 : decode cX5_mayBe 9 = .ok (.iadd, 1) := by decide +kernel
theorem dX5_mayBe_10 : decode cX5_mayBe 10 = .ok (.iaload, 1) := by decide +kernel
theorem dX5_mayBe_11 : decode cX5_mayBe 11 = .ok (.bipush (-4), 2) := by decide +kernel
theorem dX5_mayBe_13 : decode cX5_mayBe 13 = .ok (.if_icmp .eq 7, 3) := by decide +kernel
theorem dX5_mayBe_16 : decode cX5_mayBe 16 = .ok (.iconst 1, 1) := by decide +kernel
theorem dX5_mayBe_17 : decode cX5_mayBe 17 = .ok (.goto 4, 3) := by decide +kernel
theorem dX5_mayBe_20 : decode cX5_mayBe 20 = .ok (.iconst 0, 1) := by decide +kernel
theorem dX5_mayBe_21 : decode cX5_mayBe 21 = .ok (.ireturn, 1) := by decide +kernel
theorem dX5_gainOf_0 : decode cX5_gainOf 0 = .ok (.aload_n 0, 1) := by decide +kernel
theorem dX5_gainOf_1 : decode cX5_gainOf 1 = .ok (.getfield 15, 3) := by decide +kernel
theorem dX5_gainOf_4 : decode cX5_gainOf 4 = .ok (.iload_n 1, 1) := by decide +kernel
theorem dX5_gainOf_5 : decode cX5_gainOf 5 = .ok (.bipush 10, 2) := by decide +kernel
theorem dX5_gainOf_7 : decode cX5_gainOf 7 = .ok (.imul, 1) := by decide +kernel
theorem dX5_gainOf_8 : decode cX5_gainOf 8 = .ok (.iload_n 2, 1) := by decide +kernel
theorem dX5_gainOf_9 : decode cX5_gainOf 9 = .ok (.iadd, 1) := by decide +kernel
theorem dX5_gainOf_10 : decode cX5_gainOf 10 = .ok (.iaload, 1) := by decide +kernel
theorem dX5_gainOf_11 : decode cX5_gainOf 11 = .ok (.aload_n 0, 1) := by decide +kernel
theorem dX5_gainOf_12 : decode cX5_gainOf 12 = .ok (.getfield 51, 3) := by decide +kernel
theorem dX5_gainOf_15 : decode cX5_gainOf 15 = .ok (.isub, 1) := by decide +kernel
theorem dX5_gainOf_16 : decode cX5_gainOf 16 = .ok (.ireturn, 1) := by decide +kernel
theorem dX5_mayBeNone_0 : decode cX5_mayBeNone 0 = .ok (.iload_n 1, 1) := by decide +kernel
theorem dX5_mayBeNone_1 : decode cX5_mayBeNone 1 = .ok (.ifCond .ne 10, 3) := by decide +kernel
theorem dX5_mayBeNone_4 : decode cX5_mayBeNone 4 = .ok (.aload_n 0, 1) := by decide +kernel
theorem dX5_mayBeNone_5 : decode cX5_mayBeNone 5 = .ok (.getfield 36, 3) := by decide +kernel
theorem dX5_mayBeNone_8 : decode cX5_mayBeNone 8 = .ok (.goto 7, 3) := by decide +kernel
theorem dX5_mayBeNone_11 : decode cX5_mayBeNone 11 = .ok (.aload_n 0, 1) := by decide +kernel
theorem dX5_mayBeNone_12 : decode cX5_mayBeNone 12 = .ok (.getfield 30, 3) := by decide +kernel
theorem dX5_mayBeNone_15 : decode cX5_mayBeNone 15 = .ok (.istore_n 3, 1) := by decide +kernel
theorem dX5_mayBeNone_16 : decode cX5_mayBeNone 16 = .ok (.iconst 0, 1) := by decide +kernel
theorem dX5_mayBeNone_17 : decode cX5_mayBeNone 17 = .ok (.istore 4, 2) := by decide +kernel
theorem dX5_mayBeNone_19 : decode cX5_mayBeNone 19 = .ok (.iload 4, 2) := by decide +kernel
theorem dX5_mayBeNone_21 : decode cX5_mayBeNone 21 = .ok (.iload_n 3, 1) := by decide +kernel
theorem dX5_mayBeNone_22 : decode cX5_mayBeNone 22 = .ok (.if_icmp .ge 38, 3) := by decide +kernel
theorem dX5_mayBeNone_25 : decode cX5_mayBeNone 25 = .ok (.iload_n 1, 1) := by decide +kernel
theorem dX5_mayBeNone_26 : decode cX5_mayBeNone 26 = .ok (.ifCond .ne 16, 3) := by decide +kernel
theorem dX5_mayBeNone_29 : decode cX5_mayBeNone 29 = .ok (.aload_n 0, 1) := by decide +kernel
theorem dX5_mayBeNone_30 : decode cX5_mayBeNone 30 = .ok (.iload_n 2, 1) := by decide +kernel
theorem dX5_mayBeNone_31 : decode cX5_mayBeNone 31 = .ok (.iload 4, 2) := by decide +kernel
theorem dX5_mayBeNone_33 : decode cX5_mayBeNone 33 = .ok (.invokevirtual 90, 3) := by decide +kernel
theorem dX5_mayBeNone_36 : decode cX5_mayBeNone 36 = .ok (.ifCond .eq 18, 3) := by decide +kernel
theorem dX5_mayBeNone_39 : decode cX5_mayBeNone 39 = .ok (.goto 13, 3) := by decide +kernel
theorem dX5_mayBeNone_42 : decode cX5_mayBeNone 42 = .ok (.aload_n 0, 1) := by decide +kernel
theorem dX5_mayBeNone_43 : decode cX5_mayBeNone 43 = .ok (.iload 4, 2) := by decide +kernel
theorem dX5_mayBeNone_45 : decode cX5_mayBeNone 45 = .ok (.iload_n 2, 1) := by decide +kernel
theorem dX5_mayBeNone_46 : decode cX5_mayBeNone 46 = .ok (.invokevirtual 90, 3) := by decide +kernel
theorem dX5_mayBeNone_49 : decode cX5_mayBeNone 49 = .ok (.ifCond .eq 5, 3) := by decide +kernel
theorem dX5_mayBeNone_52 : decode cX5_mayBeNone 52 = .ok (.iconst 0, 1) := by decide +kernel
theorem dX5_mayBeNone_53 : decode cX5_mayBeNone 53 = .ok (.ireturn, 1) := by decide +kernel
theorem dX5_mayBeNone_54 : decode cX5_mayBeNone 54 = .ok (.iinc 4 1, 3) := by decide +kernel
theorem dX5_mayBeNone_57 : decode cX5_mayBeNone 57 = .ok (.goto (-38), 3) := by decide +kernel
theorem dX5_mayBeNone_60 : decode cX5_mayBeNone 60 = .ok (.iconst 1, 1) := by decide +kernel
theorem dX5_mayBeNone_61 : decode cX5_mayBeNone 61 = .ok (.ireturn, 1) := by decide +kernel
theorem dX6_init_0 : decode cX6_init 0 = .ok (.aload_n 0, 1) := by decide +kernel
theorem dX6_init_1 : decode cX6_init 1 = .ok (.invokespecial 3, 3) := by decide +kernel
theorem dX6_init_4 : decode cX6_init 4 = .ok (.aload_n 0, 1) := by decide +kernel
theorem dX6_init_5 : decode cX6_init 5 = .ok (.bipush 10, 2) := by decide +kernel
theorem dX6_init_7 : decode cX6_init 7 = .ok (.newarray .int, 2) := by decide +kernel
theorem dX6_init_9 : decode cX6_init 9 = .ok (.putfield 9, 3) := by decide +kernel
theorem dX6_init_12 : decode cX6_init 12 = .ok (.aload_n 0, 1) := by decide +kernel
theorem dX6_init_13 : decode cX6_init 13 = .ok (.bipush 64, 2) := by decide +kernel
theorem dX6_init_15 : decode cX6_init 15 = .ok (.newarray .int, 2) := by decide +kernel
theorem dX6_init_17 : decode cX6_init 17 = .ok (.putfield 15, 3) := by decide +kernel
theorem dX6_init_20 : decode cX6_init 20 = .ok (.aload_n 0, 1) := by decide +kernel
theorem dX6_init_21 : decode cX6_init 21 = .ok (.invokevirtual 18, 3) := by decide +kernel
theorem dX6_init_24 : decode cX6_init 24 = .ok (.return_, 1) := by decide +kernel
theorem dX6_setAsAtFirst_0 : decode cX6_setAsAtFirst 0 = .ok (.getstatic 21, 3) := by decide +kernel
theorem dX6_setAsAtFirst_3 : decode cX6_setAsAtFirst 3 = .ok (.iconst 0, 1) := by decide +kernel
theorem dX6_setAsAtFirst_4 : decode cX6_setAsAtFirst 4 = .ok (.aload_n 0, 1) := by decide +kernel
theorem dX6_setAsAtFirst_5 : decode cX6_setAsAtFirst 5 = .ok (.getfield 9, 3) := by decide +kernel
theorem dX6_setAsAtFirst_8 : decode cX6_setAsAtFirst 8 = .ok (.iconst 0, 1) := by decide +kernel
theorem dX6_setAsAtFirst_9 : decode cX6_setAsAtFirst 9 = .ok (.bipush 10, 2) := by decide +kernel
theorem dX6_setAsAtFirst_11 : decode cX6_setAsAtFirst 11 = .ok (.invokestatic 24, 3) := by decide +kernel
theorem dX6_setAsAtFirst_14 : decode cX6_setAsAtFirst 14 = .ok (.aload_n 0, 1) := by decide +kernel
theorem dX6_setAsAtFirst_15 : decode cX6_setAsAtFirst 15 = .ok (.getfield 15, 3) := by decide +kernel
theorem dX6_setAsAtFirst_18 : decode cX6_setAsAtFirst 18 = .ok (.bipush (-4), 2) := by decide +kernel
theorem dX6_setAsAtFirst_20 : decode cX6_setAsAtFirst 20 = .ok (.invokestatic 30, 3) := by decide +kernel
theorem dX6_setAsAtFirst_23 : decode cX6_setAsAtFirst 23 = .ok (.return_, 1) := by decide +kernel
theorem dX6_copyFrom_0 : decode cX6_copyFrom 0 = .ok (.aload_n 1, 1) := by decide +kernel
theorem dX6_copyFrom_1 : decode cX6_copyFrom 1 = .ok (.getfield 9, 3) := by decide +kernel
theorem dX6_copyFrom_4 : decode cX6_copyFrom 4 = .ok (.iconst 0, 1) := by decide +kernel
theorem dX6_copyFrom_5 : decode cX6_copyFrom 5 = .ok (.aload_n 0, 1) := by decide +kernel
theorem dX6_copyFrom_6 : decode cX6_copyFrom 6 = .ok (.getfield 9, 3) := by decide +kernel
theorem dX6_copyFrom_9 : decode cX6_copyFrom 9 = .ok (.iconst 0, 1) := by decide +kernel
theorem dX6_copyFrom_10 : decode cX6_copyFrom 10 = .ok (.bipush 10, 2) := by decide +kernel
theorem dX6_copyFrom_12 : decode cX6_copyFrom 12 = .ok (.invokestatic 24, 3) := by decide +kernel
theorem dX6_copyFrom_15 : decode cX6_copyFrom 15 = .ok (.aload_n 1, 1) := by decide +kernel
theorem dX6_copyFrom_16 : decode cX6_copyFrom 16 = .ok (.getfield 15, 3) := by decide +kernel
theorem dX6_copyFrom_19 : decode cX6_copyFrom 19 = .ok (.iconst 0, 1) := by decide +kernel
theorem dX6_copyFrom_20 : decode cX6_copyFrom 20 = .ok (.aload_n 0, 1) := by decide +kernel
theorem dX6_copyFrom_21 : decode cX6_copyFrom 21 = .ok (.getfield 15, 3) := by decide +kernel
theorem dX6_copyFrom_24 : decode cX6_copyFrom 24 = .ok (.iconst 0, 1) := by decide +kernel
theorem dX6_copyFrom_25 : decode cX6_copyFrom 25 = .ok (.bipush 64, 2) := by decide +kernel
theorem dX6_copyFrom_27 : decode cX6_copyFrom 27 = .ok (.invokestatic 24, 3) := by decide +kernel
theorem dX6_copyFrom_30 : decode cX6_copyFrom 30 = .ok (.return_, 1) := by decide +kernel
theorem dX6_pointsOf_0 : decode cX6_pointsOf 0 = .ok (.iload_n 1, 1) := by decide +kernel
theorem dX6_pointsOf_1 : decode cX6_pointsOf 1 = .ok (.ifCond .eq 7, 3) := by decide +kernel
theorem dX6_pointsOf_4 : decode cX6_pointsOf 4 = .ok (.iload_n 2, 1) := by decide +kernel
theorem dX6_pointsOf_5 : decode cX6_pointsOf 5 = .ok (.ifCond .ne 10, 3) := by decide +kernel
theorem dX6_pointsOf_8 : decode cX6_pointsOf 8 = .ok (.aload_n 0, 1) := by decide +kernel
theorem dX6_pointsOf_9 : decode cX6_pointsOf 9 = .ok (.getfield 9, 3) := by decide +kernel
theorem dX6_pointsOf_12 : decode cX6_pointsOf 12 = .ok (.iconst 5, 1) := by decide +kernel
theorem dX6_pointsOf_13 : decode cX6_pointsOf 13 = .ok (.iaload, 1) := by decide +kernel
theorem dX6_pointsOf_14 : decode cX6_pointsOf 14 = .ok (.ireturn, 1) := by decide +kernel
theorem dX6_pointsOf_15 : decode cX6_pointsOf 15 = .ok (.iload_n 1, 1) := by decide +kernel
theorem dX6_pointsOf_16 : decode cX6_pointsOf 16 = .ok (.invokestatic 36, 3) := by decide +kernel
theorem dX6_pointsOf_19 : decode cX6_pointsOf 19 = .ok (.ifCond .ne 10, 3) := by decide +kernel
theorem dX6_pointsOf_22 : decode cX6_pointsOf 22 = .ok (.iload_n 2, 1) := by decide +kernel
theorem dX6_pointsOf_23 : decode cX6_pointsOf 23 = .ok (.invokestatic 36, 3) := by decide +kernel
theorem dX6_pointsOf_26 : decode cX6_pointsOf 26 = .ok (.ifCond .eq 7, 3) := by decide +kernel
theorem dX6_pointsOf_29 : decode cX6_pointsOf 29 = .ok (.iconst 1, 1) := by decide +kernel
theorem dX6_pointsOf_30 : decode cX6_pointsOf 30 = .ok (.goto 4, 3) := by decide +kernel
theorem dX6_pointsOf_33 : decode cX6_pointsOf 33 = .ok (.iconst 0, 1) := by decide +kernel
theorem dX6_pointsOf_34 : decode cX6_pointsOf 34 = .ok (.istore_n 3, 1) := by decide +kernel
theorem dX6_pointsOf_35 : decode cX6_pointsOf 35 = .ok (.iload_n 1, 1) := by decide +kernel
theorem dX6_pointsOf_36 : decode cX6_pointsOf 36 = .ok (.invokestatic 42, 3) := by decide +kernel
theorem dX6_pointsOf_39 : decode cX6_pointsOf 39 = .ok (.istore 4, 2) := by decide +kernel
theorem dX6_pointsOf_41 : decode cX6_pointsOf 41 = .ok (.iload_n 2, 1) := by decide +kernel
theorem dX6_pointsOf_42 : decode cX6_pointsOf 42 = .ok (.invokestatic 42, 3) := by decide +kernel
theorem dX6_pointsOf_45 : decode cX6_pointsOf 45 = .ok (.istore 5, 2) := by decide +kernel
theorem dX6_pointsOf_47 : decode cX6_pointsOf 47 = .ok (.iload 4, 2) := by decide +kernel
theorem dX6_pointsOf_49 : decode cX6_pointsOf 49 = .ok (.iload 5, 2) := by decide +kernel
theorem dX6_pointsOf_51 : decode cX6_pointsOf 51 = .ok (.if_icmp .ne 13, 3) := by decide +kernel
theorem dX6_pointsOf_54 : decode cX6_pointsOf 54 = .ok (.iload_n 3, 1) := by decide +kernel
theorem dX6_pointsOf_55 : decode cX6_pointsOf 55 = .ok (.ifCond .eq 7, 3) := by decide +kernel
theorem dX6_pointsOf_58 : decode cX6_pointsOf 58 = .ok (.iconst 1, 1) := by decide +kernel
theorem dX6_pointsOf_59 : decode cX6_pointsOf 59 = .ok (.goto 4, 3) := by decide +kernel
theorem dX6_pointsOf_62 : decode cX6_pointsOf 62 = .ok (.iconst 0, 1) := by decide +kernel
theorem dX6_pointsOf_63 : decode cX6_pointsOf 63 = .ok (.ireturn, 1) := by decide +kernel
theorem dX6_pointsOf_64 : decode cX6_pointsOf 64 = .ok (.aload_n 0, 1) := by decide +kernel
theorem dX6_pointsOf_65 : decode cX6_pointsOf 65 = .ok (.getfield 15, 3) := by decide +kernel
theorem dX6_pointsOf_68 : decode cX6_pointsOf 68 = .ok (.iload 4, 2) := by decide +kernel
theorem dX6_pointsOf_70 : decode cX6_pointsOf 70 = .ok (.bipush 8, 2) := by decide +kernel
theorem dX6_pointsOf_72 : decode cX6_pointsOf 72 = .ok (.imul, 1) := by decide +kernel
theorem dX6_pointsOf_73 : decode cX6_pointsOf 73 = .ok (.iload 5, 2) := by decide +kernel
theorem dX6_pointsOf_75 : decode cX6_pointsOf 75 = .ok (.iadd, 1) := by decide +kernel
theorem dX6_pointsOf_76 : decode cX6_pointsOf 76 = .ok (.iaload, 1) := by decide +kernel
theorem dX6_pointsOf_77 : decode cX6_pointsOf 77 = .ok (.istore 6, 2) := by decide +kernel
theorem dX6_pointsOf_79 : decode cX6_pointsOf 79 = .ok (.iload_n 3, 1) := by decide +kernel
theorem dX6_pointsOf_80 : decode cX6_pointsOf 80 = .ok (.ifCond .ne 6, 3) := by decide +kernel
theorem dX6_pointsOf_83 : decode cX6_pointsOf 83 = .ok (.iload 6, 2) := by decide +kernel
theorem dX6_pointsOf_85 : decode cX6_pointsOf 85 = .ok (.ireturn, 1) := by decide +kernel
theorem dX6_pointsOf_86 : decode cX6_pointsOf 86 = .ok (.iload 6, 2) := by decide +kernel
theorem dX6_pointsOf_88 : decode cX6_pointsOf 88 = .ok (.bipush (-4), 2) := by decide +kernel
theorem dX6_pointsOf_90 : decode cX6_pointsOf 90 = .ok (.if_icmp .ne 12, 3) := by decide +kernel
theorem dX6_pointsOf_93 : decode cX6_pointsOf 93 = .ok (.aload_n 0, 1) := by decide +kernel
theorem dX6_pointsOf_94 : decode cX6_pointsOf 94 = .ok (.getfield 9, 3) := by decide +kernel
theorem dX6_pointsOf_97 : decode cX6_pointsOf 97 = .ok (.iconst 4, 1) := by decide +kernel
theorem dX6_pointsOf_98 : decode cX6_pointsOf 98 = .ok (.iaload, 1) := by decide +kernel
theorem dX6_pointsOf_99 : decode cX6_pointsOf 99 = .ok (.goto 14, 3) := by decide +kernel
theorem dX6_pointsOf_102 : decode cX6_pointsOf 102 = .ok (.iload 6, 2) := by decide +kernel
theorem dX6_pointsOf_104 : decode cX6_pointsOf 104 = .ok (.aload_n 0, 1) := by decide +kernel
theorem dX6_pointsOf_105 : decode cX6_pointsOf 105 = .ok (.getfield 9, 3) := by decide +kernel
theorem dX6_pointsOf_108 : decode cX6_pointsOf 108 = .ok (.iconst 4, 1) := by decide +kernel
theorem dX6_pointsOf_109 : decode cX6_pointsOf 109 = .ok (.iaload, 1) := by decide +kernel
theorem dX6_pointsOf_110 : decode cX6_pointsOf 110 = .ok (.invokestatic 46, 3) := by decide +kernel
theorem dX6_pointsOf_113 : decode cX6_pointsOf 113 = .ok (.ireturn, 1) := by decide +kernel
theorem dX7_init_0 : decode cX7_init 0 = .ok (.aload_n 0, 1) := by decide +kernel
theorem dX7_init_1 : decode cX7_init 1 = .ok (.invokespecial 3, 3) := by decide +kernel
theorem dX7_init_4 : decode cX7_init 4 = .ok (.aload_n 0, 1) := by decide +kernel
theorem dX7_init_5 : decode cX7_init 5 = .ok (.new 9, 3) := by decide +kernel
theorem dX7_init_8 : decode cX7_init 8 = .ok (.dup, 1) := by decide +kernel
theorem dX7_init_9 : decode cX7_init 9 = .ok (.invokespecial 11, 3) := by decide +kernel
theorem dX7_init_12 : decode cX7_init 12 = .ok (.putfield 12, 3) := by decide +kernel
theorem dX7_init_15 : decode cX7_init 15 = .ok (.aload_n 0, 1) := by decide +kernel
theorem dX7_init_16 : decode cX7_init 16 = .ok (.new 9, 3) := by decide +kernel
theorem dX7_init_19 : decode cX7_init 19 = .ok (.dup, 1) := by decide +kernel
theorem dX7_init_20 : decode cX7_init 20 = .ok (.invokespecial 11, 3) := by decide +kernel
theorem dX7_init_23 : decode cX7_init 23 = .ok (.putfield 18, 3) := by decide +kernel
theorem dX7_init_26 : decode cX7_init 26 = .ok (.aload_n 0, 1) := by decide +kernel
theorem dX7_init_27 : decode cX7_init 27 = .ok (.new 21, 3) := by decide +kernel
theorem dX7_init_30 : decode cX7_init 30 = .ok (.dup, 1) := by decide +kernel
theorem dX7_init_31 : decode cX7_init 31 = .ok (.invokespecial 23, 3) := by decide +kernel
theorem dX7_init_34 : decode cX7_init 34 = .ok (.putfield 24, 3) := by decide +kernel
theorem dX7_init_37 : decode cX7_init 37 = .ok (.aload_n 0, 1) := by decide +kernel
theorem dX7_init_38 : decode cX7_init 38 = .ok (.bipush 10, 2) := by decide +kernel
theorem dX7_init_40 : decode cX7_init 40 = .ok (.newarray .int, 2) := by decide +kernel
theorem dX7_init_42 : decode cX7_init 42 = .ok (.putfield 28, 3) := by decide +kernel
theorem dX7_init_45 : decode cX7_init 45 = .ok (.aload_n 0, 1) := by decide +kernel
theorem dX7_init_46 : decode cX7_init 46 = .ok (.getfield 28, 3) := by decide +kernel
theorem dX7_init_49 : decode cX7_init 49 = .ok (.bipush (-4), 2) := by decide +kernel
theorem dX7_init_51 : decode cX7_init 51 = .ok (.invokestatic 32, 3) := by decide +kernel
theorem dX7_init_54 : decode cX7_init 54 = .ok (.return_, 1) := by decide +kernel
theorem dX7_copyFrom_0 : decode cX7_copyFrom 0 = .ok (.aload_n 0, 1) := by decide +kernel
theorem dX7_copyFrom_1 : decode cX7_copyFrom 1 = .ok (.getfield 12, 3) := by decide +kernel
theorem dX7_copyFrom_4 : decode cX7_copyFrom 4 = .ok (.aload_n 1, 1) := by decide +kernel
theorem dX7_copyFrom_5 : decode cX7_copyFrom 5 = .ok (.getfield 12, 3) := by decide +kernel
theorem dX7_copyFrom_8 : decode cX7_copyFrom 8 = .ok (.invokevirtual 38, 3) := by decide +kernel
theorem dX7_copyFrom_11 : decode cX7_copyFrom 11 = .ok (.aload_n 0, 1) := by decide +kernel
theorem dX7_copyFrom_12 : decode cX7_copyFrom 12 = .ok (.getfield 18, 3) := by decide +kernel
theorem dX7_copyFrom_15 : decode cX7_copyFrom 15 = .ok (.aload_n 1, 1) := by decide +kernel
theorem dX7_copyFrom_16 : decode cX7_copyFrom 16 = .ok (.getfield 18, 3) := by decide +kernel
theorem dX7_copyFrom_19 : decode cX7_copyFrom 19 = .ok (.invokevirtual 38, 3) := by decide +kernel
theorem dX7_copyFrom_22 : decode cX7_copyFrom 22 = .ok (.aload_n 0, 1) := by decide +kernel
theorem dX7_copyFrom_23 : decode cX7_copyFrom 23 = .ok (.getfield 24, 3) := by decide +kernel
theorem dX7_copyFrom_26 : decode cX7_copyFrom 26 = .ok (.aload_n 1, 1) := by decide +kernel
theorem dX7_copyFrom_27 : decode cX7_copyFrom 27 = .ok (.getfield 24, 3) := by decide +kernel
theorem dX7_copyFrom_30 : decode cX7_copyFrom 30 = .ok (.invokevirtual 42, 3) := by decide +kernel
theorem dX7_copyFrom_33 : decode cX7_copyFrom 33 = .ok (.aload_n 1, 1) := by decide +kernel
theorem dX7_copyFrom_34 : decode cX7_copyFrom 34 = .ok (.getfield 28, 3) := by decide +kernel
theorem dX7_copyFrom_37 : decode cX7_copyFrom 37 = .ok (.iconst 0, 1) := by decide +kernel
theorem dX7_copyFrom_38 : decode cX7_copyFrom 38 = .ok (.aload_n 0, 1) := by decide +kernel
theorem dX7_copyFrom_39 : decode cX7_copyFrom 39 = .ok (.getfield 28, 3) := by decide +kernel
theorem dX7_copyFrom_42 : decode cX7_copyFrom 42 = .ok (.iconst 0, 1) := by decide +kernel
theorem dX7_copyFrom_43 : decode cX7_copyFrom 43 = .ok (.bipush 10, 2) := by decide +kernel
theorem dX7_copyFrom_45 : decode cX7_copyFrom 45 = .ok (.invokestatic 45, 3) := by decide +kernel
theorem dX7_copyFrom_48 : decode cX7_copyFrom 48 = .ok (.return_, 1) := by decide +kernel
theorem dX7_tookBy_0 : decode cX7_tookBy 0 = .ok (.aload_n 0, 1) := by decide +kernel
theorem dX7_tookBy_1 : decode cX7_tookBy 1 = .ok (.getfield 18, 3) := by decide +kernel
theorem dX7_tookBy_4 : decode cX7_tookBy 4 = .ok (.getfield 51, 3) := by decide +kernel
theorem dX7_tookBy_7 : decode cX7_tookBy 7 = .ok (.iload_n 2, 1) := by decide +kernel
theorem dX7_tookBy_8 : decode cX7_tookBy 8 = .ok (.iaload, 1) := by decide +kernel
theorem dX7_tookBy_9 : decode cX7_tookBy 9 = .ok (.aload_n 0, 1) := by decide +kernel
theorem dX7_tookBy_10 : decode cX7_tookBy 10 = .ok (.getfield 12, 3) := by decide +kernel
theorem dX7_tookBy_13 : decode cX7_tookBy 13 = .ok (.getfield 51, 3) := by decide +kernel
theorem dX7_tookBy_16 : decode cX7_tookBy 16 = .ok (.iload_n 1, 1) := by decide +kernel
theorem dX7_tookBy_17 : decode cX7_tookBy 17 = .ok (.iaload, 1) := by decide +kernel
theorem dX7_tookBy_18 : decode cX7_tookBy 18 = .ok (.isub, 1) := by decide +kernel
theorem dX7_tookBy_19 : decode cX7_tookBy 19 = .ok (.iload_n 3, 1) := by decide +kernel
theorem dX7_tookBy_20 : decode cX7_tookBy 20 = .ok (.isub, 1) := by decide +kernel
theorem dX7_tookBy_21 : decode cX7_tookBy 21 = .ok (.ireturn, 1) := by decide +kernel
theorem dX8_init_0 : decode cX8_init 0 = .ok (.aload_n 0, 1) := by decide +kernel
theorem dX8_init_1 : decode cX8_init 1 = .ok (.invokespecial 3, 3) := by decide +kernel
theorem dX8_init_4 : decode cX8_init 4 = .ok (.aload_n 0, 1) := by decide +kernel
theorem dX8_init_5 : decode cX8_init 5 = .ok (.bipush 64, 2) := by decide +kernel
theorem dX8_init_7 : decode cX8_init 7 = .ok (.newarray .int, 2) := by decide +kernel
theorem dX8_init_9 : decode cX8_init 9 = .ok (.putfield 11, 3) := by decide +kernel
theorem dX8_init_12 : decode cX8_init 12 = .ok (.return_, 1) := by decide +kernel
theorem dX8_renew_0 : decode cX8_renew 0 = .ok (.aload_n 0, 1) := by decide +kernel
theorem dX8_renew_1 : decode cX8_renew 1 = .ok (.iconst 1, 1) := by decide +kernel
theorem dX8_renew_2 : decode cX8_renew 2 = .ok (.putfield 15, 3) := by decide +kernel
theorem dX8_renew_5 : decode cX8_renew 5 = .ok (.aload_n 0, 1) := by decide +kernel
theorem dX8_renew_6 : decode cX8_renew 6 = .ok (.iload_n 1, 1) := by decide +kernel
theorem dX8_renew_7 : decode cX8_renew 7 = .ok (.putfield 19, 3) := by decide +kernel
theorem dX8_renew_10 : decode cX8_renew 10 = .ok (.aload_n 0, 1) := by decide +kernel
theorem dX8_renew_11 : decode cX8_renew 11 = .ok (.iload_n 2, 1) := by decide +kernel
theorem dX8_renew_12 : decode cX8_renew 12 = .ok (.putfield 23, 3) := by decide +kernel
theorem dX8_renew_15 : decode cX8_renew 15 = .ok (.aload_n 0, 1) := by decide +kernel
theorem dX8_renew_16 : decode cX8_renew 16 = .ok (.getfield 11, 3) := by decide +kernel
theorem dX8_renew_19 : decode cX8_renew 19 = .ok (.iconst 0, 1) := by decide +kernel
theorem dX8_renew_20 : decode cX8_renew 20 = .ok (.invokestatic 26, 3) := by decide +kernel
theorem dX8_renew_23 : decode cX8_renew 23 = .ok (.return_, 1) := by decide +kernel
theorem dX8_put_0 : decode cX8_put 0 = .ok (.aload_n 0, 1) := by decide +kernel
theorem dX8_put_1 : decode cX8_put 1 = .ok (.getfield 19, 3) := by decide +kernel
theorem dX8_put_4 : decode cX8_put 4 = .ok (.lookupswitch 50 #[(0, 28), (1, 39)], 28) := by decide +kernel
theorem dX8_put_32 : decode cX8_put 32 = .ok (.aload_n 0, 1) := by decide +kernel
theorem dX8_put_33 : decode cX8_put 33 = .ok (.getfield 11, 3) := by decide +kernel
theorem dX8_put_36 : decode cX8_put 36 = .ok (.iload_n 1, 1) := by decide +kernel
theorem dX8_put_37 : decode cX8_put 37 = .ok (.iload_n 2, 1) := by decide +kernel
theorem dX8_put_38 : decode cX8_put 38 = .ok (.i2b, 1) := by decide +kernel
theorem dX8_put_39 : decode cX8_put 39 = .ok (.iastore, 1) := by decide +kernel
theorem dX8_put_40 : decode cX8_put 40 = .ok (.goto 21, 3) := by decide +kernel
theorem dX8_put_43 : decode cX8_put 43 = .ok (.aload_n 0, 1) := by decide +kernel
theorem dX8_put_44 : decode cX8_put 44 = .ok (.getfield 11, 3) := by decide +kernel
theorem dX8_put_47 : decode cX8_put 47 = .ok (.iload_n 1, 1) := by decide +kernel
theorem dX8_put_48 : decode cX8_put 48 = .ok (.iload_n 2, 1) := by decide +kernel
theorem dX8_put_49 : decode cX8_put 49 = .ok (.i2s, 1) := by decide +kernel
theorem dX8_put_50 : decode cX8_put 50 = .ok (.iastore, 1) := by decide +kernel
theorem dX8_put_51 : decode cX8_put 51 = .ok (.goto 10, 3) := by decide +kernel
theorem dX8_put_54 : decode cX8_put 54 = .ok (.aload_n 0, 1) := by decide +kernel
theorem dX8_put_55 : decode cX8_put 55 = .ok (.getfield 11, 3) := by decide +kernel
theorem dX8_put_58 : decode cX8_put 58 = .ok (.iload_n 1, 1) := by decide +kernel
theorem dX8_put_59 : decode cX8_put 59 = .ok (.iload_n 2, 1) := by decide +kernel
theorem dX8_put_60 : decode cX8_put 60 = .ok (.iastore, 1) := by decide +kernel
theorem dX8_put_61 : decode cX8_put 61 = .ok (.return_, 1) := by decide +kernel
theorem dX8_faultAs_0 : decode cX8_faultAs 0 = .ok (.aload_n 0, 1) := by decide +kernel
theorem dX8_faultAs_1 : decode cX8_faultAs 1 = .ok (.getfield 15, 3) := by decide +kernel
theorem dX8_faultAs_4 : decode cX8_faultAs 4 = .ok (.ifCond .ne 5, 3) := by decide +kernel
theorem dX8_faultAs_7 : decode cX8_faultAs 7 = .ok (.iconst 1, 1) := by decide +kernel
theorem dX8_faultAs_8 : decode cX8_faultAs 8 = .ok (.ireturn, 1) := by decide +kernel
theorem dX8_faultAs_9 : decode cX8_faultAs 9 = .ok (.aload_n 0, 1) := by decide +kernel
theorem dX8_faultAs_10 : decode cX8_faultAs 10 = .ok (.getfield 19, 3) := by decide +kernel
theorem dX8_faultAs_13 : decode cX8_faultAs 13 = .ok (.iload_n 1, 1) := by decide +kernel
theorem dX8_faultAs_14 : decode cX8_faultAs 14 = .ok (.if_icmp .ne 7, 3) := by decide +kernel
theorem dX8_faultAs_17 : decode cX8_faultAs 17 = .ok (.iconst 0, 1) := by decide +kernel
theorem dX8_faultAs_18 : decode cX8_faultAs 18 = .ok (.goto 4, 3) := by decide +kernel
theorem dX8_faultAs_21 : decode cX8_faultAs 21 = .ok (.iconst 3, 1) := by decide +kernel
theorem dX8_faultAs_22 : decode cX8_faultAs 22 = .ok (.ireturn, 1) := by decide +kernel
theorem dX8_wholeLines_0 : decode cX8_wholeLines 0 = .ok (.iload_n 1, 1) := by decide +kernel
theorem dX8_wholeLines_1 : decode cX8_wholeLines 1 = .ok (.iconst 0, 1) := by decide +kernel
theorem dX8_wholeLines_2 : decode cX8_wholeLines 2 = .ok (.aload_n 0, 1) := by decide +kernel
theorem dX8_wholeLines_3 : decode cX8_wholeLines 3 = .ok (.getfield 23, 3) := by decide +kernel
theorem dX8_wholeLines_6 : decode cX8_wholeLines 6 = .ok (.invokestatic 32, 3) := by decide +kernel
theorem dX8_wholeLines_9 : decode cX8_wholeLines 9 = .ok (.ifCond .eq 15, 3) := by decide +kernel
theorem dX8_wholeLines_12 : decode cX8_wholeLines 12 = .ok (.aload_n 0, 1) := by decide +kernel
theorem dX8_wholeLines_13 : decode cX8_wholeLines 13 = .ok (.getfield 23, 3) := by decide +kernel
theorem dX8_wholeLines_16 : decode cX8_wholeLines 16 = .ok (.iload_n 1, 1) := by decide +kernel
theorem dX8_wholeLines_17 : decode cX8_wholeLines 17 = .ok (.isub, 1) := by decide +kernel
theorem dX8_wholeLines_18 : decode cX8_wholeLines 18 = .ok (.bipush 6, 2) := by decide +kernel
theorem dX8_wholeLines_20 : decode cX8_wholeLines 20 = .ok (.idiv, 1) := by decide +kernel
theorem dX8_wholeLines_21 : decode cX8_wholeLines 21 = .ok (.goto 4, 3) := by decide +kernel
theorem dX8_wholeLines_24 : decode cX8_wholeLines 24 = .ok (.iconst 0, 1) := by decide +kernel
theorem dX8_wholeLines_25 : decode cX8_wholeLines 25 = .ok (.ireturn, 1) := by decide +kernel
theorem dX8_isLine_0 : decode cX8_isLine 0 = .ok (.iconst 0, 1) := by decide +kernel
theorem dX8_isLine_1 : decode cX8_isLine 1 = .ok (.istore_n 2, 1) := by decide +kernel
theorem dX8_isLine_2 : decode cX8_isLine 2 = .ok (.iload_n 2, 1) := by decide +kernel
theorem dX8_isLine_3 : decode cX8_isLine 3 = .ok (.iconst 4, 1) := by decide +kernel
theorem dX8_isLine_4 : decode cX8_isLine 4 = .ok (.if_icmp .ge 30, 3) := by decide +kernel
theorem dX8_isLine_7 : decode cX8_isLine 7 = .ok (.aload_n 0, 1) := by decide +kernel
theorem dX8_isLine_8 : decode cX8_isLine 8 = .ok (.getfield 11, 3) := by decide +kernel
theorem dX8_isLine_11 : decode cX8_isLine 11 = .ok (.iload_n 1, 1) := by decide +kernel
theorem dX8_isLine_12 : decode cX8_isLine 12 = .ok (.iconst 1, 1) := by decide +kernel
theorem dX8_isLine_13 : decode cX8_isLine 13 = .ok (.iadd, 1) := by decide +kernel
theorem dX8_isLine_14 : decode cX8_isLine 14 = .ok (.iload_n 2, 1) := by decide +kernel
theorem dX8_isLine_15 : decode cX8_isLine 15 = .ok (.iadd, 1) := by decide +kernel
theorem dX8_isLine_16 : decode cX8_isLine 16 = .ok (.iaload, 1) := by decide +kernel
theorem dX8_isLine_17 : decode cX8_isLine 17 = .ok (.iconst 0, 1) := by decide +kernel
theorem dX8_isLine_18 : decode cX8_isLine 18 = .ok (.bipush 16, 2) := by decide +kernel
theorem dX8_isLine_20 : decode cX8_isLine 20 = .ok (.invokestatic 32, 3) := by decide +kernel
theorem dX8_isLine_23 : decode cX8_isLine 23 = .ok (.ifCond .ne 5, 3) := by decide +kernel
theorem dX8_isLine_26 : decode cX8_isLine 26 = .ok (.iconst 0, 1) := by decide +kernel
theorem dX8_isLine_27 : decode cX8_isLine 27 = .ok (.ireturn, 1) := by decide +kernel
theorem dX8_isLine_28 : decode cX8_isLine 28 = .ok (.iinc 2 1, 3) := by decide +kernel
theorem dX8_isLine_31 : decode cX8_isLine 31 = .ok (.goto (-29), 3) := by decide +kernel
theorem dX8_isLine_34 : decode cX8_isLine 34 = .ok (.aload_n 0, 1) := by decide +kernel
theorem dX8_isLine_35 : decode cX8_isLine 35 = .ok (.getfield 11, 3) := by decide +kernel
theorem dX8_isLine_38 : decode cX8_isLine 38 = .ok (.iload_n 1, 1) := by decide +kernel
theorem dX8_isLine_39 : decode cX8_isLine 39 = .ok (.iaload, 1) := by decide +kernel
theorem dX8_isLine_40 : decode cX8_isLine 40 = .ok (.iconst 0, 1) := by decide +kernel
theorem dX8_isLine_41 : decode cX8_isLine 41 = .ok (.sipush 999, 3) := by decide +kernel
theorem dX8_isLine_44 : decode cX8_isLine 44 = .ok (.invokestatic 32, 3) := by decide +kernel
theorem dX8_isLine_47 : decode cX8_isLine 47 = .ok (.ifCond .eq 26, 3) := by decide +kernel
theorem dX8_isLine_50 : decode cX8_isLine 50 = .ok (.aload_n 0, 1) := by decide +kernel
theorem dX8_isLine_51 : decode cX8_isLine 51 = .ok (.getfield 11, 3) := by decide +kernel
theorem dX8_isLine_54 : decode cX8_isLine 54 = .ok (.iload_n 1, 1) := by decide +kernel
theorem dX8_isLine_55 : decode cX8_isLine 55 = .ok (.iconst 1, 1) := by decide +kernel
theorem dX8_isLine_56 : decode cX8_isLine 56 = .ok (.iadd, 1) := by decide +kernel
theorem dX8_isLine_57 : decode cX8_isLine 57 = .ok (.iconst 4, 1) := by decide +kernel
theorem dX8_isLine_58 : decode cX8_isLine 58 = .ok (.iadd, 1) := by decide +kernel
theorem dX8_isLine_59 : decode cX8_isLine 59 = .ok (.iaload, 1) := by decide +kernel
theorem dX8_isLine_60 : decode cX8_isLine 60 = .ok (.iconst 0, 1) := by decide +kernel
theorem dX8_isLine_61 : decode cX8_isLine 61 = .ok (.bipush 6, 2) := by decide +kernel
theorem dX8_isLine_63 : decode cX8_isLine 63 = .ok (.invokestatic 32, 3) := by decide +kernel
theorem dX8_isLine_66 : decode cX8_isLine 66 = .ok (.ifCond .eq 7, 3) := by decide +kernel
theorem dX8_isLine_69 : decode cX8_isLine 69 = .ok (.iconst 1, 1) := by decide +kernel
theorem dX8_isLine_70 : decode cX8_isLine 70 = .ok (.goto 4, 3) := by decide +kernel
theorem dX8_isLine_73 : decode cX8_isLine 73 = .ok (.iconst 0, 1) := by decide +kernel
theorem dX8_isLine_74 : decode cX8_isLine 74 = .ok (.ireturn, 1) := by decide +kernel
theorem dX8_appendLine_0 : decode cX8_appendLine 0 = .ok (.aload_n 2, 1) := by decide +kernel
theorem dX8_appendLine_1 : decode cX8_appendLine 1 = .ok (.aload_n 0, 1) := by decide +kernel
theorem dX8_appendLine_2 : decode cX8_appendLine 2 = .ok (.getfield 11, 3) := by decide +kernel
theorem dX8_appendLine_5 : decode cX8_appendLine 5 = .ok (.iload_n 1, 1) := by decide +kernel
theorem dX8_appendLine_6 : decode cX8_appendLine 6 = .ok (.iaload, 1) := by decide +kernel
theorem dX8_appendLine_7 : decode cX8_appendLine 7 = .ok (.aload_n 0, 1) := by decide +kernel
theorem dX8_appendLine_8 : decode cX8_appendLine 8 = .ok (.getfield 11, 3) := by decide +kernel
theorem dX8_appendLine_11 : decode cX8_appendLine 11 = .ok (.iload_n 1, 1) := by decide +kernel
theorem dX8_appendLine_12 : decode cX8_appendLine 12 = .ok (.iconst 1, 1) := by decide +kernel
theorem dX8_appendLine_13 : decode cX8_appendLine 13 = .ok (.iadd, 1) := by decide +kernel
theorem dX8_appendLine_14 : decode cX8_appendLine 14 = .ok (.iconst 4, 1) := by decide +kernel
theorem dX8_appendLine_15 : decode cX8_appendLine 15 = .ok (.iadd, 1) := by decide +kernel
theorem dX8_appendLine_16 : decode cX8_appendLine 16 = .ok (.iaload, 1) := by decide +kernel
theorem dX8_appendLine_17 : decode cX8_appendLine 17 = .ok (.invokevirtual 36, 3) := by decide +kernel
theorem dX8_appendLine_20 : decode cX8_appendLine 20 = .ok (.istore_n 3, 1) := by decide +kernel
theorem dX8_appendLine_21 : decode cX8_appendLine 21 = .ok (.aload_n 0, 1) := by decide +kernel
theorem dX8_appendLine_22 : decode cX8_appendLine 22 = .ok (.getfield 11, 3) := by decide +kernel
theorem dX8_appendLine_25 : decode cX8_appendLine 25 = .ok (.iload_n 1, 1) := by decide +kernel
theorem dX8_appendLine_26 : decode cX8_appendLine 26 = .ok (.iconst 1, 1) := by decide +kernel
theorem dX8_appendLine_27 : decode cX8_appendLine 27 = .ok (.iadd, 1) := by decide +kernel
theorem dX8_appendLine_28 : decode cX8_appendLine 28 = .ok (.aload_n 2, 1) := by decide +kernel
theorem dX8_appendLine_29 : decode cX8_appendLine 29 = .ok (.getfield 42, 3) := by decide +kernel
theorem dX8_appendLine_32 : decode cX8_appendLine 32 = .ok (.iload_n 3, 1) := by decide +kernel
theorem dX8_appendLine_33 : decode cX8_appendLine 33 = .ok (.iconst 4, 1) := by decide +kernel
theorem dX8_appendLine_34 : decode cX8_appendLine 34 = .ok (.imul, 1) := by decide +kernel
theorem dX8_appendLine_35 : decode cX8_appendLine 35 = .ok (.iconst 4, 1) := by decide +kernel
theorem dX8_appendLine_36 : decode cX8_appendLine 36 = .ok (.invokestatic 45, 3) := by decide +kernel
theorem dX8_appendLine_39 : decode cX8_appendLine 39 = .ok (.return_, 1) := by decide +kernel
theorem dX9_init_0 : decode cX9_init 0 = .ok (.aload_n 0, 1) := by decide +kernel
theorem dX9_init_1 : decode cX9_init 1 = .ok (.invokespecial 3, 3) := by decide +kernel
theorem dX9_init_4 : decode cX9_init 4 = .ok (.aload_n 0, 1) := by decide +kernel
theorem dX9_init_5 : decode cX9_init 5 = .ok (.sipush 320, 3) := by decide +kernel
theorem dX9_init_8 : decode cX9_init 8 = .ok (.newarray .byte, 2) := by decide +kernel
theorem dX9_init_10 : decode cX9_init 10 = .ok (.putfield 11, 3) := by decide +kernel
theorem dX9_init_13 : decode cX9_init 13 = .ok (.return_, 1) := by decide +kernel
theorem dX9_append_0 : decode cX9_append 0 = .ok (.aload_n 0, 1) := by decide +kernel
theorem dX9_append_1 : decode cX9_append 1 = .ok (.getfield 15, 3) := by decide +kernel
theorem dX9_append_4 : decode cX9_append 4 = .ok (.bipush 8, 2) := by decide +kernel
theorem dX9_append_6 : decode cX9_append 6 = .ok (.iadd, 1) := by decide +kernel
theorem dX9_append_7 : decode cX9_append 7 = .ok (.sipush 320, 3) := by decide +kernel
theorem dX9_append_10 : decode cX9_append 10 = .ok (.if_icmp .le 5, 3) := by decide +kernel
theorem dX9_append_13 : decode cX9_append 13 = .ok (.iconst 0, 1) := by decide +kernel
theorem dX9_append_14 : decode cX9_append 14 = .ok (.ireturn, 1) := by decide +kernel
theorem dX9_append_15 : decode cX9_append 15 = .ok (.iconst 0, 1) := by decide +kernel
theorem dX9_append_16 : decode cX9_append 16 = .ok (.istore_n 3, 1) := by decide +kernel
theorem dX9_append_17 : decode cX9_append 17 = .ok (.iload_n 3, 1) := by decide +kernel
theorem dX9_append_18 : decode cX9_append 18 = .ok (.bipush 8, 2) := by decide +kernel
theorem dX9_append_20 : decode cX9_append 20 = .ok (.if_icmp .ge 31, 3) := by decide +kernel
theorem dX9_append_23 : decode cX9_append 23 = .ok (.aload_n 0, 1) := by decide +kernel
theorem dX9_append_24 : decode cX9_append 24 = .ok (.getfield 11, 3) := by decide +kernel
theorem dX9_append_27 : decode cX9_append 27 = .ok (.aload_n 0, 1) := by decide +kernel
theorem dX9_append_28 : decode cX9_append 28 = .ok (.getfield 15, 3) := by decide +kernel
theorem dX9_append_31 : decode cX9_append 31 = .ok (.iload_n 3, 1) := by decide +kernel
theorem dX9_append_32 : decode cX9_append 32 = .ok (.iadd, 1) := by decide +kernel
theorem dX9_append_33 : decode cX9_append 33 = .ok (.lload_n 1, 1) := by decide +kernel
theorem dX9_append_34 : decode cX9_append 34 = .ok (.bipush 56, 2) := by decide +kernel
theorem dX9_append_36 : decode cX9_append 36 = .ok (.bipush 8, 2) := by decide +kernel
theorem dX9_append_38 : decode cX9_append 38 = .ok (.iload_n 3, 1) := by decide +kernel
theorem dX9_append_39 : decode cX9_append 39 = .ok (.imul, 1) := by decide +kernel
theorem dX9_append_40 : decode cX9_append 40 = .ok (.isub, 1) := by decide +kernel
theorem dX9_append_41 : decode cX9_append 41 = .ok (.lshr, 1) := by decide +kernel
theorem dX9_append_42 : decode cX9_append 42 = .ok (.l2i, 1) := by decide +kernel
theorem dX9_append_43 : decode cX9_append 43 = .ok (.i2b, 1) := by decide +kernel
theorem dX9_append_44 : decode cX9_append 44 = .ok (.bastore, 1) := by decide +kernel
theorem dX9_append_45 : decode cX9_append 45 = .ok (.iinc 3 1, 3) := by decide +kernel
theorem dX9_append_48 : decode cX9_append 48 = .ok (.goto (-31), 3) := by decide +kernel
theorem dX9_append_51 : decode cX9_append 51 = .ok (.aload_n 0, 1) := by decide +kernel
theorem dX9_append_52 : decode cX9_append 52 = .ok (.dup, 1) := by decide +kernel
theorem dX9_append_53 : decode cX9_append 53 = .ok (.getfield 15, 3) := by decide +kernel
theorem dX9_append_56 : decode cX9_append 56 = .ok (.bipush 8, 2) := by decide +kernel
theorem dX9_append_58 : decode cX9_append 58 = .ok (.iadd, 1) := by decide +kernel
theorem dX9_append_59 : decode cX9_append 59 = .ok (.putfield 15, 3) := by decide +kernel
theorem dX9_append_62 : decode cX9_append 62 = .ok (.iconst 1, 1) := by decide +kernel
theorem dX9_append_63 : decode cX9_append 63 = .ok (.ireturn, 1) := by decide +kernel
theorem dX9_tellRoad_0 : decode cX9_tellRoad 0 = .ok (.aload_n 1, 1) := by decide +kernel
theorem dX9_tellRoad_1 : decode cX9_tellRoad 1 = .ok (.invokevirtual 19, 3) := by decide +kernel
theorem dX9_tellRoad_4 : decode cX9_tellRoad 4 = .ok (.aload_n 0, 1) := by decide +kernel
theorem dX9_tellRoad_5 : decode cX9_tellRoad 5 = .ok (.iconst 0, 1) := by decide +kernel
theorem dX9_tellRoad_6 : decode cX9_tellRoad 6 = .ok (.putfield 24, 3) := by decide +kernel
theorem dX9_tellRoad_9 : decode cX9_tellRoad 9 = .ok (.aload_n 0, 1) := by decide +kernel
theorem dX9_tellRoad_10 : decode cX9_tellRoad 10 = .ok (.iconst 0, 1) := by decide +kernel
theorem dX9_tellRoad_11 : decode cX9_tellRoad 11 = .ok (.putfield 27, 3) := by decide +kernel
theorem dX9_tellRoad_14 : decode cX9_tellRoad 14 = .ok (.aload_n 0, 1) := by decide +kernel
theorem dX9_tellRoad_15 : decode cX9_tellRoad 15 = .ok (.iconst 0, 1) := by decide +kernel
theorem dX9_tellRoad_16 : decode cX9_tellRoad 16 = .ok (.putfield 30, 3) := by decide +kernel
theorem dX9_tellRoad_19 : decode cX9_tellRoad 19 = .ok (.iconst 0, 1) := by decide +kernel
theorem dX9_tellRoad_20 : decode cX9_tellRoad 20 = .ok (.istore_n 2, 1) := by decide +kernel
theorem dX9_tellRoad_21 : decode cX9_tellRoad 21 = .ok (.iload_n 2, 1) := by decide +kernel
theorem dX9_tellRoad_22 : decode cX9_tellRoad 22 = .ok (.sipush 320, 3) := by decide +kernel
theorem dX9_tellRoad_25 : decode cX9_tellRoad 25 = .ok (.if_icmp .ge 44, 3) := by decide +kernel
theorem dX9_tellRoad_28 : decode cX9_tellRoad 28 = .ok (.aload_n 0, 1) := by decide +kernel
theorem dX9_tellRoad_29 : decode cX9_tellRoad 29 = .ok (.iconst 5, 1) := by decide +kernel
theorem dX9_tellRoad_30 : decode cX9_tellRoad 30 = .ok (.invokevirtual 33, 3) := by decide +kernel
theorem dX9_tellRoad_33 : decode cX9_tellRoad 33 = .ok (.ifCond .eq 36, 3) := by decide +kernel
theorem dX9_tellRoad_36 : decode cX9_tellRoad 36 = .ok (.aload_n 0, 1) := by decide +kernel
theorem dX9_tellRoad_37 : decode cX9_tellRoad 37 = .ok (.getfield 37, 3) := by decide +kernel
theorem dX9_tellRoad_40 : decode cX9_tellRoad 40 = .ok (.iconst 4, 1) := by decide +kernel
theorem dX9_tellRoad_41 : decode cX9_tellRoad 41 = .ok (.if_icmp .eq 28, 3) := by decide +kernel
theorem dX9_tellRoad_44 : decode cX9_tellRoad 44 = .ok (.aload_n 0, 1) := by decide +kernel
theorem dX9_tellRoad_45 : decode cX9_tellRoad 45 = .ok (.aload_n 1, 1) := by decide +kernel
theorem dX9_tellRoad_46 : decode cX9_tellRoad 46 = .ok (.invokevirtual 40, 3) := by decide +kernel
theorem dX9_tellRoad_49 : decode cX9_tellRoad 49 = .ok (.ifCond .eq 20, 3) := by decide +kernel
theorem dX9_tellRoad_52 : decode cX9_tellRoad 52 = .ok (.aload_n 0, 1) := by decide +kernel
theorem dX9_tellRoad_53 : decode cX9_tellRoad 53 = .ok (.iconst 3, 1) := by decide +kernel
theorem dX9_tellRoad_54 : decode cX9_tellRoad 54 = .ok (.invokevirtual 33, 3) := by decide +kernel
theorem dX9_tellRoad_57 : decode cX9_tellRoad 57 = .ok (.ifCond .ne 6, 3) := by decide +kernel
theorem dX9_tellRoad_60 : decode cX9_tellRoad 60 = .ok (.goto 9, 3) := by decide +kernel
theorem dX9_tellRoad_63 : decode cX9_tellRoad 63 = .ok (.iinc 2 1, 3) := by decide +kernel
theorem dX9_tellRoad_66 : decode cX9_tellRoad 66 = .ok (.goto (-45), 3) := by decide +kernel
theorem dX9_tellRoad_69 : decode cX9_tellRoad 69 = .ok (.aload_n 0, 1) := by decide +kernel
theorem dX9_tellRoad_70 : decode cX9_tellRoad 70 = .ok (.iconst 0, 1) := by decide +kernel
theorem dX9_tellRoad_71 : decode cX9_tellRoad 71 = .ok (.putfield 15, 3) := by decide +kernel
theorem dX9_tellRoad_74 : decode cX9_tellRoad 74 = .ok (.aload_n 0, 1) := by decide +kernel
theorem dX9_tellRoad_75 : decode cX9_tellRoad 75 = .ok (.getfield 30, 3) := by decide +kernel
theorem dX9_tellRoad_78 : decode cX9_tellRoad 78 = .ok (.ifCond .ne 7, 3) := by decide +kernel
theorem dX9_tellRoad_81 : decode cX9_tellRoad 81 = .ok (.iload_n 2, 1) := by decide +kernel
theorem dX9_tellRoad_82 : decode cX9_tellRoad 82 = .ok (.goto 10, 3) := by decide +kernel
theorem dX9_tellRoad_85 : decode cX9_tellRoad 85 = .ok (.bipush (-10), 2) := by decide +kernel
theorem dX9_tellRoad_87 : decode cX9_tellRoad 87 = .ok (.aload_n 0, 1) := by decide +kernel
theorem dX9_tellRoad_88 : decode cX9_tellRoad 88 = .ok (.getfield 44, 3) := by decide +kernel
theorem dX9_tellRoad_91 : decode cX9_tellRoad 91 = .ok (.isub, 1) := by decide +kernel
theorem dX9_tellRoad_92 : decode cX9_tellRoad 92 = .ok (.ireturn, 1) := by decide +kernel
theorem dX9_fail_0 : decode cX9_fail 0 = .ok (.aload_n 0, 1) := by decide +kernel
theorem dX9_fail_1 : decode cX9_fail 1 = .ok (.iload_n 1, 1) := by decide +kernel
theorem dX9_fail_2 : decode cX9_fail 2 = .ok (.putfield 30, 3) := by decide +kernel
theorem dX9_fail_5 : decode cX9_fail 5 = .ok (.aload_n 0, 1) := by decide +kernel
theorem dX9_fail_6 : decode cX9_fail 6 = .ok (.aload_n 0, 1) := by decide +kernel
theorem dX9_fail_7 : decode cX9_fail 7 = .ok (.getfield 47, 3) := by decide +kernel
theorem dX9_fail_10 : decode cX9_fail 10 = .ok (.putfield 44, 3) := by decide +kernel
theorem dX9_fail_13 : decode cX9_fail 13 = .ok (.iconst 0, 1) := by decide +kernel
theorem dX9_fail_14 : decode cX9_fail 14 = .ok (.ireturn, 1) := by decide +kernel
theorem dX9_takeToken_0 : decode cX9_takeToken 0 = .ok (.aload_n 0, 1) := by decide +kernel
theorem dX9_takeToken_1 : decode cX9_takeToken 1 = .ok (.getfield 24, 3) := by decide +kernel
theorem dX9_takeToken_4 : decode cX9_takeToken 4 = .ok (.aload_n 0, 1) := by decide +kernel
theorem dX9_takeToken_5 : decode cX9_takeToken 5 = .ok (.getfield 15, 3) := by decide +kernel
theorem dX9_takeToken_8 : decode cX9_takeToken 8 = .ok (.if_icmp .ge 30, 3) := by decide +kernel
theorem dX9_takeToken_11 : decode cX9_takeToken 11 = .ok (.aload_n 0, 1) := by decide +kernel
theorem dX9_takeToken_12 : decode cX9_takeToken 12 = .ok (.getfield 11, 3) := by decide +kernel
theorem dX9_takeToken_15 : decode cX9_takeToken 15 = .ok (.aload_n 0, 1) := by decide +kernel
theorem dX9_takeToken_16 : decode cX9_takeToken 16 = .ok (.getfield 24, 3) := by decide +kernel
theorem dX9_takeToken_19 : decode cX9_takeToken 19 = .ok (.baload, 1) := by decide +kernel
theorem dX9_takeToken_20 : decode cX9_takeToken 20 = .ok (.bipush 32, 2) := by decide +kernel
theorem dX9_takeToken_22 : decode cX9_takeToken 22 = .ok (.if_icmp .ne 16, 3) := by decide +kernel
theorem dX9_takeToken_25 : decode cX9_takeToken 25 = .ok (.aload_n 0, 1) := by decide +kernel
theorem dX9_takeToken_26 : decode cX9_takeToken 26 = .ok (.dup, 1) := by decide +kernel
theorem dX9_takeToken_27 : decode cX9_takeToken 27 = .ok (.getfield 24, 3) := by decide +kernel
theorem dX9_takeToken_30 : decode cX9_takeToken 30 = .ok (.iconst 1, 1) := by decide +kernel
theorem dX9_takeToken_31 : decode cX9_takeToken 31 = .ok (.iadd, 1) := by decide +kernel
theorem dX9_takeToken_32 : decode cX9_takeToken 32 = .ok (.putfield 24, 3) := by decide +kernel
theorem dX9_takeToken_35 : decode cX9_takeToken 35 = .ok (.goto (-35), 3) := by decide +kernel
theorem dX9_takeToken_38 : decode cX9_takeToken 38 = .ok (.aload_n 0, 1) := by decide +kernel
theorem dX9_takeToken_39 : decode cX9_takeToken 39 = .ok (.aload_n 0, 1) := by decide +kernel
theorem dX9_takeToken_40 : decode cX9_takeToken 40 = .ok (.getfield 24, 3) := by decide +kernel
theorem dX9_takeToken_43 : decode cX9_takeToken 43 = .ok (.putfield 47, 3) := by decide +kernel
theorem dX9_takeToken_46 : decode cX9_takeToken 46 = .ok (.aload_n 0, 1) := by decide +kernel
theorem dX9_takeToken_47 : decode cX9_takeToken 47 = .ok (.aload_n 0, 1) := by decide +kernel
theorem dX9_takeToken_48 : decode cX9_takeToken 48 = .ok (.getfield 24, 3) := by decide +kernel
theorem dX9_takeToken_51 : decode cX9_takeToken 51 = .ok (.aload_n 0, 1) := by decide +kernel
theorem dX9_takeToken_52 : decode cX9_takeToken 52 = .ok (.getfield 15, 3) := by decide +kernel
theorem dX9_takeToken_55 : decode cX9_takeToken 55 = .ok (.if_icmp .ge 18, 3) := by decide +kernel
theorem dX9_takeToken_58 : decode cX9_takeToken 58 = .ok (.aload_n 0, 1) := by decide +kernel
theorem dX9_takeToken_59 : decode cX9_takeToken 59 = .ok (.getfield 11, 3) := by decide +kernel
theorem dX9_takeToken_62 : decode cX9_takeToken 62 = .ok (.aload_n 0, 1) := by decide +kernel
theorem dX9_takeToken_63 : decode cX9_takeToken 63 = .ok (.getfield 24, 3) := by decide +kernel
theorem dX9_takeToken_66 : decode cX9_takeToken 66 = .ok (.baload, 1) := by decide +kernel
theorem dX9_takeToken_67 : decode cX9_takeToken 67 = .ok (.invokestatic 50, 3) := by decide +kernel
theorem dX9_takeToken_70 : decode cX9_takeToken 70 = .ok (.goto 4, 3) := by decide +kernel
theorem dX9_takeToken_73 : decode cX9_takeToken 73 = .ok (.iconst 4, 1) := by decide +kernel
theorem dX9_takeToken_74 : decode cX9_takeToken 74 = .ok (.putfield 37, 3) := by decide +kernel
theorem dX9_takeToken_77 : decode cX9_takeToken 77 = .ok (.aload_n 0, 1) := by decide +kernel
theorem dX9_takeToken_78 : decode cX9_takeToken 78 = .ok (.iconst 0, 1) := by decide +kernel
theorem dX9_takeToken_79 : decode cX9_takeToken 79 = .ok (.putfield 54, 3) := by decide +kernel
theorem dX9_takeToken_82 : decode cX9_takeToken 82 = .ok (.aload_n 0, 1) := by decide +kernel
theorem dX9_takeToken_83 : decode cX9_takeToken 83 = .ok (.getfield 24, 3) := by decide +kernel
theorem dX9_takeToken_86 : decode cX9_takeToken 86 = .ok (.aload_n 0, 1) := by decide +kernel
theorem dX9_takeToken_87 : decode cX9_takeToken 87 = .ok (.getfield 15, 3) := by decide +kernel
theorem dX9_takeToken_90 : decode cX9_takeToken 90 = .ok (.if_icmp .ge 78, 3) := by decide +kernel
theorem dX9_takeToken_93 : decode cX9_takeToken 93 = .ok (.aload_n 0, 1) := by decide +kernel
theorem dX9_takeToken_94 : decode cX9_takeToken 94 = .ok (.getfield 11, 3) := by decide +kernel
theorem dX9_takeToken_97 : decode cX9_takeToken 97 = .ok (.aload_n 0, 1) := by decide +kernel
theorem dX9_takeToken_98 : decode cX9_takeToken 98 = .ok (.getfield 24, 3) := by decide +kernel
theorem dX9_takeToken_101 : decode cX9_takeToken 101 = .ok (.baload, 1) := by decide +kernel
theorem dX9_takeToken_102 : decode cX9_takeToken 102 = .ok (.invokestatic 50, 3) := by decide +kernel
theorem dX9_takeToken_105 : decode cX9_takeToken 105 = .ok (.aload_n 0, 1) := by decide +kernel
theorem dX9_takeToken_106 : decode cX9_takeToken 106 = .ok (.getfield 37, 3) := by decide +kernel
theorem dX9_takeToken_109 : decode cX9_takeToken 109 = .ok (.if_icmp .ne 59, 3) := by decide +kernel
theorem dX9_takeToken_112 : decode cX9_takeToken 112 = .ok (.aload_n 0, 1) := by decide +kernel
theorem dX9_takeToken_113 : decode cX9_takeToken 113 = .ok (.getfield 37, 3) := by decide +kernel
theorem dX9_takeToken_116 : decode cX9_takeToken 116 = .ok (.iconst 3, 1) := by decide +kernel
theorem dX9_takeToken_117 : decode cX9_takeToken 117 = .ok (.if_icmp .ne 14, 3) := by decide +kernel
theorem dX9_takeToken_120 : decode cX9_takeToken 120 = .ok (.aload_n 0, 1) := by decide +kernel
theorem dX9_takeToken_121 : decode cX9_takeToken 121 = .ok (.getfield 24, 3) := by decide +kernel
theorem dX9_takeToken_124 : decode cX9_takeToken 124 = .ok (.aload_n 0, 1) := by decide +kernel
theorem dX9_takeToken_125 : decode cX9_takeToken 125 = .ok (.getfield 47, 3) := by decide +kernel
theorem dX9_takeToken_128 : decode cX9_takeToken 128 = .ok (.if_icmp .ne 40, 3) := by decide +kernel
theorem dX9_takeToken_131 : decode cX9_takeToken 131 = .ok (.aload_n 0, 1) := by decide +kernel
theorem dX9_takeToken_132 : decode cX9_takeToken 132 = .ok (.aload_n 0, 1) := by decide +kernel
theorem dX9_takeToken_133 : decode cX9_takeToken 133 = .ok (.getfield 54, 3) := by decide +kernel
theorem dX9_takeToken_136 : decode cX9_takeToken 136 = .ok (.bipush 10, 2) := by decide +kernel
theorem dX9_takeToken_138 : decode cX9_takeToken 138 = .ok (.imul, 1) := by decide +kernel
theorem dX9_takeToken_139 : decode cX9_takeToken 139 = .ok (.aload_n 0, 1) := by decide +kernel
theorem dX9_takeToken_140 : decode cX9_takeToken 140 = .ok (.getfield 11, 3) := by decide +kernel
theorem dX9_takeToken_143 : decode cX9_takeToken 143 = .ok (.aload_n 0, 1) := by decide +kernel
theorem dX9_takeToken_144 : decode cX9_takeToken 144 = .ok (.getfield 24, 3) := by decide +kernel
theorem dX9_takeToken_147 : decode cX9_takeToken 147 = .ok (.baload, 1) := by decide +kernel
theorem dX9_takeToken_148 : decode cX9_takeToken 148 = .ok (.iadd, 1) := by decide +kernel
theorem dX9_takeToken_149 : decode cX9_takeToken 149 = .ok (.bipush 48, 2) := by decide +kernel
theorem dX9_takeToken_151 : decode cX9_takeToken 151 = .ok (.isub, 1) := by decide +kernel
theorem dX9_takeToken_152 : decode cX9_takeToken 152 = .ok (.putfield 54, 3) := by decide +kernel
theorem dX9_takeToken_155 : decode cX9_takeToken 155 = .ok (.aload_n 0, 1) := by decide +kernel
theorem dX9_takeToken_156 : decode cX9_takeToken 156 = .ok (.dup, 1) := by decide +kernel
theorem dX9_takeToken_157 : decode cX9_takeToken 157 = .ok (.getfield 24, 3) := by decide +kernel
theorem dX9_takeToken_160 : decode cX9_takeToken 160 = .ok (.iconst 1, 1) := by decide +kernel
theorem dX9_takeToken_161 : decode cX9_takeToken 161 = .ok (.iadd, 1) := by decide +kernel
theorem dX9_takeToken_162 : decode cX9_takeToken 162 = .ok (.putfield 24, 3) := by decide +kernel
theorem dX9_takeToken_165 : decode cX9_takeToken 165 = .ok (.goto (-83), 3) := by decide +kernel
theorem dX9_takeToken_168 : decode cX9_takeToken 168 = .ok (.aload_n 0, 1) := by decide +kernel
theorem dX9_takeToken_169 : decode cX9_takeToken 169 = .ok (.getfield 37, 3) := by decide +kernel
theorem dX9_takeToken_172 : decode cX9_takeToken 172 = .ok (.ifCond .eq 24, 3) := by decide +kernel
theorem dX9_takeToken_175 : decode cX9_takeToken 175 = .ok (.aload_n 0, 1) := by decide +kernel
theorem dX9_takeToken_176 : decode cX9_takeToken 176 = .ok (.getfield 37, 3) := by decide +kernel
theorem dX9_takeToken_179 : decode cX9_takeToken 179 = .ok (.iconst 2, 1) := by decide +kernel
theorem dX9_takeToken_180 : decode cX9_takeToken 180 = .ok (.if_icmp .ne 22, 3) := by decide +kernel
theorem dX9_takeToken_183 : decode cX9_takeToken 183 = .ok (.aload_n 0, 1) := by decide +kernel
theorem dX9_takeToken_184 : decode cX9_takeToken 184 = .ok (.getfield 24, 3) := by decide +kernel
theorem dX9_takeToken_187 : decode cX9_takeToken 187 = .ok (.aload_n 0, 1) := by decide +kernel
theorem dX9_takeToken_188 : decode cX9_takeToken 188 = .ok (.getfield 47, 3) := by decide +kernel
theorem dX9_takeToken_191 : decode cX9_takeToken 191 = .ok (.isub, 1) := by decide +kernel
theorem dX9_takeToken_192 : decode cX9_takeToken 192 = .ok (.iconst 3, 1) := by decide +kernel
theorem dX9_takeToken_193 : decode cX9_takeToken 193 = .ok (.if_icmp .le 9, 3) := by decide +kernel
theorem dX9_takeToken_196 : decode cX9_takeToken 196 = .ok (.aload_n 0, 1) := by decide +kernel
theorem dX9_takeToken_197 : decode cX9_takeToken 197 = .ok (.iconst 1, 1) := by decide +kernel
theorem dX9_takeToken_198 : decode cX9_takeToken 198 = .ok (.invokevirtual 57, 3) := by decide +kernel
theorem dX9_takeToken_201 : decode cX9_takeToken 201 = .ok (.ireturn, 1) := by decide +kernel
theorem dX9_takeToken_202 : decode cX9_takeToken 202 = .ok (.iload_n 1, 1) := by decide +kernel
theorem dX9_takeToken_203 : decode cX9_takeToken 203 = .ok (.iconst 5, 1) := by decide +kernel
theorem dX9_takeToken_204 : decode cX9_takeToken 204 = .ok (.if_icmp .eq 19, 3) := by decide +kernel
theorem dX9_takeToken_207 : decode cX9_takeToken 207 = .ok (.aload_n 0, 1) := by decide +kernel
theorem dX9_takeToken_208 : decode cX9_takeToken 208 = .ok (.getfield 37, 3) := by decide +kernel
theorem dX9_takeToken_211 : decode cX9_takeToken 211 = .ok (.iload_n 1, 1) := by decide +kernel
theorem dX9_takeToken_212 : decode cX9_takeToken 212 = .ok (.if_icmp .eq 11, 3) := by decide +kernel
theorem dX9_takeToken_215 : decode cX9_takeToken 215 = .ok (.aload_n 0, 1) := by decide +kernel
theorem dX9_takeToken_216 : decode cX9_takeToken 216 = .ok (.iconst 2, 1) := by decide +kernel
theorem dX9_takeToken_217 : decode cX9_takeToken 217 = .ok (.invokevirtual 57, 3) := by decide +kernel
theorem dX9_takeToken_220 : decode cX9_takeToken 220 = .ok (.ifCond .eq 7, 3) := by decide +kernel
theorem dX9_takeToken_223 : decode cX9_takeToken 223 = .ok (.iconst 1, 1) := by decide +kernel
theorem dX9_takeToken_224 : decode cX9_takeToken 224 = .ok (.goto 4, 3) := by decide +kernel
theorem dX9_takeToken_227 : decode cX9_takeToken 227 = .ok (.iconst 0, 1) := by decide +kernel
theorem dX9_takeToken_228 : decode cX9_takeToken 228 = .ok (.ireturn, 1) := by decide +kernel
theorem dX9_kindOf_0 : decode cX9_kindOf 0 = .ok (.iload_n 0, 1) := by decide +kernel
theorem dX9_kindOf_1 : decode cX9_kindOf 1 = .ok (.bipush 59, 2) := by decide +kernel
theorem dX9_kindOf_3 : decode cX9_kindOf 3 = .ok (.if_icmp .ne 5, 3) := by decide +kernel
theorem dX9_kindOf_6 : decode cX9_kindOf 6 = .ok (.iconst 3, 1) := by decide +kernel
theorem dX9_kindOf_7 : decode cX9_kindOf 7 = .ok (.ireturn, 1) := by decide +kernel
theorem dX9_kindOf_8 : decode cX9_kindOf 8 = .ok (.iload_n 0, 1) := by decide +kernel
theorem dX9_kindOf_9 : decode cX9_kindOf 9 = .ok (.bipush 97, 2) := by decide +kernel
theorem dX9_kindOf_11 : decode cX9_kindOf 11 = .ok (.if_icmp .lt 11, 3) := by decide +kernel
theorem dX9_kindOf_14 : decode cX9_kindOf 14 = .ok (.iload_n 0, 1) := by decide +kernel
theorem dX9_kindOf_15 : decode cX9_kindOf 15 = .ok (.bipush 122, 2) := by decide +kernel
theorem dX9_kindOf_17 : decode cX9_kindOf 17 = .ok (.if_icmp .gt 5, 3) := by decide +kernel
theorem dX9_kindOf_20 : decode cX9_kindOf 20 = .ok (.iconst 1, 1) := by decide +kernel
theorem dX9_kindOf_21 : decode cX9_kindOf 21 = .ok (.ireturn, 1) := by decide +kernel
theorem dX9_kindOf_22 : decode cX9_kindOf 22 = .ok (.iload_n 0, 1) := by decide +kernel
theorem dX9_kindOf_23 : decode cX9_kindOf 23 = .ok (.bipush 48, 2) := by decide +kernel
theorem dX9_kindOf_25 : decode cX9_kindOf 25 = .ok (.if_icmp .lt 13, 3) := by decide +kernel
theorem dX9_kindOf_28 : decode cX9_kindOf 28 = .ok (.iload_n 0, 1) := by decide +kernel
theorem dX9_kindOf_29 : decode cX9_kindOf 29 = .ok (.bipush 57, 2) := by decide +kernel
theorem dX9_kindOf_31 : decode cX9_kindOf 31 = .ok (.if_icmp .gt 7, 3) := by decide +kernel
theorem dX9_kindOf_34 : decode cX9_kindOf 34 = .ok (.iconst 2, 1) := by decide +kernel
theorem dX9_kindOf_35 : decode cX9_kindOf 35 = .ok (.goto 4, 3) := by decide +kernel
theorem dX9_kindOf_38 : decode cX9_kindOf 38 = .ok (.iconst 0, 1) := by decide +kernel
theorem dX9_kindOf_39 : decode cX9_kindOf 39 = .ok (.ireturn, 1) := by decide +kernel
theorem dX9_takeNumber_0 : decode cX9_takeNumber 0 = .ok (.aload_n 0, 1) := by decide +kernel
theorem dX9_takeNumber_1 : decode cX9_takeNumber 1 = .ok (.iconst 2, 1) := by decide +kernel
theorem dX9_takeNumber_2 : decode cX9_takeNumber 2 = .ok (.invokevirtual 33, 3) := by decide +kernel
theorem dX9_takeNumber_5 : decode cX9_takeNumber 5 = .ok (.ifCond .ne 5, 3) := by decide +kernel
theorem dX9_takeNumber_8 : decode cX9_takeNumber 8 = .ok (.iconst 0, 1) := by decide +kernel
theorem dX9_takeNumber_9 : decode cX9_takeNumber 9 = .ok (.ireturn, 1) := by decide +kernel
theorem dX9_takeNumber_10 : decode cX9_takeNumber 10 = .ok (.aload_n 0, 1) := by decide +kernel
theorem dX9_takeNumber_11 : decode cX9_takeNumber 11 = .ok (.getfield 54, 3) := by decide +kernel
theorem dX9_takeNumber_14 : decode cX9_takeNumber 14 = .ok (.iload_n 1, 1) := by decide +kernel
theorem dX9_takeNumber_15 : decode cX9_takeNumber 15 = .ok (.iload_n 2, 1) := by decide +kernel
theorem dX9_takeNumber_16 : decode cX9_takeNumber 16 = .ok (.invokestatic 60, 3) := by decide +kernel
theorem dX9_takeNumber_19 : decode cX9_takeNumber 19 = .ok (.ifCond .ne 11, 3) := by decide +kernel
theorem dX9_takeNumber_22 : decode cX9_takeNumber 22 = .ok (.aload_n 0, 1) := by decide +kernel
theorem dX9_takeNumber_23 : decode cX9_takeNumber 23 = .ok (.iconst 3, 1) := by decide +kernel
theorem dX9_takeNumber_24 : decode cX9_takeNumber 24 = .ok (.invokevirtual 57, 3) := by decide +kernel
theorem dX9_takeNumber_27 : decode cX9_takeNumber 27 = .ok (.ifCond .eq 7, 3) := by decide +kernel
theorem dX9_takeNumber_30 : decode cX9_takeNumber 30 = .ok (.iconst 1, 1) := by decide +kernel
theorem dX9_takeNumber_31 : decode cX9_takeNumber 31 = .ok (.goto 4, 3) := by decide +kernel
theorem dX9_takeNumber_34 : decode cX9_takeNumber 34 = .ok (.iconst 0, 1) := by decide +kernel
theorem dX9_takeNumber_35 : decode cX9_takeNumber 35 = .ok (.ireturn, 1) := by decide +kernel
theorem dX9_takeLetter_0 : decode cX9_takeLetter 0 = .ok (.aload_n 0, 1) := by decide +kernel
theorem dX9_takeLetter_1 : decode cX9_takeLetter 1 = .ok (.iconst 1, 1) := by decide +kernel
theorem dX9_takeLetter_2 : decode cX9_takeLetter 2 = .ok (.invokevirtual 33, 3) := by decide +kernel
theorem dX9_takeLetter_5 : decode cX9_takeLetter 5 = .ok (.ifCond .ne 5, 3) := by decide +kernel
theorem dX9_takeLetter_8 : decode cX9_takeLetter 8 = .ok (.iconst 0, 1) := by decide +kernel
theorem dX9_takeLetter_9 : decode cX9_takeLetter 9 = .ok (.ireturn, 1) := by decide +kernel
theorem dX9_takeLetter_10 : decode cX9_takeLetter 10 = .ok (.aload_n 0, 1) := by decide +kernel
theorem dX9_takeLetter_11 : decode cX9_takeLetter 11 = .ok (.aload_n 0, 1) := by decide +kernel
theorem dX9_takeLetter_12 : decode cX9_takeLetter 12 = .ok (.getfield 11, 3) := by decide +kernel
theorem dX9_takeLetter_15 : decode cX9_takeLetter 15 = .ok (.aload_n 0, 1) := by decide +kernel
theorem dX9_takeLetter_16 : decode cX9_takeLetter 16 = .ok (.getfield 47, 3) := by decide +kernel
theorem dX9_takeLetter_19 : decode cX9_takeLetter 19 = .ok (.baload, 1) := by decide +kernel
theorem dX9_takeLetter_20 : decode cX9_takeLetter 20 = .ok (.bipush 97, 2) := by decide +kernel
theorem dX9_takeLetter_22 : decode cX9_takeLetter 22 = .ok (.isub, 1) := by decide +kernel
theorem dX9_takeLetter_23 : decode cX9_takeLetter 23 = .ok (.putfield 54, 3) := by decide +kernel
theorem dX9_takeLetter_26 : decode cX9_takeLetter 26 = .ok (.aload_n 0, 1) := by decide +kernel
theorem dX9_takeLetter_27 : decode cX9_takeLetter 27 = .ok (.getfield 24, 3) := by decide +kernel
theorem dX9_takeLetter_30 : decode cX9_takeLetter 30 = .ok (.aload_n 0, 1) := by decide +kernel
theorem dX9_takeLetter_31 : decode cX9_takeLetter 31 = .ok (.getfield 47, 3) := by decide +kernel
theorem dX9_takeLetter_34 : decode cX9_takeLetter 34 = .ok (.isub, 1) := by decide +kernel
theorem dX9_takeLetter_35 : decode cX9_takeLetter 35 = .ok (.iconst 1, 1) := by decide +kernel
theorem dX9_takeLetter_36 : decode cX9_takeLetter 36 = .ok (.if_icmp .ne 13, 3) := by decide +kernel
theorem dX9_takeLetter_39 : decode cX9_takeLetter 39 = .ok (.aload_n 0, 1) := by decide +kernel
theorem dX9_takeLetter_40 : decode cX9_takeLetter 40 = .ok (.getfield 54, 3) := by decide +kernel
theorem dX9_takeLetter_43 : decode cX9_takeLetter 43 = .ok (.invokestatic 64, 3) := by decide +kernel
theorem dX9_takeLetter_46 : decode cX9_takeLetter 46 = .ok (.ifCond .ne 11, 3) := by decide +kernel
theorem dX9_takeLetter_49 : decode cX9_takeLetter 49 = .ok (.aload_n 0, 1) := by decide +kernel
theorem dX9_takeLetter_50 : decode cX9_takeLetter 50 = .ok (.iconst 3, 1) := by decide +kernel
theorem dX9_takeLetter_51 : decode cX9_takeLetter 51 = .ok (.invokevirtual 57, 3) := by decide +kernel
theorem dX9_takeLetter_54 : decode cX9_takeLetter 54 = .ok (.ifCond .eq 7, 3) := by decide +kernel
theorem dX9_takeLetter_57 : decode cX9_takeLetter 57 = .ok (.iconst 1, 1) := by decide +kernel
theorem dX9_takeLetter_58 : decode cX9_takeLetter 58 = .ok (.goto 4, 3) := by decide +kernel
theorem dX9_takeLetter_61 : decode cX9_takeLetter 61 = .ok (.iconst 0, 1) := by decide +kernel
theorem dX9_takeLetter_62 : decode cX9_takeLetter 62 = .ok (.ireturn, 1) := by decide +kernel
theorem dX9_takeItem_0 : decode cX9_takeItem 0 = .ok (.aload_n 0, 1) := by decide +kernel
theorem dX9_takeItem_1 : decode cX9_takeItem 1 = .ok (.getfield 37, 3) := by decide +kernel
theorem dX9_takeItem_4 : decode cX9_takeItem 4 = .ok (.iconst 1, 1) := by decide +kernel
theorem dX9_takeItem_5 : decode cX9_takeItem 5 = .ok (.if_icmp .ne 10, 3) := by decide +kernel
theorem dX9_takeItem_8 : decode cX9_takeItem 8 = .ok (.aload_n 0, 1) := by decide +kernel
theorem dX9_takeItem_9 : decode cX9_takeItem 9 = .ok (.invokevirtual 67, 3) := by decide +kernel
theorem dX9_takeItem_12 : decode cX9_takeItem 12 = .ok (.goto 5, 3) := by decide +kernel
theorem dX9_takeItem_15 : decode cX9_takeItem 15 = .ok (.bipush (-4), 2) := by decide +kernel
theorem dX9_takeItem_17 : decode cX9_takeItem 17 = .ok (.istore_n 2, 1) := by decide +kernel
theorem dX9_takeItem_18 : decode cX9_takeItem 18 = .ok (.iload_n 2, 1) := by decide +kernel
theorem dX9_takeItem_19 : decode cX9_takeItem 19 = .ok (.bipush (-4), 2) := by decide +kernel
theorem dX9_takeItem_21 : decode cX9_takeItem 21 = .ok (.if_icmp .ne 9, 3) := by decide +kernel
theorem dX9_takeItem_24 : decode cX9_takeItem 24 = .ok (.aload_n 0, 1) := by decide +kernel
theorem dX9_takeItem_25 : decode cX9_takeItem 25 = .ok (.iconst 2, 1) := by decide +kernel
theorem dX9_takeItem_26 : decode cX9_takeItem 26 = .ok (.invokevirtual 57, 3) := by decide +kernel
theorem dX9_takeItem_29 : decode cX9_takeItem 29 = .ok (.ireturn, 1) := by decide +kernel
theorem dX9_takeItem_30 : decode cX9_takeItem 30 = .ok (.iload_n 2, 1) := by decide +kernel
theorem dX9_takeItem_31 : decode cX9_takeItem 31 = .ok (.iconst 1, 1) := by decide +kernel
theorem dX9_takeItem_32 : decode cX9_takeItem 32 = .ok (.if_icmp .ne 9, 3) := by decide +kernel
theorem dX9_takeItem_35 : decode cX9_takeItem 35 = .ok (.aload_n 0, 1) := by decide +kernel
theorem dX9_takeItem_36 : decode cX9_takeItem 36 = .ok (.aload_n 1, 1) := by decide +kernel
theorem dX9_takeItem_37 : decode cX9_takeItem 37 = .ok (.invokevirtual 71, 3) := by decide +kernel
theorem dX9_takeItem_40 : decode cX9_takeItem 40 = .ok (.ireturn, 1) := by decide +kernel
theorem dX9_takeItem_41 : decode cX9_takeItem 41 = .ok (.iconst 1, 1) := by decide +kernel
theorem dX9_takeItem_42 : decode cX9_takeItem 42 = .ok (.iload_n 2, 1) := by decide +kernel
theorem dX9_takeItem_43 : decode cX9_takeItem 43 = .ok (.bipush 7, 2) := by decide +kernel
theorem dX9_takeItem_45 : decode cX9_takeItem 45 = .ok (.invokestatic 74, 3) := by decide +kernel
theorem dX9_takeItem_48 : decode cX9_takeItem 48 = .ok (.ishl, 1) := by decide +kernel
theorem dX9_takeItem_49 : decode cX9_takeItem 49 = .ok (.istore_n 3, 1) := by decide +kernel
theorem dX9_takeItem_50 : decode cX9_takeItem 50 = .ok (.aload_n 0, 1) := by decide +kernel
theorem dX9_takeItem_51 : decode cX9_takeItem 51 = .ok (.getfield 27, 3) := by decide +kernel
theorem dX9_takeItem_54 : decode cX9_takeItem 54 = .ok (.iload_n 3, 1) := by decide +kernel
theorem dX9_takeItem_55 : decode cX9_takeItem 55 = .ok (.iand, 1) := by decide +kernel
theorem dX9_takeItem_56 : decode cX9_takeItem 56 = .ok (.ifCond .eq 9, 3) := by decide +kernel
theorem dX9_takeItem_59 : decode cX9_takeItem 59 = .ok (.aload_n 0, 1) := by decide +kernel
theorem dX9_takeItem_60 : decode cX9_takeItem 60 = .ok (.iconst 4, 1) := by decide +kernel
theorem dX9_takeItem_61 : decode cX9_takeItem 61 = .ok (.invokevirtual 57, 3) := by decide +kernel
theorem dX9_takeItem_64 : decode cX9_takeItem 64 = .ok (.ireturn, 1) := by decide +kernel
theorem dX9_takeItem_65 : decode cX9_takeItem 65 = .ok (.aload_n 0, 1) := by decide +kernel
theorem dX9_takeItem_66 : decode cX9_takeItem 66 = .ok (.dup, 1) := by decide +kernel
theorem dX9_takeItem_67 : decode cX9_takeItem 67 = .ok (.getfield 27, 3) := by decide +kernel
theorem dX9_takeItem_70 : decode cX9_takeItem 70 = .ok (.iload_n 3, 1) := by decide +kernel
theorem dX9_takeItem_71 : decode cX9_takeItem 71 = .ok (.ior, 1) := by decide +kernel
theorem dX9_takeItem_72 : decode cX9_takeItem 72 = .ok (.putfield 27, 3) := by decide +kernel
theorem dX9_takeItem_75 : decode cX9_takeItem 75 = .ok (.iload_n 2, 1) := by decide +kernel
theorem dX9_takeItem_76 : decode cX9_takeItem 76 = .ok (.ifCond .ne 14, 3) := by decide +kernel
theorem dX9_takeItem_79 : decode cX9_takeItem 79 = .ok (.aload_n 0, 1) := by decide +kernel
theorem dX9_takeItem_80 : decode cX9_takeItem 80 = .ok (.aload_n 1, 1) := by decide +kernel
theorem dX9_takeItem_81 : decode cX9_takeItem 81 = .ok (.getfield 80, 3) := by decide +kernel
theorem dX9_takeItem_84 : decode cX9_takeItem 84 = .ok (.invokevirtual 84, 3) := by decide +kernel
theorem dX9_takeItem_87 : decode cX9_takeItem 87 = .ok (.goto 12, 3) := by decide +kernel
theorem dX9_takeItem_90 : decode cX9_takeItem 90 = .ok (.aload_n 0, 1) := by decide +kernel
theorem dX9_takeItem_91 : decode cX9_takeItem 91 = .ok (.aload_n 1, 1) := by decide +kernel
theorem dX9_takeItem_92 : decode cX9_takeItem 92 = .ok (.getfield 80, 3) := by decide +kernel
theorem dX9_takeItem_95 : decode cX9_takeItem 95 = .ok (.iload_n 2, 1) := by decide +kernel
theorem dX9_takeItem_96 : decode cX9_takeItem 96 = .ok (.invokevirtual 88, 3) := by decide +kernel
theorem dX9_takeItem_99 : decode cX9_takeItem 99 = .ok (.ireturn, 1) := by decide +kernel
theorem dX9_takeMinutes_0 : decode cX9_takeMinutes 0 = .ok (.aload_n 0, 1) := by decide +kernel
theorem dX9_takeMinutes_1 : decode cX9_takeMinutes 1 = .ok (.iconst 0, 1) := by decide +kernel
theorem dX9_takeMinutes_2 : decode cX9_takeMinutes 2 = .ok (.sipush 500, 3) := by decide +kernel
theorem dX9_takeMinutes_5 : decode cX9_takeMinutes 5 = .ok (.invokevirtual 92, 3) := by decide +kernel
theorem dX9_takeMinutes_8 : decode cX9_takeMinutes 8 = .ok (.ifCond .ne 5, 3) := by decide +kernel
theorem dX9_takeMinutes_11 : decode cX9_takeMinutes 11 = .ok (.iconst 0, 1) := by decide +kernel
theorem dX9_takeMinutes_12 : decode cX9_takeMinutes 12 = .ok (.ireturn, 1) := by decide +kernel
theorem dX9_takeMinutes_13 : decode cX9_takeMinutes 13 = .ok (.aload_n 1, 1) := by decide +kernel
theorem dX9_takeMinutes_14 : decode cX9_takeMinutes 14 = .ok (.iconst 0, 1) := by decide +kernel
theorem dX9_takeMinutes_15 : decode cX9_takeMinutes 15 = .ok (.aload_n 0, 1) := by decide +kernel
theorem dX9_takeMinutes_16 : decode cX9_takeMinutes 16 = .ok (.getfield 54, 3) := by decide +kernel
theorem dX9_takeMinutes_19 : decode cX9_takeMinutes 19 = .ok (.iastore, 1) := by decide +kernel
theorem dX9_takeMinutes_20 : decode cX9_takeMinutes 20 = .ok (.aload_n 0, 1) := by decide +kernel
theorem dX9_takeMinutes_21 : decode cX9_takeMinutes 21 = .ok (.aload_n 1, 1) := by decide +kernel
theorem dX9_takeMinutes_22 : decode cX9_takeMinutes 22 = .ok (.iconst 0, 1) := by decide +kernel
theorem dX9_takeMinutes_23 : decode cX9_takeMinutes 23 = .ok (.iaload, 1) := by decide +kernel
theorem dX9_takeMinutes_24 : decode cX9_takeMinutes 24 = .ok (.sipush 500, 3) := by decide +kernel
theorem dX9_takeMinutes_27 : decode cX9_takeMinutes 27 = .ok (.invokevirtual 92, 3) := by decide +kernel
theorem dX9_takeMinutes_30 : decode cX9_takeMinutes 30 = .ok (.ifCond .ne 5, 3) := by decide +kernel
theorem dX9_takeMinutes_33 : decode cX9_takeMinutes 33 = .ok (.iconst 0, 1) := by decide +kernel
theorem dX9_takeMinutes_34 : decode cX9_takeMinutes 34 = .ok (.ireturn, 1) := by decide +kernel
theorem dX9_takeMinutes_35 : decode cX9_takeMinutes 35 = .ok (.aload_n 1, 1) := by decide +kernel
theorem dX9_takeMinutes_36 : decode cX9_takeMinutes 36 = .ok (.iconst 1, 1) := by decide +kernel
theorem dX9_takeMinutes_37 : decode cX9_takeMinutes 37 = .ok (.aload_n 0, 1) := by decide +kernel
theorem dX9_takeMinutes_38 : decode cX9_takeMinutes 38 = .ok (.getfield 54, 3) := by decide +kernel
theorem dX9_takeMinutes_41 : decode cX9_takeMinutes 41 = .ok (.iastore, 1) := by decide +kernel
theorem dX9_takeMinutes_42 : decode cX9_takeMinutes 42 = .ok (.aload_n 0, 1) := by decide +kernel
theorem dX9_takeMinutes_43 : decode cX9_takeMinutes 43 = .ok (.aload_n 1, 1) := by decide +kernel
theorem dX9_takeMinutes_44 : decode cX9_takeMinutes 44 = .ok (.iconst 0, 1) := by decide +kernel
theorem dX9_takeMinutes_45 : decode cX9_takeMinutes 45 = .ok (.iaload, 1) := by decide +kernel
theorem dX9_takeMinutes_46 : decode cX9_takeMinutes 46 = .ok (.aload_n 1, 1) := by decide +kernel
theorem dX9_takeMinutes_47 : decode cX9_takeMinutes 47 = .ok (.iconst 1, 1) := by decide +kernel
theorem dX9_takeMinutes_48 : decode cX9_takeMinutes 48 = .ok (.iaload, 1) := by decide +kernel
theorem dX9_takeMinutes_49 : decode cX9_takeMinutes 49 = .ok (.invokevirtual 92, 3) := by decide +kernel
theorem dX9_takeMinutes_52 : decode cX9_takeMinutes 52 = .ok (.ifCond .ne 5, 3) := by decide +kernel
theorem dX9_takeMinutes_55 : decode cX9_takeMinutes 55 = .ok (.iconst 0, 1) := by decide +kernel
theorem dX9_takeMinutes_56 : decode cX9_takeMinutes 56 = .ok (.ireturn, 1) := by decide +kernel
theorem dX9_takeMinutes_57 : decode cX9_takeMinutes 57 = .ok (.aload_n 1, 1) := by decide +kernel
theorem dX9_takeMinutes_58 : decode cX9_takeMinutes 58 = .ok (.iconst 2, 1) := by decide +kernel
theorem dX9_takeMinutes_59 : decode cX9_takeMinutes 59 = .ok (.aload_n 0, 1) := by decide +kernel
theorem dX9_takeMinutes_60 : decode cX9_takeMinutes 60 = .ok (.getfield 54, 3) := by decide +kernel
theorem dX9_takeMinutes_63 : decode cX9_takeMinutes 63 = .ok (.iastore, 1) := by decide +kernel
theorem dX9_takeMinutes_64 : decode cX9_takeMinutes 64 = .ok (.aload_n 0, 1) := by decide +kernel
theorem dX9_takeMinutes_65 : decode cX9_takeMinutes 65 = .ok (.iconst 0, 1) := by decide +kernel
theorem dX9_takeMinutes_66 : decode cX9_takeMinutes 66 = .ok (.bipush 9, 2) := by decide +kernel
theorem dX9_takeMinutes_68 : decode cX9_takeMinutes 68 = .ok (.invokevirtual 92, 3) := by decide +kernel
theorem dX9_takeMinutes_71 : decode cX9_takeMinutes 71 = .ok (.ifCond .ne 5, 3) := by decide +kernel
theorem dX9_takeMinutes_74 : decode cX9_takeMinutes 74 = .ok (.iconst 0, 1) := by decide +kernel
theorem dX9_takeMinutes_75 : decode cX9_takeMinutes 75 = .ok (.ireturn, 1) := by decide +kernel
theorem dX9_takeMinutes_76 : decode cX9_takeMinutes 76 = .ok (.aload_n 1, 1) := by decide +kernel
theorem dX9_takeMinutes_77 : decode cX9_takeMinutes 77 = .ok (.iconst 3, 1) := by decide +kernel
theorem dX9_takeMinutes_78 : decode cX9_takeMinutes 78 = .ok (.aload_n 0, 1) := by decide +kernel
theorem dX9_takeMinutes_79 : decode cX9_takeMinutes 79 = .ok (.getfield 54, 3) := by decide +kernel
theorem dX9_takeMinutes_82 : decode cX9_takeMinutes 82 = .ok (.iastore, 1) := by decide +kernel
theorem dX9_takeMinutes_83 : decode cX9_takeMinutes 83 = .ok (.iconst 1, 1) := by decide +kernel
theorem dX9_takeMinutes_84 : decode cX9_takeMinutes 84 = .ok (.ireturn, 1) := by decide +kernel
theorem dX9_takeMixed_0 : decode cX9_takeMixed 0 = .ok (.aload_n 0, 1) := by decide +kernel
theorem dX9_takeMixed_1 : decode cX9_takeMixed 1 = .ok (.invokevirtual 96, 3) := by decide +kernel
theorem dX9_takeMixed_4 : decode cX9_takeMixed 4 = .ok (.ifCond .ne 5, 3) := by decide +kernel
theorem dX9_takeMixed_7 : decode cX9_takeMixed 7 = .ok (.iconst 0, 1) := by decide +kernel
theorem dX9_takeMixed_8 : decode cX9_takeMixed 8 = .ok (.ireturn, 1) := by decide +kernel
theorem dX9_takeMixed_9 : decode cX9_takeMixed 9 = .ok (.aload_n 0, 1) := by decide +kernel
theorem dX9_takeMixed_10 : decode cX9_takeMixed 10 = .ok (.getfield 54, 3) := by decide +kernel
theorem dX9_takeMixed_13 : decode cX9_takeMixed 13 = .ok (.istore_n 2, 1) := by decide +kernel
theorem dX9_takeMixed_14 : decode cX9_takeMixed 14 = .ok (.aload_n 0, 1) := by decide +kernel
theorem dX9_takeMixed_15 : decode cX9_takeMixed 15 = .ok (.invokevirtual 96, 3) := by decide +kernel
theorem dX9_takeMixed_18 : decode cX9_takeMixed 18 = .ok (.ifCond .ne 5, 3) := by decide +kernel
theorem dX9_takeMixed_21 : decode cX9_takeMixed 21 = .ok (.iconst 0, 1) := by decide +kernel
theorem dX9_takeMixed_22 : decode cX9_takeMixed 22 = .ok (.ireturn, 1) := by decide +kernel
theorem dX9_takeMixed_23 : decode cX9_takeMixed 23 = .ok (.aload_n 0, 1) := by decide +kernel
theorem dX9_takeMixed_24 : decode cX9_takeMixed 24 = .ok (.getfield 54, 3) := by decide +kernel
theorem dX9_takeMixed_27 : decode cX9_takeMixed 27 = .ok (.istore_n 3, 1) := by decide +kernel
theorem dX9_takeMixed_28 : decode cX9_takeMixed 28 = .ok (.iload_n 2, 1) := by decide +kernel
theorem dX9_takeMixed_29 : decode cX9_takeMixed 29 = .ok (.iload_n 3, 1) := by decide +kernel
theorem dX9_takeMixed_30 : decode cX9_takeMixed 30 = .ok (.if_icmp .ne 9, 3) := by decide +kernel
theorem dX9_takeMixed_33 : decode cX9_takeMixed 33 = .ok (.aload_n 0, 1) := by decide +kernel
theorem dX9_takeMixed_34 : decode cX9_takeMixed 34 = .ok (.iconst 3, 1) := by decide +kernel
theorem dX9_takeMixed_35 : decode cX9_takeMixed 35 = .ok (.invokevirtual 57, 3) := by decide +kernel
theorem dX9_takeMixed_38 : decode cX9_takeMixed 38 = .ok (.ireturn, 1) := by decide +kernel
theorem dX9_takeMixed_39 : decode cX9_takeMixed 39 = .ok (.aload_n 1, 1) := by decide +kernel
theorem dX9_takeMixed_40 : decode cX9_takeMixed 40 = .ok (.getfield 100, 3) := by decide +kernel
theorem dX9_takeMixed_43 : decode cX9_takeMixed 43 = .ok (.iload_n 2, 1) := by decide +kernel
theorem dX9_takeMixed_44 : decode cX9_takeMixed 44 = .ok (.bipush 8, 2) := by decide +kernel
theorem dX9_takeMixed_46 : decode cX9_takeMixed 46 = .ok (.imul, 1) := by decide +kernel
theorem dX9_takeMixed_47 : decode cX9_takeMixed 47 = .ok (.iload_n 3, 1) := by decide +kernel
theorem dX9_takeMixed_48 : decode cX9_takeMixed 48 = .ok (.iadd, 1) := by decide +kernel
theorem dX9_takeMixed_49 : decode cX9_takeMixed 49 = .ok (.iaload, 1) := by decide +kernel
theorem dX9_takeMixed_50 : decode cX9_takeMixed 50 = .ok (.bipush (-4), 2) := by decide +kernel
theorem dX9_takeMixed_52 : decode cX9_takeMixed 52 = .ok (.if_icmp .eq 9, 3) := by decide +kernel
theorem dX9_takeMixed_55 : decode cX9_takeMixed 55 = .ok (.aload_n 0, 1) := by decide +kernel
theorem dX9_takeMixed_56 : decode cX9_takeMixed 56 = .ok (.iconst 4, 1) := by decide +kernel
theorem dX9_takeMixed_57 : decode cX9_takeMixed 57 = .ok (.invokevirtual 57, 3) := by decide +kernel
theorem dX9_takeMixed_60 : decode cX9_takeMixed 60 = .ok (.ireturn, 1) := by decide +kernel
theorem dX9_takeMixed_61 : decode cX9_takeMixed 61 = .ok (.aload_n 0, 1) := by decide +kernel
theorem dX9_takeMixed_62 : decode cX9_takeMixed 62 = .ok (.iconst 0, 1) := by decide +kernel
theorem dX9_takeMixed_63 : decode cX9_takeMixed 63 = .ok (.bipush 50, 2) := by decide +kernel
theorem dX9_takeMixed_65 : decode cX9_takeMixed 65 = .ok (.invokevirtual 92, 3) := by decide +kernel
theorem dX9_takeMixed_68 : decode cX9_takeMixed 68 = .ok (.ifCond .ne 5, 3) := by decide +kernel
theorem dX9_takeMixed_71 : decode cX9_takeMixed 71 = .ok (.iconst 0, 1) := by decide +kernel
theorem dX9_takeMixed_72 : decode cX9_takeMixed 72 = .ok (.ireturn, 1) := by decide +kernel
theorem dX9_takeMixed_73 : decode cX9_takeMixed 73 = .ok (.aload_n 1, 1) := by decide +kernel
theorem dX9_takeMixed_74 : decode cX9_takeMixed 74 = .ok (.getfield 100, 3) := by decide +kernel
theorem dX9_takeMixed_77 : decode cX9_takeMixed 77 = .ok (.iload_n 2, 1) := by decide +kernel
theorem dX9_takeMixed_78 : decode cX9_takeMixed 78 = .ok (.bipush 8, 2) := by decide +kernel
theorem dX9_takeMixed_80 : decode cX9_takeMixed 80 = .ok (.imul, 1) := by decide +kernel
theorem dX9_takeMixed_81 : decode cX9_takeMixed 81 = .ok (.iload_n 3, 1) := by decide +kernel
theorem dX9_takeMixed_82 : decode cX9_takeMixed 82 = .ok (.iadd, 1) := by decide +kernel
theorem dX9_takeMixed_83 : decode cX9_takeMixed 83 = .ok (.aload_n 0, 1) := by decide +kernel
theorem dX9_takeMixed_84 : decode cX9_takeMixed 84 = .ok (.getfield 54, 3) := by decide +kernel
theorem dX9_takeMixed_87 : decode cX9_takeMixed 87 = .ok (.iastore, 1) := by decide +kernel
theorem dX9_takeMixed_88 : decode cX9_takeMixed 88 = .ok (.iconst 1, 1) := by decide +kernel
theorem dX9_takeMixed_89 : decode cX9_takeMixed 89 = .ok (.ireturn, 1) := by decide +kernel
theorem dX9_takePoints_0 : decode cX9_takePoints 0 = .ok (.iload_n 2, 1) := by decide +kernel
theorem dX9_takePoints_1 : decode cX9_takePoints 1 = .ok (.bipush 6, 2) := by decide +kernel
theorem dX9_takePoints_3 : decode cX9_takePoints 3 = .ok (.if_icmp .le 8, 3) := by decide +kernel
theorem dX9_takePoints_6 : decode cX9_takePoints 6 = .ok (.bipush 9, 2) := by decide +kernel
theorem dX9_takePoints_8 : decode cX9_takePoints 8 = .ok (.goto 10, 3) := by decide +kernel
theorem dX9_takePoints_11 : decode cX9_takePoints 11 = .ok (.iload_n 2, 1) := by decide +kernel
theorem dX9_takePoints_12 : decode cX9_takePoints 12 = .ok (.bipush 6, 2) := by decide +kernel
theorem dX9_takePoints_14 : decode cX9_takePoints 14 = .ok (.isub, 1) := by decide +kernel
theorem dX9_takePoints_15 : decode cX9_takePoints 15 = .ok (.bipush 8, 2) := by decide +kernel
theorem dX9_takePoints_17 : decode cX9_takePoints 17 = .ok (.iadd, 1) := by decide +kernel
theorem dX9_takePoints_18 : decode cX9_takePoints 18 = .ok (.istore_n 3, 1) := by decide +kernel
theorem dX9_takePoints_19 : decode cX9_takePoints 19 = .ok (.aload_n 0, 1) := by decide +kernel
theorem dX9_takePoints_20 : decode cX9_takePoints 20 = .ok (.iconst 0, 1) := by decide +kernel
theorem dX9_takePoints_21 : decode cX9_takePoints 21 = .ok (.iload_n 3, 1) := by decide +kernel
theorem dX9_takePoints_22 : decode cX9_takePoints 22 = .ok (.bipush 7, 2) := by decide +kernel
theorem dX9_takePoints_24 : decode cX9_takePoints 24 = .ok (.if_icmp .ge 8, 3) := by decide +kernel
theorem dX9_takePoints_27 : decode cX9_takePoints 27 = .ok (.bipush 50, 2) := by decide +kernel
theorem dX9_takePoints_29 : decode cX9_takePoints 29 = .ok (.goto 5, 3) := by decide +kernel
theorem dX9_takePoints_32 : decode cX9_takePoints 32 = .ok (.bipush 99, 2) := by decide +kernel
theorem dX9_takePoints_34 : decode cX9_takePoints 34 = .ok (.invokevirtual 92, 3) := by decide +kernel
theorem dX9_takePoints_37 : decode cX9_takePoints 37 = .ok (.ifCond .ne 5, 3) := by decide +kernel
theorem dX9_takePoints_40 : decode cX9_takePoints 40 = .ok (.iconst 0, 1) := by decide +kernel
theorem dX9_takePoints_41 : decode cX9_takePoints 41 = .ok (.ireturn, 1) := by decide +kernel
theorem dX9_takePoints_42 : decode cX9_takePoints 42 = .ok (.aload_n 1, 1) := by decide +kernel
theorem dX9_takePoints_43 : decode cX9_takePoints 43 = .ok (.iload_n 3, 1) := by decide +kernel
theorem dX9_takePoints_44 : decode cX9_takePoints 44 = .ok (.iload_n 2, 1) := by decide +kernel
theorem dX9_takePoints_45 : decode cX9_takePoints 45 = .ok (.bipush 8, 2) := by decide +kernel
theorem dX9_takePoints_47 : decode cX9_takePoints 47 = .ok (.if_icmp .ne 11, 3) := by decide +kernel
theorem dX9_takePoints_50 : decode cX9_takePoints 50 = .ok (.aload_n 0, 1) := by decide +kernel
theorem dX9_takePoints_51 : decode cX9_takePoints 51 = .ok (.getfield 54, 3) := by decide +kernel
theorem dX9_takePoints_54 : decode cX9_takePoints 54 = .ok (.ineg, 1) := by decide +kernel
theorem dX9_takePoints_55 : decode cX9_takePoints 55 = .ok (.goto 7, 3) := by decide +kernel
theorem dX9_takePoints_58 : decode cX9_takePoints 58 = .ok (.aload_n 0, 1) := by decide +kernel
theorem dX9_takePoints_59 : decode cX9_takePoints 59 = .ok (.getfield 54, 3) := by decide +kernel
theorem dX9_takePoints_62 : decode cX9_takePoints 62 = .ok (.iastore, 1) := by decide +kernel
theorem dX9_takePoints_63 : decode cX9_takePoints 63 = .ok (.iconst 1, 1) := by decide +kernel
theorem dX9_takePoints_64 : decode cX9_takePoints 64 = .ok (.ireturn, 1) := by decide +kernel
theorem dX9_itemNamed_0 : decode cX9_itemNamed 0 = .ok (.iconst 0, 1) := by decide +kernel
theorem dX9_itemNamed_1 : decode cX9_itemNamed 1 = .ok (.istore_n 1, 1) := by decide +kernel
theorem dX9_itemNamed_2 : decode cX9_itemNamed 2 = .ok (.iload_n 1, 1) := by decide +kernel
theorem dX9_itemNamed_3 : decode cX9_itemNamed 3 = .ok (.bipush 9, 2) := by decide +kernel
theorem dX9_itemNamed_5 : decode cX9_itemNamed 5 = .ok (.if_icmp .ge 22, 3) := by decide +kernel
theorem dX9_itemNamed_8 : decode cX9_itemNamed 8 = .ok (.aload_n 0, 1) := by decide +kernel
theorem dX9_itemNamed_9 : decode cX9_itemNamed 9 = .ok (.iload_n 1, 1) := by decide +kernel
theorem dX9_itemNamed_10 : decode cX9_itemNamed 10 = .ok (.invokestatic 103, 3) := by decide +kernel
theorem dX9_itemNamed_13 : decode cX9_itemNamed 13 = .ok (.invokevirtual 107, 3) := by decide +kernel
theorem dX9_itemNamed_16 : decode cX9_itemNamed 16 = .ok (.ifCond .eq 5, 3) := by decide +kernel
theorem dX9_itemNamed_19 : decode cX9_itemNamed 19 = .ok (.iload_n 1, 1) := by decide +kernel
theorem dX9_itemNamed_20 : decode cX9_itemNamed 20 = .ok (.ireturn, 1) := by decide +kernel
theorem dX9_itemNamed_21 : decode cX9_itemNamed 21 = .ok (.iinc 1 1, 3) := by decide +kernel
theorem dX9_itemNamed_24 : decode cX9_itemNamed 24 = .ok (.goto (-22), 3) := by decide +kernel
theorem dX9_itemNamed_27 : decode cX9_itemNamed 27 = .ok (.bipush (-4), 2) := by decide +kernel
theorem dX9_itemNamed_29 : decode cX9_itemNamed 29 = .ok (.ireturn, 1) := by decide +kernel
theorem dX9_isNamed_0 : decode cX9_isNamed 0 = .ok (.aload_n 1, 1) := by decide +kernel
theorem dX9_isNamed_1 : decode cX9_isNamed 1 = .ok (.invokevirtual 111, 3) := by decide +kernel
theorem dX9_isNamed_4 : decode cX9_isNamed 4 = .ok (.aload_n 0, 1) := by decide +kernel
theorem dX9_isNamed_5 : decode cX9_isNamed 5 = .ok (.getfield 24, 3) := by decide +kernel
theorem dX9_isNamed_8 : decode cX9_isNamed 8 = .ok (.aload_n 0, 1) := by decide +kernel
theorem dX9_isNamed_9 : decode cX9_isNamed 9 = .ok (.getfield 47, 3) := by decide +kernel
theorem dX9_isNamed_12 : decode cX9_isNamed 12 = .ok (.isub, 1) := by decide +kernel
theorem dX9_isNamed_13 : decode cX9_isNamed 13 = .ok (.if_icmp .eq 5, 3) := by decide +kernel
theorem dX9_isNamed_16 : decode cX9_isNamed 16 = .ok (.iconst 0, 1) := by decide +kernel
theorem dX9_isNamed_17 : decode cX9_isNamed 17 = .ok (.ireturn, 1) := by decide +kernel
theorem dX9_isNamed_18 : decode cX9_isNamed 18 = .ok (.iconst 0, 1) := by decide +kernel
theorem dX9_isNamed_19 : decode cX9_isNamed 19 = .ok (.istore_n 2, 1) := by decide +kernel
theorem dX9_isNamed_20 : decode cX9_isNamed 20 = .ok (.iload_n 2, 1) := by decide +kernel
theorem dX9_isNamed_21 : decode cX9_isNamed 21 = .ok (.aload_n 1, 1) := by decide +kernel
theorem dX9_isNamed_22 : decode cX9_isNamed 22 = .ok (.invokevirtual 111, 3) := by decide +kernel
theorem dX9_isNamed_25 : decode cX9_isNamed 25 = .ok (.if_icmp .ge 30, 3) := by decide +kernel
theorem dX9_isNamed_28 : decode cX9_isNamed 28 = .ok (.aload_n 1, 1) := by decide +kernel
theorem dX9_isNamed_29 : decode cX9_isNamed 29 = .ok (.iload_n 2, 1) := by decide +kernel
theorem dX9_isNamed_30 : decode cX9_isNamed 30 = .ok (.invokevirtual 115, 3) := by decide +kernel
theorem dX9_isNamed_33 : decode cX9_isNamed 33 = .ok (.aload_n 0, 1) := by decide +kernel
theorem dX9_isNamed_34 : decode cX9_isNamed 34 = .ok (.getfield 11, 3) := by decide +kernel
theorem dX9_isNamed_37 : decode cX9_isNamed 37 = .ok (.aload_n 0, 1) := by decide +kernel
theorem dX9_isNamed_38 : decode cX9_isNamed 38 = .ok (.getfield 47, 3) := by decide +kernel
theorem dX9_isNamed_41 : decode cX9_isNamed 41 = .ok (.iload_n 2, 1) := by decide +kernel
theorem dX9_isNamed_42 : decode cX9_isNamed 42 = .ok (.iadd, 1) := by decide +kernel
theorem dX9_isNamed_43 : decode cX9_isNamed 43 = .ok (.baload, 1) := by decide +kernel
theorem dX9_isNamed_44 : decode cX9_isNamed 44 = .ok (.if_icmp .eq 5, 3) := by decide +kernel
theorem dX9_isNamed_47 : decode cX9_isNamed 47 = .ok (.iconst 0, 1) := by decide +kernel
theorem dX9_isNamed_48 : decode cX9_isNamed 48 = .ok (.ireturn, 1) := by decide +kernel
theorem dX9_isNamed_49 : decode cX9_isNamed 49 = .ok (.iinc 2 1, 3) := by decide +kernel
theorem dX9_isNamed_52 : decode cX9_isNamed 52 = .ok (.goto (-32), 3) := by decide +kernel
theorem dX9_isNamed_55 : decode cX9_isNamed 55 = .ok (.iconst 1, 1) := by decide +kernel
theorem dX9_isNamed_56 : decode cX9_isNamed 56 = .ok (.ireturn, 1) := by decide +kernel
theorem dX9_nameOf_0 : decode cX9_nameOf 0 = .ok (.iload_n 0, 1) := by decide +kernel
theorem dX9_nameOf_1 : decode cX9_nameOf 1 = .ok (.tableswitch 71 0 7 #[47, 50, 53, 56, 59, 62, 65, 68], 47) := by decide +kernel
theorem dX9_nameOf_48 : decode cX9_nameOf 48 = .ok (.ldc 119, 2) := by decide +kernel
theorem dX9_nameOf_50 : decode cX9_nameOf 50 = .ok (.areturn, 1) := by decide +kernel
theorem dX9_nameOf_51 : decode cX9_nameOf 51 = .ok (.ldc 121, 2) := by decide +kernel
theorem dX9_nameOf_53 : decode cX9_nameOf 53 = .ok (.areturn, 1) := by decide +kernel
theorem dX9_nameOf_54 : decode cX9_nameOf 54 = .ok (.ldc 123, 2) := by decide +kernel
theorem dX9_nameOf_56 : decode cX9_nameOf 56 = .ok (.areturn, 1) := by decide +kernel
theorem dX9_nameOf_57 : decode cX9_nameOf 57 = .ok (.ldc 125, 2) := by decide +kernel
theorem dX9_nameOf_59 : decode cX9_nameOf 59 = .ok (.areturn, 1) := by decide +kernel
theorem dX9_nameOf_60 : decode cX9_nameOf 60 = .ok (.ldc 127, 2) := by decide +kernel
theorem dX9_nameOf_62 : decode cX9_nameOf 62 = .ok (.areturn, 1) := by decide +kernel
theorem dX9_nameOf_63 : decode cX9_nameOf 63 = .ok (.ldc 129, 2) := by decide +kernel
theorem dX9_nameOf_65 : decode cX9_nameOf 65 = .ok (.areturn, 1) := by decide +kernel
theorem dX9_nameOf_66 : decode cX9_nameOf 66 = .ok (.ldc 131, 2) := by decide +kernel
theorem dX9_nameOf_68 : decode cX9_nameOf 68 = .ok (.areturn, 1) := by decide +kernel
theorem dX9_nameOf_69 : decode cX9_nameOf 69 = .ok (.ldc 133, 2) := by decide +kernel
theorem dX9_nameOf_71 : decode cX9_nameOf 71 = .ok (.areturn, 1) := by decide +kernel
theorem dX9_nameOf_72 : decode cX9_nameOf 72 = .ok (.ldc 135, 2) := by decide +kernel
theorem dX9_nameOf_74 : decode cX9_nameOf 74 = .ok (.areturn, 1) := by decide +kernel
theorem dJ6_bitCount_0f7a4_0 : decode cJ6_bitCount_0f7a4 0 = .ok (.iload_n 0, 1) := by decide +kernel
theorem dJ6_bitCount_0f7a4_1 : decode cJ6_bitCount_0f7a4 1 = .ok (.iload_n 0, 1) := by decide +kernel
theorem dJ6_bitCount_0f7a4_2 : decode cJ6_bitCount_0f7a4 2 = .ok (.iconst 1, 1) := by decide +kernel
theorem dJ6_bitCount_0f7a4_3 : decode cJ6_bitCount_0f7a4 3 = .ok (.iushr, 1) := by decide +kernel
theorem dJ6_bitCount_0f7a4_4 : decode cJ6_bitCount_0f7a4 4 = .ok (.ldc_w 265, 3) := by decide +kernel
theorem dJ6_bitCount_0f7a4_7 : decode cJ6_bitCount_0f7a4 7 = .ok (.iand, 1) := by decide +kernel
theorem dJ6_bitCount_0f7a4_8 : decode cJ6_bitCount_0f7a4 8 = .ok (.isub, 1) := by decide +kernel
theorem dJ6_bitCount_0f7a4_9 : decode cJ6_bitCount_0f7a4 9 = .ok (.istore_n 0, 1) := by decide +kernel
theorem dJ6_bitCount_0f7a4_10 : decode cJ6_bitCount_0f7a4 10 = .ok (.iload_n 0, 1) := by decide +kernel
theorem dJ6_bitCount_0f7a4_11 : decode cJ6_bitCount_0f7a4 11 = .ok (.ldc_w 266, 3) := by decide +kernel
theorem dJ6_bitCount_0f7a4_14 : decode cJ6_bitCount_0f7a4 14 = .ok (.iand, 1) := by decide +kernel
theorem dJ6_bitCount_0f7a4_15 : decode cJ6_bitCount_0f7a4 15 = .ok (.iload_n 0, 1) := by decide +kernel
theorem dJ6_bitCount_0f7a4_16 : decode cJ6_bitCount_0f7a4 16 = .ok (.iconst 2, 1) := by decide +kernel
theorem dJ6_bitCount_0f7a4_17 : decode cJ6_bitCount_0f7a4 17 = .ok (.iushr, 1) := by decide +kernel
theorem dJ6_bitCount_0f7a4_18 : decode cJ6_bitCount_0f7a4 18 = .ok (.ldc_w 266, 3) := by decide +kernel
theorem dJ6_bitCount_0f7a4_21 : decode cJ6_bitCount_0f7a4 21 = .ok (.iand, 1) := by decide +kernel
theorem dJ6_bitCount_0f7a4_22 : decode cJ6_bitCount_0f7a4 22 = .ok (.iadd, 1) := by decide +kernel
theorem dJ6_bitCount_0f7a4_23 : decode cJ6_bitCount_0f7a4 23 = .ok (.istore_n 0, 1) := by decide +kernel
theorem dJ6_bitCount_0f7a4_24 : decode cJ6_bitCount_0f7a4 24 = .ok (.iload_n 0, 1) := by decide +kernel
theorem dJ6_bitCount_0f7a4_25 : decode cJ6_bitCount_0f7a4 25 = .ok (.iload_n 0, 1) := by decide +kernel
theorem dJ6_bitCount_0f7a4_26 : decode cJ6_bitCount_0f7a4 26 = .ok (.iconst 4, 1) := by decide +kernel
theorem dJ6_bitCount_0f7a4_27 : decode cJ6_bitCount_0f7a4 27 = .ok (.iushr, 1) := by decide +kernel
theorem dJ6_bitCount_0f7a4_28 : decode cJ6_bitCount_0f7a4 28 = .ok (.iadd, 1) := by decide +kernel
theorem dJ6_bitCount_0f7a4_29 : decode cJ6_bitCount_0f7a4 29 = .ok (.ldc_w 267, 3) := by decide +kernel
theorem dJ6_bitCount_0f7a4_32 : decode cJ6_bitCount_0f7a4 32 = .ok (.iand, 1) := by decide +kernel
theorem dJ6_bitCount_0f7a4_33 : decode cJ6_bitCount_0f7a4 33 = .ok (.istore_n 0, 1) := by decide +kernel
theorem dJ6_bitCount_0f7a4_34 : decode cJ6_bitCount_0f7a4 34 = .ok (.iload_n 0, 1) := by decide +kernel
theorem dJ6_bitCount_0f7a4_35 : decode cJ6_bitCount_0f7a4 35 = .ok (.iload_n 0, 1) := by decide +kernel
theorem dJ6_bitCount_0f7a4_36 : decode cJ6_bitCount_0f7a4 36 = .ok (.bipush 8, 2) := by decide +kernel
theorem dJ6_bitCount_0f7a4_38 : decode cJ6_bitCount_0f7a4 38 = .ok (.iushr, 1) := by decide +kernel
theorem dJ6_bitCount_0f7a4_39 : decode cJ6_bitCount_0f7a4 39 = .ok (.iadd, 1) := by decide +kernel
theorem dJ6_bitCount_0f7a4_40 : decode cJ6_bitCount_0f7a4 40 = .ok (.istore_n 0, 1) := by decide +kernel
theorem dJ6_bitCount_0f7a4_41 : decode cJ6_bitCount_0f7a4 41 = .ok (.iload_n 0, 1) := by decide +kernel
theorem dJ6_bitCount_0f7a4_42 : decode cJ6_bitCount_0f7a4 42 = .ok (.iload_n 0, 1) := by decide +kernel
theorem dJ6_bitCount_0f7a4_43 : decode cJ6_bitCount_0f7a4 43 = .ok (.bipush 16, 2) := by decide +kernel
theorem dJ6_bitCount_0f7a4_45 : decode cJ6_bitCount_0f7a4 45 = .ok (.iushr, 1) := by decide +kernel
theorem dJ6_bitCount_0f7a4_46 : decode cJ6_bitCount_0f7a4 46 = .ok (.iadd, 1) := by decide +kernel
theorem dJ6_bitCount_0f7a4_47 : decode cJ6_bitCount_0f7a4 47 = .ok (.istore_n 0, 1) := by decide +kernel
theorem dJ6_bitCount_0f7a4_48 : decode cJ6_bitCount_0f7a4 48 = .ok (.iload_n 0, 1) := by decide +kernel
theorem dJ6_bitCount_0f7a4_49 : decode cJ6_bitCount_0f7a4 49 = .ok (.bipush 63, 2) := by decide +kernel
theorem dJ6_bitCount_0f7a4_51 : decode cJ6_bitCount_0f7a4 51 = .ok (.iand, 1) := by decide +kernel
theorem dJ6_bitCount_0f7a4_52 : decode cJ6_bitCount_0f7a4 52 = .ok (.ireturn, 1) := by decide +kernel
theorem dJ9_abs_0f7a4_0 : decode cJ9_abs_0f7a4 0 = .ok (.iload_n 0, 1) := by decide +kernel
theorem dJ9_abs_0f7a4_1 : decode cJ9_abs_0f7a4 1 = .ok (.ifCond .ge 8, 3) := by decide +kernel
theorem dJ9_abs_0f7a4_4 : decode cJ9_abs_0f7a4 4 = .ok (.iload_n 0, 1) := by decide +kernel
theorem dJ9_abs_0f7a4_5 : decode cJ9_abs_0f7a4 5 = .ok (.ineg, 1) := by decide +kernel
theorem dJ9_abs_0f7a4_6 : decode cJ9_abs_0f7a4 6 = .ok (.goto 4, 3) := by decide +kernel
theorem dJ9_abs_0f7a4_9 : decode cJ9_abs_0f7a4 9 = .ok (.iload_n 0, 1) := by decide +kernel
theorem dJ9_abs_0f7a4_10 : decode cJ9_abs_0f7a4 10 = .ok (.ireturn, 1) := by decide +kernel
theorem dJ9_max_7cf53_0 : decode cJ9_max_7cf53 0 = .ok (.iload_n 0, 1) := by decide +kernel
theorem dJ9_max_7cf53_1 : decode cJ9_max_7cf53 1 = .ok (.iload_n 1, 1) := by decide +kernel
theorem dJ9_max_7cf53_2 : decode cJ9_max_7cf53 2 = .ok (.if_icmp .lt 7, 3) := by decide +kernel
theorem dJ9_max_7cf53_5 : decode cJ9_max_7cf53 5 = .ok (.iload_n 0, 1) := by decide +kernel
theorem dJ9_max_7cf53_6 : decode cJ9_max_7cf53 6 = .ok (.goto 4, 3) := by decide +kernel
theorem dJ9_max_7cf53_9 : decode cJ9_max_7cf53 9 = .ok (.iload_n 1, 1) := by decide +kernel
theorem dJ9_max_7cf53_10 : decode cJ9_max_7cf53 10 = .ok (.ireturn, 1) := by decide +kernel
theorem dJ9_min_7cf53_0 : decode cJ9_min_7cf53 0 = .ok (.iload_n 0, 1) := by decide +kernel
theorem dJ9_min_7cf53_1 : decode cJ9_min_7cf53 1 = .ok (.iload_n 1, 1) := by decide +kernel
theorem dJ9_min_7cf53_2 : decode cJ9_min_7cf53 2 = .ok (.if_icmp .gt 7, 3) := by decide +kernel
theorem dJ9_min_7cf53_5 : decode cJ9_min_7cf53 5 = .ok (.iload_n 0, 1) := by decide +kernel
theorem dJ9_min_7cf53_6 : decode cJ9_min_7cf53 6 = .ok (.goto 4, 3) := by decide +kernel
theorem dJ9_min_7cf53_9 : decode cJ9_min_7cf53 9 = .ok (.iload_n 1, 1) := by decide +kernel
theorem dJ9_min_7cf53_10 : decode cJ9_min_7cf53 10 = .ok (.ireturn, 1) := by decide +kernel
theorem dJ9_min_f86c9_0 : decode cJ9_min_f86c9 0 = .ok (.lload_n 0, 1) := by decide +kernel
theorem dJ9_min_f86c9_1 : decode cJ9_min_f86c9 1 = .ok (.lload_n 2, 1) := by decide +kernel
theorem dJ9_min_f86c9_2 : decode cJ9_min_f86c9 2 = .ok (.lcmp, 1) := by decide +kernel
theorem dJ9_min_f86c9_3 : decode cJ9_min_f86c9 3 = .ok (.ifCond .gt 7, 3) := by decide +kernel
theorem dJ9_min_f86c9_6 : decode cJ9_min_f86c9 6 = .ok (.lload_n 0, 1) := by decide +kernel
theorem dJ9_min_f86c9_7 : decode cJ9_min_f86c9 7 = .ok (.goto 4, 3) := by decide +kernel
theorem dJ9_min_f86c9_10 : decode cJ9_min_f86c9 10 = .ok (.lload_n 2, 1) := by decide +kernel
theorem dJ9_min_f86c9_11 : decode cJ9_min_f86c9 11 = .ok (.lreturn, 1) := by decide +kernel
theorem dJ0_length_8abf5_0 : decode cJ0_length_8abf5 0 = .ok (.aload_n 0, 1) := by decide +kernel
theorem dJ0_length_8abf5_1 : decode cJ0_length_8abf5 1 = .ok (.getfield 9, 3) := by decide +kernel
theorem dJ0_length_8abf5_4 : decode cJ0_length_8abf5 4 = .ok (.arraylength, 1) := by decide +kernel
theorem dJ0_length_8abf5_5 : decode cJ0_length_8abf5 5 = .ok (.aload_n 0, 1) := by decide +kernel
theorem dJ0_length_8abf5_6 : decode cJ0_length_8abf5 6 = .ok (.invokevirtual 335, 3) := by decide +kernel
theorem dJ0_length_8abf5_9 : decode cJ0_length_8abf5 9 = .ok (.ishr, 1) := by decide +kernel
theorem dJ0_length_8abf5_10 : decode cJ0_length_8abf5 10 = .ok (.ireturn, 1) := by decide +kernel
theorem dJ0_charAt_5068e_0 : decode cJ0_charAt_5068e 0 = .ok (.aload_n 0, 1) := by decide +kernel
theorem dJ0_charAt_5068e_1 : decode cJ0_charAt_5068e 1 = .ok (.invokevirtual 492, 3) := by decide +kernel
theorem dJ0_charAt_5068e_4 : decode cJ0_charAt_5068e 4 = .ok (.ifCond .eq 12, 3) := by decide +kernel
theorem dJ0_charAt_5068e_7 : decode cJ0_charAt_5068e 7 = .ok (.aload_n 0, 1) := by decide +kernel
theorem dJ0_charAt_5068e_8 : decode cJ0_charAt_5068e 8 = .ok (.getfield 9, 3) := by decide +kernel
theorem dJ0_charAt_5068e_11 : decode cJ0_charAt_5068e 11 = .ok (.iload_n 1, 1) := by decide +kernel
theorem dJ0_charAt_5068e_12 : decode cJ0_charAt_5068e 12 = .ok (.invokestatic 495, 3) := by decide +kernel
theorem dJ0_charAt_5068e_15 : decode cJ0_charAt_5068e 15 = .ok (.ireturn, 1) := by decide +kernel
theorem dJ0_charAt_5068e_16 : decode cJ0_charAt_5068e 16 = .ok (.aload_n 0, 1) := by decide +kernel
theorem dJ0_charAt_5068e_17 : decode cJ0_charAt_5068e 17 = .ok (.getfield 9, 3) := by decide +kernel
theorem dJ0_charAt_5068e_20 : decode cJ0_charAt_5068e 20 = .ok (.iload_n 1, 1) := by decide +kernel
theorem dJ0_charAt_5068e_21 : decode cJ0_charAt_5068e 21 = .ok (.invokestatic 498, 3) := by decide +kernel
theorem dJ0_charAt_5068e_24 : decode cJ0_charAt_5068e 24 = .ok (.ireturn, 1) := by decide +kernel
theorem dJ0_coder_7d493_0 : decode cJ0_coder_7d493 0 = .ok (.getstatic 38, 3) := by decide +kernel
theorem dJ0_coder_7d493_3 : decode cJ0_coder_7d493 3 = .ok (.ifCond .eq 10, 3) := by decide +kernel
theorem dJ0_coder_7d493_6 : decode cJ0_coder_7d493 6 = .ok (.aload_n 0, 1) := by decide +kernel
theorem dJ0_coder_7d493_7 : decode cJ0_coder_7d493 7 = .ok (.getfield 15, 3) := by decide +kernel
theorem dJ0_coder_7d493_10 : decode cJ0_coder_7d493 10 = .ok (.goto 4, 3) := by decide +kernel
theorem dJ0_coder_7d493_13 : decode cJ0_coder_7d493 13 = .ok (.iconst 1, 1) := by decide +kernel
theorem dJ0_coder_7d493_14 : decode cJ0_coder_7d493 14 = .ok (.ireturn, 1) := by decide +kernel
theorem dJ0_isLatin1_aae02_0 : decode cJ0_isLatin1_aae02 0 = .ok (.getstatic 38, 3) := by decide +kernel
theorem dJ0_isLatin1_aae02_3 : decode cJ0_isLatin1_aae02 3 = .ok (.ifCond .eq 14, 3) := by decide +kernel
theorem dJ0_isLatin1_aae02_6 : decode cJ0_isLatin1_aae02 6 = .ok (.aload_n 0, 1) := by decide +kernel
theorem dJ0_isLatin1_aae02_7 : decode cJ0_isLatin1_aae02 7 = .ok (.getfield 15, 3) := by decide +kernel
theorem dJ0_isLatin1_aae02_10 : decode cJ0_isLatin1_aae02 10 = .ok (.ifCond .ne 7, 3) := by decide +kernel
theorem dJ0_isLatin1_aae02_13 : decode cJ0_isLatin1_aae02 13 = .ok (.iconst 1, 1) := by decide +kernel
theorem dJ0_isLatin1_aae02_14 : decode cJ0_isLatin1_aae02 14 = .ok (.goto 4, 3) := by decide +kernel
theorem dJ0_isLatin1_aae02_17 : decode cJ0_isLatin1_aae02 17 = .ok (.iconst 0, 1) := by decide +kernel
theorem dJ0_isLatin1_aae02_18 : decode cJ0_isLatin1_aae02 18 = .ok (.ireturn, 1) := by decide +kernel
theorem dJ0_checkIndex_df160_0 : decode cJ0_checkIndex_df160 0 = .ok (.iload_n 0, 1) := by decide +kernel
theorem dJ0_checkIndex_df160_1 : decode cJ0_checkIndex_df160 1 = .ok (.iload_n 1, 1) := by decide +kernel
theorem dJ0_checkIndex_df160_2 : decode cJ0_checkIndex_df160 2 = .ok (.getstatic 1053, 3) := by decide +kernel
theorem dJ0_checkIndex_df160_5 : decode cJ0_checkIndex_df160 5 = .ok (.invokestatic 1059, 3) := by decide +kernel
theorem dJ0_checkIndex_df160_8 : decode cJ0_checkIndex_df160 8 = .ok (.pop, 1) := by decide +kernel
theorem dJ0_checkIndex_df160_9 : decode cJ0_checkIndex_df160 9 = .ok (.return_, 1) := by decide +kernel
theorem dJ1_charAt_3b067_0 : decode cJ1_charAt_3b067 0 = .ok (.iload_n 1, 1) := by decide +kernel
theorem dJ1_charAt_3b067_1 : decode cJ1_charAt_3b067 1 = .ok (.aload_n 0, 1) := by decide +kernel
theorem dJ1_charAt_3b067_2 : decode cJ1_charAt_3b067 2 = .ok (.arraylength, 1) := by decide +kernel
theorem dJ1_charAt_3b067_3 : decode cJ1_charAt_3b067 3 = .ok (.invokestatic 9, 3) := by decide +kernel
theorem dJ1_charAt_3b067_6 : decode cJ1_charAt_3b067 6 = .ok (.aload_n 0, 1) := by decide +kernel
theorem dJ1_charAt_3b067_7 : decode cJ1_charAt_3b067 7 = .ok (.iload_n 1, 1) := by decide +kernel
theorem dJ1_charAt_3b067_8 : decode cJ1_charAt_3b067 8 = .ok (.baload, 1) := by decide +kernel
theorem dJ1_charAt_3b067_9 : decode cJ1_charAt_3b067 9 = .ok (.sipush 255, 3) := by decide +kernel
theorem dJ1_charAt_3b067_12 : decode cJ1_charAt_3b067 12 = .ok (.iand, 1) := by decide +kernel
theorem dJ1_charAt_3b067_13 : decode cJ1_charAt_3b067 13 = .ok (.i2c, 1) := by decide +kernel
theorem dJ1_charAt_3b067_14 : decode cJ1_charAt_3b067 14 = .ok (.ireturn, 1) := by decide +kernel
theorem dJ2_getChar_3b067_0 : decode cJ2_getChar_3b067 0 = .ok (.getstatic 44, 3) := by decide +kernel
theorem dJ2_getChar_3b067_3 : decode cJ2_getChar_3b067 3 = .ok (.ifCond .ne 25, 3) := by decide +kernel
theorem dJ2_getChar_3b067_6 : decode cJ2_getChar_3b067 6 = .ok (.iload_n 1, 1) := by decide +kernel
theorem dJ2_getChar_3b067_7 : decode cJ2_getChar_3b067 7 = .ok (.ifCond .lt 11, 3) := by decide +kernel
theorem dJ2_getChar_3b067_10 : decode cJ2_getChar_3b067 10 = .ok (.iload_n 1, 1) := by decide +kernel
theorem dJ2_getChar_3b067_11 : decode cJ2_getChar_3b067 11 = .ok (.aload_n 0, 1) := by decide +kernel
theorem dJ2_getChar_3b067_12 : decode cJ2_getChar_3b067 12 = .ok (.invokestatic 48, 3) := by decide +kernel
theorem dJ2_getChar_3b067_15 : decode cJ2_getChar_3b067 15 = .ok (.if_icmp .lt 13, 3) := by decide +kernel
theorem dJ2_getChar_3b067_18 : decode cJ2_getChar_3b067 18 = .ok (.new 52, 3) := by decide +kernel
theorem dJ2_getChar_3b067_21 : decode cJ2_getChar_3b067 21 = .ok (.dup, 1) := by decide +kernel
theorem dJ2_getChar_3b067_22 : decode cJ2_getChar_3b067 22 = .ok (.ldc 54, 2) := by decide +kernel
theorem dJ2_getChar_3b067_24 : decode cJ2_getChar_3b067 24 = .ok (.invokespecial 56, 3) := by decide +kernel
theorem dJ2_getChar_3b067_27 : decode cJ2_getChar_3b067 27 = .ok (.athrow, 1) := by decide +kernel
theorem dJ2_getChar_3b067_28 : decode cJ2_getChar_3b067 28 = .ok (.iload_n 1, 1) := by decide +kernel
theorem dJ2_getChar_3b067_29 : decode cJ2_getChar_3b067 29 = .ok (.iconst 1, 1) := by decide +kernel
theorem dJ2_getChar_3b067_30 : decode cJ2_getChar_3b067 30 = .ok (.ishl, 1) := by decide +kernel
theorem dJ2_getChar_3b067_31 : decode cJ2_getChar_3b067 31 = .ok (.istore_n 1, 1) := by decide +kernel
theorem dJ2_getChar_3b067_32 : decode cJ2_getChar_3b067 32 = .ok (.aload_n 0, 1) := by decide +kernel
theorem dJ2_getChar_3b067_33 : decode cJ2_getChar_3b067 33 = .ok (.iload_n 1, 1) := by decide +kernel
theorem dJ2_getChar_3b067_34 : decode cJ2_getChar_3b067 34 = .ok (.iinc 1 1, 3) := by decide +kernel
theorem dJ2_getChar_3b067_37 : decode cJ2_getChar_3b067 37 = .ok (.baload, 1) := by decide +kernel
theorem dJ2_getChar_3b067_38 : decode cJ2_getChar_3b067 38 = .ok (.sipush 255, 3) := by decide +kernel
theorem dJ2_getChar_3b067_41 : decode cJ2_getChar_3b067 41 = .ok (.iand, 1) := by decide +kernel
theorem dJ2_getChar_3b067_42 : decode cJ2_getChar_3b067 42 = .ok (.getstatic 59, 3) := by decide +kernel
theorem dJ2_getChar_3b067_45 : decode cJ2_getChar_3b067 45 = .ok (.ishl, 1) := by decide +kernel
theorem dJ2_getChar_3b067_46 : decode cJ2_getChar_3b067 46 = .ok (.aload_n 0, 1) := by decide +kernel
theorem dJ2_getChar_3b067_47 : decode cJ2_getChar_3b067 47 = .ok (.iload_n 1, 1) := by decide +kernel
theorem dJ2_getChar_3b067_48 : decode cJ2_getChar_3b067 48 = .ok (.baload, 1) := by decide +kernel
theorem dJ2_getChar_3b067_49 : decode cJ2_getChar_3b067 49 = .ok (.sipush 255, 3) := by decide +kernel
theorem dJ2_getChar_3b067_52 : decode cJ2_getChar_3b067 52 = .ok (.iand, 1) := by decide +kernel
theorem dJ2_getChar_3b067_53 : decode cJ2_getChar_3b067 53 = .ok (.getstatic 63, 3) := by decide +kernel
theorem dJ2_getChar_3b067_56 : decode cJ2_getChar_3b067 56 = .ok (.ishl, 1) := by decide +kernel
theorem dJ2_getChar_3b067_57 : decode cJ2_getChar_3b067 57 = .ok (.ior, 1) := by decide +kernel
theorem dJ2_getChar_3b067_58 : decode cJ2_getChar_3b067 58 = .ok (.i2c, 1) := by decide +kernel
theorem dJ2_getChar_3b067_59 : decode cJ2_getChar_3b067 59 = .ok (.ireturn, 1) := by decide +kernel
theorem dJ2_length_9d52b_0 : decode cJ2_length_9d52b 0 = .ok (.aload_n 0, 1) := by decide +kernel
theorem dJ2_length_9d52b_1 : decode cJ2_length_9d52b 1 = .ok (.arraylength, 1) := by decide +kernel
theorem dJ2_length_9d52b_2 : decode cJ2_length_9d52b 2 = .ok (.iconst 1, 1) := by decide +kernel
theorem dJ2_length_9d52b_3 : decode cJ2_length_9d52b 3 = .ok (.ishr, 1) := by decide +kernel
theorem dJ2_length_9d52b_4 : decode cJ2_length_9d52b 4 = .ok (.ireturn, 1) := by decide +kernel
theorem dJ2_charAt_3b067_0 : decode cJ2_charAt_3b067 0 = .ok (.iload_n 1, 1) := by decide +kernel
theorem dJ2_charAt_3b067_1 : decode cJ2_charAt_3b067 1 = .ok (.aload_n 0, 1) := by decide +kernel
theorem dJ2_charAt_3b067_2 : decode cJ2_charAt_3b067 2 = .ok (.invokestatic 67, 3) := by decide +kernel
theorem dJ2_charAt_3b067_5 : decode cJ2_charAt_3b067 5 = .ok (.aload_n 0, 1) := by decide +kernel
theorem dJ2_charAt_3b067_6 : decode cJ2_charAt_3b067 6 = .ok (.iload_n 1, 1) := by decide +kernel
theorem dJ2_charAt_3b067_7 : decode cJ2_charAt_3b067 7 = .ok (.invokestatic 71, 3) := by decide +kernel
theorem dJ2_charAt_3b067_10 : decode cJ2_charAt_3b067 10 = .ok (.ireturn, 1) := by decide +kernel
theorem dJ2_checkIndex_2214a_0 : decode cJ2_checkIndex_2214a 0 = .ok (.iload_n 0, 1) := by decide +kernel
theorem dJ2_checkIndex_2214a_1 : decode cJ2_checkIndex_2214a 1 = .ok (.aload_n 1, 1) := by decide +kernel
theorem dJ2_checkIndex_2214a_2 : decode cJ2_checkIndex_2214a 2 = .ok (.invokestatic 48, 3) := by decide +kernel
theorem dJ2_checkIndex_2214a_5 : decode cJ2_checkIndex_2214a 5 = .ok (.invokestatic 414, 3) := by decide +kernel
theorem dJ2_checkIndex_2214a_8 : decode cJ2_checkIndex_2214a 8 = .ok (.return_, 1) := by decide +kernel
theorem dJ7_fill_d0a16_0 : decode cJ7_fill_d0a16 0 = .ok (.iconst 0, 1) := by decide +kernel
theorem dJ7_fill_d0a16_1 : decode cJ7_fill_d0a16 1 = .ok (.istore_n 3, 1) := by decide +kernel
theorem dJ7_fill_d0a16_2 : decode cJ7_fill_d0a16 2 = .ok (.aload_n 0, 1) := by decide +kernel
theorem dJ7_fill_d0a16_3 : decode cJ7_fill_d0a16 3 = .ok (.arraylength, 1) := by decide +kernel
theorem dJ7_fill_d0a16_4 : decode cJ7_fill_d0a16 4 = .ok (.istore 4, 2) := by decide +kernel
theorem dJ7_fill_d0a16_6 : decode cJ7_fill_d0a16 6 = .ok (.iload_n 3, 1) := by decide +kernel
theorem dJ7_fill_d0a16_7 : decode cJ7_fill_d0a16 7 = .ok (.iload 4, 2) := by decide +kernel
theorem dJ7_fill_d0a16_9 : decode cJ7_fill_d0a16 9 = .ok (.if_icmp .ge 13, 3) := by decide +kernel
theorem dJ7_fill_d0a16_12 : decode cJ7_fill_d0a16 12 = .ok (.aload_n 0, 1) := by decide +kernel
theorem dJ7_fill_d0a16_13 : decode cJ7_fill_d0a16 13 = .ok (.iload_n 3, 1) := by decide +kernel
theorem dJ7_fill_d0a16_14 : decode cJ7_fill_d0a16 14 = .ok (.lload_n 1, 1) := by decide +kernel
theorem dJ7_fill_d0a16_15 : decode cJ7_fill_d0a16 15 = .ok (.lastore, 1) := by decide +kernel
theorem dJ7_fill_d0a16_16 : decode cJ7_fill_d0a16 16 = .ok (.iinc 3 1, 3) := by decide +kernel
theorem dJ7_fill_d0a16_19 : decode cJ7_fill_d0a16 19 = .ok (.goto (-13), 3) := by decide +kernel
theorem dJ7_fill_d0a16_22 : decode cJ7_fill_d0a16 22 = .ok (.return_, 1) := by decide +kernel
theorem dJ7_fill_53178_0 : decode cJ7_fill_53178 0 = .ok (.iconst 0, 1) := by decide +kernel
theorem dJ7_fill_53178_1 : decode cJ7_fill_53178 1 = .ok (.istore_n 2, 1) := by decide +kernel
theorem dJ7_fill_53178_2 : decode cJ7_fill_53178 2 = .ok (.aload_n 0, 1) := by decide +kernel
theorem dJ7_fill_53178_3 : decode cJ7_fill_53178 3 = .ok (.arraylength, 1) := by decide +kernel
theorem dJ7_fill_53178_4 : decode cJ7_fill_53178 4 = .ok (.istore_n 3, 1) := by decide +kernel
theorem dJ7_fill_53178_5 : decode cJ7_fill_53178 5 = .ok (.iload_n 2, 1) := by decide +kernel
theorem dJ7_fill_53178_6 : decode cJ7_fill_53178 6 = .ok (.iload_n 3, 1) := by decide +kernel
theorem dJ7_fill_53178_7 : decode cJ7_fill_53178 7 = .ok (.if_icmp .ge 13, 3) := by decide +kernel
theorem dJ7_fill_53178_10 : decode cJ7_fill_53178 10 = .ok (.aload_n 0, 1) := by decide +kernel
theorem dJ7_fill_53178_11 : decode cJ7_fill_53178 11 = .ok (.iload_n 2, 1) := by decide +kernel
theorem dJ7_fill_53178_12 : decode cJ7_fill_53178 12 = .ok (.iload_n 1, 1) := by decide +kernel
theorem dJ7_fill_53178_13 : decode cJ7_fill_53178 13 = .ok (.iastore, 1) := by decide +kernel
theorem dJ7_fill_53178_14 : decode cJ7_fill_53178 14 = .ok (.iinc 2 1, 3) := by decide +kernel
theorem dJ7_fill_53178_17 : decode cJ7_fill_53178 17 = .ok (.goto (-12), 3) := by decide +kernel
theorem dJ7_fill_53178_20 : decode cJ7_fill_53178 20 = .ok (.return_, 1) := by decide +kernel
theorem dJ3_checkIndex_8e157_0 : decode cJ3_checkIndex_8e157 0 = .ok (.iload_n 0, 1) := by decide +kernel
theorem dJ3_checkIndex_8e157_1 : decode cJ3_checkIndex_8e157 1 = .ok (.ifCond .lt 8, 3) := by decide +kernel
theorem dJ3_checkIndex_8e157_4 : decode cJ3_checkIndex_8e157 4 = .ok (.iload_n 0, 1) := by decide +kernel
theorem dJ3_checkIndex_8e157_5 : decode cJ3_checkIndex_8e157 5 = .ok (.iload_n 1, 1) := by decide +kernel
theorem dJ3_checkIndex_8e157_6 : decode cJ3_checkIndex_8e157 6 = .ok (.if_icmp .lt 10, 3) := by decide +kernel
theorem dJ3_checkIndex_8e157_9 : decode cJ3_checkIndex_8e157 9 = .ok (.aload_n 2, 1) := by decide +kernel
theorem dJ3_checkIndex_8e157_10 : decode cJ3_checkIndex_8e157 10 = .ok (.iload_n 0, 1) := by decide +kernel
theorem dJ3_checkIndex_8e157_11 : decode cJ3_checkIndex_8e157 11 = .ok (.iload_n 1, 1) := by decide +kernel
theorem dJ3_checkIndex_8e157_12 : decode cJ3_checkIndex_8e157 12 = .ok (.invokestatic 95, 3) := by decide +kernel
theorem dJ3_checkIndex_8e157_15 : decode cJ3_checkIndex_8e157 15 = .ok (.athrow, 1) := by decide +kernel
theorem dJ3_checkIndex_8e157_16 : decode cJ3_checkIndex_8e157 16 = .ok (.iload_n 0, 1) := by decide +kernel
theorem dJ3_checkIndex_8e157_17 : decode cJ3_checkIndex_8e157 17 = .ok (.ireturn, 1) := by decide +kernel
