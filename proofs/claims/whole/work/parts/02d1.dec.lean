theorem dX5_put_6 : decode cX5_put 6 = .ok (.ifCond .ne 5, 3) := by decide +kernel
theorem dX5_put_9 : decode cX5_put 9 = .ok (.iconst (-1), 1) := by decide +kernel
theorem dX5_put_10 : decode cX5_put 10 = .ok (.ireturn, 1) := by decide +kernel
theorem dX5_put_11 : decode cX5_put 11 = .ok (.aload_n 0, 1) := by decide +kernel
theorem dX5_put_12 : decode cX5_put 12 = .ok (.getfield 9, 3) := by decide +kernel
theorem dX5_put_15 : decode cX5_put 15 = .ok (.iload_n 2, 1) := by decide +kernel
theorem dX5_put_16 : decode cX5_put 16 = .ok (.bipush 8, 2) := by decide +kernel
theorem dX5_put_18 : decode cX5_put 18 = .ok (.imul, 1) := by decide +kernel
theorem dX5_put_19 : decode cX5_put 19 = .ok (.iload_n 1, 1) := by decide +kernel
theorem dX5_put_20 : decode cX5_put 20 = .ok (.iadd, 1) := by decide +kernel
theorem dX5_put_21 : decode cX5_put 21 = .ok (.iaload, 1) := by decide +kernel
theorem dX5_put_22 : decode cX5_put 22 = .ok (.istore 4, 2) := by decide +kernel
theorem dX5_put_24 : decode cX5_put 24 = .ok (.aload_n 0, 1) := by decide +kernel
theorem dX5_put_25 : decode cX5_put 25 = .ok (.getfield 9, 3) := by decide +kernel
theorem dX5_put_28 : decode cX5_put 28 = .ok (.iload_n 2, 1) := by decide +kernel
theorem dX5_put_29 : decode cX5_put 29 = .ok (.bipush 8, 2) := by decide +kernel
theorem dX5_put_31 : decode cX5_put 31 = .ok (.imul, 1) := by decide +kernel
theorem dX5_put_32 : decode cX5_put 32 = .ok (.iload_n 1, 1) := by decide +kernel
theorem dX5_put_33 : decode cX5_put 33 = .ok (.iadd, 1) := by decide +kernel
theorem dX5_put_34 : decode cX5_put 34 = .ok (.iload_n 3, 1) := by decide +kernel
theorem dX5_put_35 : decode cX5_put 35 = .ok (.iastore, 1) := by decide +kernel
theorem dX5_put_36 : decode cX5_put 36 = .ok (.iload 4, 2) := by decide +kernel
theorem dX5_put_38 : decode cX5_put 38 = .ok (.ireturn, 1) := by decide +kernel
theorem dX5_atTurned_0 : decode cX5_atTurned 0 = .ok (.aload_n 0, 1) := by decide +kernel
theorem dX5_atTurned_1 : decode cX5_atTurned 1 = .ok (.iload_n 1, 1) := by decide +kernel
theorem dX5_atTurned_2 : decode cX5_atTurned 2 = .ok (.iload_n 2, 1) := by decide +kernel
theorem dX5_atTurned_3 : decode cX5_atTurned 3 = .ok (.iload_n 3, 1) := by decide +kernel
theorem dX5_atTurned_4 : decode cX5_atTurned 4 = .ok (.aload_n 0, 1) := by decide +kernel
theorem dX5_atTurned_5 : decode cX5_atTurned 5 = .ok (.getfield 24, 3) := by decide +kernel
theorem dX5_atTurned_8 : decode cX5_atTurned 8 = .ok (.invokestatic 47, 3) := by decide +kernel
theorem dX5_atTurned_11 : decode cX5_atTurned 11 = .ok (.iload_n 1, 1) := by decide +kernel
theorem dX5_atTurned_12 : decode cX5_atTurned 12 = .ok (.iload_n 2, 1) := by decide +kernel
theorem dX5_atTurned_13 : decode cX5_atTurned 13 = .ok (.iload_n 3, 1) := by decide +kernel
theorem dX5_atTurned_14 : decode cX5_atTurned 14 = .ok (.aload_n 0, 1) := by decide +kernel
theorem dX5_atTurned_15 : decode cX5_atTurned 15 = .ok (.getfield 24, 3) := by decide +kernel
theorem dX5_atTurned_18 : decode cX5_atTurned 18 = .ok (.invokestatic 51, 3) := by decide +kernel
theorem dX5_atTurned_21 : decode cX5_atTurned 21 = .ok (.invokevirtual 54, 3) := by decide +kernel
theorem dX5_atTurned_24 : decode cX5_atTurned 24 = .ok (.ireturn, 1) := by decide +kernel
theorem dX5_atMirroredTurned_0 : decode cX5_atMirroredTurned 0 = .ok (.aload_n 0, 1) := by decide +kernel
theorem dX5_atMirroredTurned_1 : decode cX5_atMirroredTurned 1 = .ok (.aload_n 0, 1) := by decide +kernel
theorem dX5_atMirroredTurned_2 : decode cX5_atMirroredTurned 2 = .ok (.getfield 24, 3) := by decide +kernel
theorem dX5_atMirroredTurned_5 : decode cX5_atMirroredTurned 5 = .ok (.iconst 1, 1) := by decide +kernel
theorem dX5_atMirroredTurned_6 : decode cX5_atMirroredTurned 6 = .ok (.isub, 1) := by decide +kernel
theorem dX5_atMirroredTurned_7 : decode cX5_atMirroredTurned 7 = .ok (.iload_n 1, 1) := by decide +kernel
theorem dX5_atMirroredTurned_8 : decode cX5_atMirroredTurned 8 = .ok (.iload_n 2, 1) := by decide +kernel
theorem dX5_atMirroredTurned_9 : decode cX5_atMirroredTurned 9 = .ok (.iload_n 3, 1) := by decide +kernel
theorem dX5_atMirroredTurned_10 : decode cX5_atMirroredTurned 10 = .ok (.aload_n 0, 1) := by decide +kernel
theorem dX5_atMirroredTurned_11 : decode cX5_atMirroredTurned 11 = .ok (.getfield 24, 3) := by decide +kernel
theorem dX5_atMirroredTurned_14 : decode cX5_atMirroredTurned 14 = .ok (.invokestatic 47, 3) := by decide +kernel
theorem dX5_atMirroredTurned_17 : decode cX5_atMirroredTurned 17 = .ok (.isub, 1) := by decide +kernel
theorem dX5_atMirroredTurned_18 : decode cX5_atMirroredTurned 18 = .ok (.iload_n 1, 1) := by decide +kernel
theorem dX5_atMirroredTurned_19 : decode cX5_atMirroredTurned 19 = .ok (.iload_n 2, 1) := by decide +kernel
theorem dX5_atMirroredTurned_20 : decode cX5_atMirroredTurned 20 = .ok (.iload_n 3, 1) := by decide +kernel
theorem dX5_atMirroredTurned_21 : decode cX5_atMirroredTurned 21 = .ok (.aload_n 0, 1) := by decide +kernel
theorem dX5_atMirroredTurned_22 : decode cX5_atMirroredTurned 22 = .ok (.getfield 24, 3) := by decide +kernel
theorem dX5_atMirroredTurned_25 : decode cX5_atMirroredTurned 25 = .ok (.invokestatic 51, 3) := by decide +kernel
theorem dX5_atMirroredTurned_28 : decode cX5_atMirroredTurned 28 = .ok (.invokevirtual 54, 3) := by decide +kernel
theorem dX5_atMirroredTurned_31 : decode cX5_atMirroredTurned 31 = .ok (.ireturn, 1) := by decide +kernel
theorem dX5_cellsOf_0 : decode cX5_cellsOf 0 = .ok (.iconst 0, 1) := by decide +kernel
theorem dX5_cellsOf_1 : decode cX5_cellsOf 1 = .ok (.istore_n 2, 1) := by decide +kernel
theorem dX5_cellsOf_2 : decode cX5_cellsOf 2 = .ok (.iconst 0, 1) := by decide +kernel
theorem dX5_cellsOf_3 : decode cX5_cellsOf 3 = .ok (.istore_n 3, 1) := by decide +kernel
theorem dX5_cellsOf_4 : decode cX5_cellsOf 4 = .ok (.iload_n 3, 1) := by decide +kernel
theorem dX5_cellsOf_5 : decode cX5_cellsOf 5 = .ok (.aload_n 0, 1) := by decide +kernel
theorem dX5_cellsOf_6 : decode cX5_cellsOf 6 = .ok (.getfield 24, 3) := by decide +kernel
theorem dX5_cellsOf_9 : decode cX5_cellsOf 9 = .ok (.if_icmp .ge 41, 3) := by decide +kernel
theorem dX5_cellsOf_12 : decode cX5_cellsOf 12 = .ok (.iconst 0, 1) := by decide +kernel
theorem dX5_cellsOf_13 : decode cX5_cellsOf 13 = .ok (.istore 4, 2) := by decide +kernel
theorem dX5_cellsOf_15 : decode cX5_cellsOf 15 = .ok (.iload 4, 2) := by decide +kernel
theorem dX5_cellsOf_17 : decode cX5_cellsOf 17 = .ok (.aload_n 0, 1) := by decide +kernel
theorem dX5_cellsOf_18 : decode cX5_cellsOf 18 = .ok (.getfield 24, 3) := by decide +kernel
theorem dX5_cellsOf_21 : decode cX5_cellsOf 21 = .ok (.if_icmp .ge 23, 3) := by decide +kernel
theorem dX5_cellsOf_24 : decode cX5_cellsOf 24 = .ok (.aload_n 0, 1) := by decide +kernel
theorem dX5_cellsOf_25 : decode cX5_cellsOf 25 = .ok (.iload 4, 2) := by decide +kernel
theorem dX5_cellsOf_27 : decode cX5_cellsOf 27 = .ok (.iload_n 3, 1) := by decide +kernel
theorem dX5_cellsOf_28 : decode cX5_cellsOf 28 = .ok (.invokevirtual 54, 3) := by decide +kernel
theorem dX5_cellsOf_31 : decode cX5_cellsOf 31 = .ok (.iload_n 1, 1) := by decide +kernel
theorem dX5_cellsOf_32 : decode cX5_cellsOf 32 = .ok (.if_icmp .ne 6, 3) := by decide +kernel
theorem dX5_cellsOf_35 : decode cX5_cellsOf 35 = .ok (.iinc 2 1, 3) := by decide +kernel
theorem dX5_cellsOf_38 : decode cX5_cellsOf 38 = .ok (.iinc 4 1, 3) := by decide +kernel
theorem dX5_cellsOf_41 : decode cX5_cellsOf 41 = .ok (.goto (-26), 3) := by decide +kernel
theorem dX5_cellsOf_44 : decode cX5_cellsOf 44 = .ok (.iinc 3 1, 3) := by decide +kernel
theorem dX5_cellsOf_47 : decode cX5_cellsOf 47 = .ok (.goto (-43), 3) := by decide +kernel
theorem dX5_cellsOf_50 : decode cX5_cellsOf 50 = .ok (.iload_n 2, 1) := by decide +kernel
theorem dX5_cellsOf_51 : decode cX5_cellsOf 51 = .ok (.ireturn, 1) := by decide +kernel
theorem dX5_glassCells_0 : decode cX5_glassCells 0 = .ok (.aload_n 0, 1) := by decide +kernel
theorem dX5_glassCells_1 : decode cX5_glassCells 1 = .ok (.getfield 24, 3) := by decide +kernel
theorem dX5_glassCells_4 : decode cX5_glassCells 4 = .ok (.aload_n 0, 1) := by decide +kernel
theorem dX5_glassCells_5 : decode cX5_glassCells 5 = .ok (.getfield 24, 3) := by decide +kernel
theorem dX5_glassCells_8 : decode cX5_glassCells 8 = .ok (.imul, 1) := by decide +kernel
theorem dX5_glassCells_9 : decode cX5_glassCells 9 = .ok (.aload_n 0, 1) := by decide +kernel
theorem dX5_glassCells_10 : decode cX5_glassCells 10 = .ok (.iconst 0, 1) := by decide +kernel
theorem dX5_glassCells_11 : decode cX5_glassCells 11 = .ok (.invokevirtual 57, 3) := by decide +kernel
theorem dX5_glassCells_14 : decode cX5_glassCells 14 = .ok (.isub, 1) := by decide +kernel
theorem dX5_glassCells_15 : decode cX5_glassCells 15 = .ok (.ireturn, 1) := by decide +kernel
theorem dX5_addRing_0 : decode cX5_addRing 0 = .ok (.aload_n 0, 1) := by decide +kernel
theorem dX5_addRing_1 : decode cX5_addRing 1 = .ok (.getfield 24, 3) := by decide +kernel
theorem dX5_addRing_4 : decode cX5_addRing 4 = .ok (.iconst 2, 1) := by decide +kernel
theorem dX5_addRing_5 : decode cX5_addRing 5 = .ok (.iadd, 1) := by decide +kernel
theorem dX5_addRing_6 : decode cX5_addRing 6 = .ok (.bipush 8, 2) := by decide +kernel
theorem dX5_addRing_8 : decode cX5_addRing 8 = .ok (.if_icmp .le 4, 3) := by decide +kernel
theorem dX5_addRing_11 : decode cX5_addRing 11 = .ok (.return_, 1) := by decide +kernel
theorem dX5_addRing_12 : decode cX5_addRing 12 = .ok (.aload_n 0, 1) := by decide +kernel
theorem dX5_addRing_13 : decode cX5_addRing 13 = .ok (.getfield 24, 3) := by decide +kernel
theorem dX5_addRing_16 : decode cX5_addRing 16 = .ok (.istore_n 2, 1) := by decide +kernel
theorem dX5_addRing_17 : decode cX5_addRing 17 = .ok (.aload_n 0, 1) := by decide +kernel
theorem dX5_addRing_18 : decode cX5_addRing 18 = .ok (.dup, 1) := by decide +kernel
theorem dX5_addRing_19 : decode cX5_addRing 19 = .ok (.getfield 24, 3) := by decide +kernel
theorem dX5_addRing_22 : decode cX5_addRing 22 = .ok (.iconst 2, 1) := by decide +kernel
theorem dX5_addRing_23 : decode cX5_addRing 23 = .ok (.iadd, 1) := by decide +kernel
theorem dX5_addRing_24 : decode cX5_addRing 24 = .ok (.putfield 24, 3) := by decide +kernel
theorem dX5_addRing_27 : decode cX5_addRing 27 = .ok (.iload_n 2, 1) := by decide +kernel
theorem dX5_addRing_28 : decode cX5_addRing 28 = .ok (.iconst 1, 1) := by decide +kernel
theorem dX5_addRing_29 : decode cX5_addRing 29 = .ok (.isub, 1) := by decide +kernel
theorem dX5_addRing_30 : decode cX5_addRing 30 = .ok (.istore_n 3, 1) := by decide +kernel
theorem dX5_addRing_31 : decode cX5_addRing 31 = .ok (.iload_n 3, 1) := by decide +kernel
theorem dX5_addRing_32 : decode cX5_addRing 32 = .ok (.ifCond .lt 44, 3) := by decide +kernel
theorem dX5_addRing_35 : decode cX5_addRing 35 = .ok (.iload_n 2, 1) := by decide +kernel
theorem dX5_addRing_36 : decode cX5_addRing 36 = .ok (.iconst 1, 1) := by decide +kernel
theorem dX5_addRing_37 : decode cX5_addRing 37 = .ok (.isub, 1) := by decide +kernel
theorem dX5_addRing_38 : decode cX5_addRing 38 = .ok (.istore 4, 2) := by decide +kernel
theorem dX5_addRing_40 : decode cX5_addRing 40 = .ok (.iload 4, 2) := by decide +kernel
theorem dX5_addRing_42 : decode cX5_addRing 42 = .ok (.ifCond .lt 28, 3) := by decide +kernel
theorem dX5_addRing_45 : decode cX5_addRing 45 = .ok (.aload_n 0, 1) := by decide +kernel
theorem dX5_addRing_46 : decode cX5_addRing 46 = .ok (.iload 4, 2) := by decide +kernel
theorem dX5_addRing_48 : decode cX5_addRing 48 = .ok (.iconst 1, 1) := by decide +kernel
theorem dX5_addRing_49 : decode cX5_addRing 49 = .ok (.iadd, 1) := by decide +kernel
theorem dX5_addRing_50 : decode cX5_addRing 50 = .ok (.iload_n 3, 1) := by decide +kernel
theorem dX5_addRing_51 : decode cX5_addRing 51 = .ok (.iconst 1, 1) := by decide +kernel
theorem dX5_addRing_52 : decode cX5_addRing 52 = .ok (.iadd, 1) := by decide +kernel
theorem dX5_addRing_53 : decode cX5_addRing 53 = .ok (.aload_n 0, 1) := by decide +kernel
theorem dX5_addRing_54 : decode cX5_addRing 54 = .ok (.iload 4, 2) := by decide +kernel
theorem dX5_addRing_56 : decode cX5_addRing 56 = .ok (.iload_n 3, 1) := by decide +kernel
theorem dX5_addRing_57 : decode cX5_addRing 57 = .ok (.invokevirtual 54, 3) := by decide +kernel
theorem dX5_addRing_60 : decode cX5_addRing 60 = .ok (.invokevirtual 61, 3) := by decide +kernel
theorem dX5_addRing_63 : decode cX5_addRing 63 = .ok (.pop, 1) := by decide +kernel
theorem dX5_addRing_64 : decode cX5_addRing 64 = .ok (.iinc 4 (-1), 3) := by decide +kernel
theorem dX5_addRing_67 : decode cX5_addRing 67 = .ok (.goto (-27), 3) := by decide +kernel
theorem dX5_addRing_70 : decode cX5_addRing 70 = .ok (.iinc 3 (-1), 3) := by decide +kernel
theorem dX5_addRing_73 : decode cX5_addRing 73 = .ok (.goto (-42), 3) := by decide +kernel
theorem dX5_addRing_76 : decode cX5_addRing 76 = .ok (.iconst 0, 1) := by decide +kernel
theorem dX5_addRing_77 : decode cX5_addRing 77 = .ok (.istore_n 3, 1) := by decide +kernel
theorem dX5_addRing_78 : decode cX5_addRing 78 = .ok (.iload_n 3, 1) := by decide +kernel
theorem dX5_addRing_79 : decode cX5_addRing 79 = .ok (.aload_n 0, 1) := by decide +kernel
theorem dX5_addRing_80 : decode cX5_addRing 80 = .ok (.getfield 24, 3) := by decide +kernel
theorem dX5_addRing_83 : decode cX5_addRing 83 = .ok (.if_icmp .ge 51, 3) := by decide +kernel
theorem dX5_addRing_86 : decode cX5_addRing 86 = .ok (.aload_n 0, 1) := by decide +kernel
theorem dX5_addRing_87 : decode cX5_addRing 87 = .ok (.iload_n 3, 1) := by decide +kernel
theorem dX5_addRing_88 : decode cX5_addRing 88 = .ok (.iconst 0, 1) := by decide +kernel
theorem dX5_addRing_89 : decode cX5_addRing 89 = .ok (.iload_n 1, 1) := by decide +kernel
theorem dX5_addRing_90 : decode cX5_addRing 90 = .ok (.invokevirtual 61, 3) := by decide +kernel
theorem dX5_addRing_93 : decode cX5_addRing 93 = .ok (.pop, 1) := by decide +kernel
theorem dX5_addRing_94 : decode cX5_addRing 94 = .ok (.aload_n 0, 1) := by decide +kernel
theorem dX5_addRing_95 : decode cX5_addRing 95 = .ok (.iload_n 3, 1) := by decide +kernel
theorem dX5_addRing_96 : decode cX5_addRing 96 = .ok (.aload_n 0, 1) := by decide +kernel
theorem dX5_addRing_97 : decode cX5_addRing 97 = .ok (.getfield 24, 3) := by decide +kernel
theorem dX5_addRing_100 : decode cX5_addRing 100 = .ok (.iconst 1, 1) := by decide +kernel
theorem dX5_addRing_101 : decode cX5_addRing 101 = .ok (.isub, 1) := by decide +kernel
theorem dX5_addRing_102 : decode cX5_addRing 102 = .ok (.iload_n 1, 1) := by decide +kernel
theorem dX5_addRing_103 : decode cX5_addRing 103 = .ok (.invokevirtual 61, 3) := by decide +kernel
theorem dX5_addRing_106 : decode cX5_addRing 106 = .ok (.pop, 1) := by decide +kernel
theorem dX5_addRing_107 : decode cX5_addRing 107 = .ok (.aload_n 0, 1) := by decide +kernel
theorem dX5_addRing_108 : decode cX5_addRing 108 = .ok (.iconst 0, 1) := by decide +kernel
theorem dX5_addRing_109 : decode cX5_addRing 109 = .ok (.iload_n 3, 1) := by decide +kernel
theorem dX5_addRing_110 : decode cX5_addRing 110 = .ok (.iload_n 1, 1) := by decide +kernel
theorem dX5_addRing_111 : decode cX5_addRing 111 = .ok (.invokevirtual 61, 3) := by decide +kernel
theorem dX5_addRing_114 : decode cX5_addRing 114 = .ok (.pop, 1) := by decide +kernel
theorem dX5_addRing_115 : decode cX5_addRing 115 = .ok (.aload_n 0, 1) := by decide +kernel
theorem dX5_addRing_116 : decode cX5_addRing 116 = .ok (.aload_n 0, 1) := by decide +kernel
theorem dX5_addRing_117 : decode cX5_addRing 117 = .ok (.getfield 24, 3) := by decide +kernel
theorem dX5_addRing_120 : decode cX5_addRing 120 = .ok (.iconst 1, 1) := by decide +kernel
theorem dX5_addRing_121 : decode cX5_addRing 121 = .ok (.isub, 1) := by decide +kernel
theorem dX5_addRing_122 : decode cX5_addRing 122 = .ok (.iload_n 3, 1) := by decide +kernel
theorem dX5_addRing_123 : decode cX5_addRing 123 = .ok (.iload_n 1, 1) := by decide +kernel
theorem dX5_addRing_124 : decode cX5_addRing 124 = .ok (.invokevirtual 61, 3) := by decide +kernel
theorem dX5_addRing_127 : decode cX5_addRing 127 = .ok (.pop, 1) := by decide +kernel
theorem dX5_addRing_128 : decode cX5_addRing 128 = .ok (.iinc 3 1, 3) := by decide +kernel
theorem dX5_addRing_131 : decode cX5_addRing 131 = .ok (.goto (-53), 3) := by decide +kernel
theorem dX5_addRing_134 : decode cX5_addRing 134 = .ok (.return_, 1) := by decide +kernel
theorem dX5_paint_0 : decode cX5_paint 0 = .ok (.iconst 0, 1) := by decide +kernel
theorem dX5_paint_1 : decode cX5_paint 1 = .ok (.istore 5, 2) := by decide +kernel
theorem dX5_paint_3 : decode cX5_paint 3 = .ok (.iload 5, 2) := by decide +kernel
theorem dX5_paint_5 : decode cX5_paint 5 = .ok (.aload_n 3, 1) := by decide +kernel
theorem dX5_paint_6 : decode cX5_paint 6 = .ok (.getfield 24, 3) := by decide +kernel
theorem dX5_paint_9 : decode cX5_paint 9 = .ok (.if_icmp .ge 50, 3) := by decide +kernel
theorem dX5_paint_12 : decode cX5_paint 12 = .ok (.iconst 0, 1) := by decide +kernel
theorem dX5_paint_13 : decode cX5_paint 13 = .ok (.istore 6, 2) := by decide +kernel
theorem dX5_paint_15 : decode cX5_paint 15 = .ok (.iload 6, 2) := by decide +kernel
theorem dX5_paint_17 : decode cX5_paint 17 = .ok (.aload_n 3, 1) := by decide +kernel
theorem dX5_paint_18 : decode cX5_paint 18 = .ok (.getfield 24, 3) := by decide +kernel
theorem dX5_paint_21 : decode cX5_paint 21 = .ok (.if_icmp .ge 32, 3) := by decide +kernel
theorem dX5_paint_24 : decode cX5_paint 24 = .ok (.aload_n 0, 1) := by decide +kernel
theorem dX5_paint_25 : decode cX5_paint 25 = .ok (.iload_n 1, 1) := by decide +kernel
theorem dX5_paint_26 : decode cX5_paint 26 = .ok (.iload 6, 2) := by decide +kernel
theorem dX5_paint_28 : decode cX5_paint 28 = .ok (.iadd, 1) := by decide +kernel
theorem dX5_paint_29 : decode cX5_paint 29 = .ok (.iload_n 2, 1) := by decide +kernel
theorem dX5_paint_30 : decode cX5_paint 30 = .ok (.iload 5, 2) := by decide +kernel
theorem dX5_paint_32 : decode cX5_paint 32 = .ok (.iadd, 1) := by decide +kernel
theorem dX5_paint_33 : decode cX5_paint 33 = .ok (.aload_n 3, 1) := by decide +kernel
theorem dX5_paint_34 : decode cX5_paint 34 = .ok (.iload 6, 2) := by decide +kernel
theorem dX5_paint_36 : decode cX5_paint 36 = .ok (.iload 5, 2) := by decide +kernel
theorem dX5_paint_38 : decode cX5_paint 38 = .ok (.iload 4, 2) := by decide +kernel
theorem dX5_paint_40 : decode cX5_paint 40 = .ok (.invokevirtual 65, 3) := by decide +kernel
theorem dX5_paint_43 : decode cX5_paint 43 = .ok (.invokevirtual 61, 3) := by decide +kernel
theorem dX5_paint_46 : decode cX5_paint 46 = .ok (.pop, 1) := by decide +kernel
theorem dX5_paint_47 : decode cX5_paint 47 = .ok (.iinc 6 1, 3) := by decide +kernel
theorem dX5_paint_50 : decode cX5_paint 50 = .ok (.goto (-35), 3) := by decide +kernel
theorem dX5_paint_53 : decode cX5_paint 53 = .ok (.iinc 5 1, 3) := by decide +kernel
theorem dX5_paint_56 : decode cX5_paint 56 = .ok (.goto (-53), 3) := by decide +kernel
theorem dX5_paint_59 : decode cX5_paint 59 = .ok (.return_, 1) := by decide +kernel
theorem dX5_waysToShow_0 : decode cX5_waysToShow 0 = .ok (.aload_n 1, 1) := by decide +kernel
theorem dX5_waysToShow_1 : decode cX5_waysToShow 1 = .ok (.getfield 24, 3) := by decide +kernel
theorem dX5_waysToShow_4 : decode cX5_waysToShow 4 = .ok (.aload_n 0, 1) := by decide +kernel
theorem dX5_waysToShow_5 : decode cX5_waysToShow 5 = .ok (.getfield 24, 3) := by decide +kernel
theorem dX5_waysToShow_8 : decode cX5_waysToShow 8 = .ok (.if_icmp .eq 5, 3) := by decide +kernel
theorem dX5_waysToShow_11 : decode cX5_waysToShow 11 = .ok (.iconst 0, 1) := by decide +kernel
theorem dX5_waysToShow_12 : decode cX5_waysToShow 12 = .ok (.ireturn, 1) := by decide +kernel
theorem dX5_waysToShow_13 : decode cX5_waysToShow 13 = .ok (.iconst 0, 1) := by decide +kernel
theorem dX5_waysToShow_14 : decode cX5_waysToShow 14 = .ok (.istore_n 2, 1) := by decide +kernel
theorem dX5_waysToShow_15 : decode cX5_waysToShow 15 = .ok (.iconst 0, 1) := by decide +kernel
theorem dX5_waysToShow_16 : decode cX5_waysToShow 16 = .ok (.istore_n 3, 1) := by decide +kernel
theorem dX5_waysToShow_17 : decode cX5_waysToShow 17 = .ok (.iload_n 3, 1) := by decide +kernel
theorem dX5_waysToShow_18 : decode cX5_waysToShow 18 = .ok (.iconst 4, 1) := by decide +kernel
theorem dX5_waysToShow_19 : decode cX5_waysToShow 19 = .ok (.if_icmp .ge 43, 3) := by decide +kernel
theorem dX5_waysToShow_22 : decode cX5_waysToShow 22 = .ok (.aload_n 0, 1) := by decide +kernel
theorem dX5_waysToShow_23 : decode cX5_waysToShow 23 = .ok (.aload_n 1, 1) := by decide +kernel
theorem dX5_waysToShow_24 : decode cX5_waysToShow 24 = .ok (.iload_n 3, 1) := by decide +kernel
theorem dX5_waysToShow_25 : decode cX5_waysToShow 25 = .ok (.iconst 0, 1) := by decide +kernel
theorem dX5_waysToShow_26 : decode cX5_waysToShow 26 = .ok (.invokevirtual 68, 3) := by decide +kernel
theorem dX5_waysToShow_29 : decode cX5_waysToShow 29 = .ok (.ifCond .eq 9, 3) := by decide +kernel
theorem dX5_waysToShow_32 : decode cX5_waysToShow 32 = .ok (.iload_n 2, 1) := by decide +kernel
theorem dX5_waysToShow_33 : decode cX5_waysToShow 33 = .ok (.iconst 1, 1) := by decide +kernel
theorem dX5_waysToShow_34 : decode cX5_waysToShow 34 = .ok (.iload_n 3, 1) := by decide +kernel
theorem dX5_waysToShow_35 : decode cX5_waysToShow 35 = .ok (.ishl, 1) := by decide +kernel
theorem dX5_waysToShow_36 : decode cX5_waysToShow 36 = .ok (.ior, 1) := by decide +kernel
theorem dX5_waysToShow_37 : decode cX5_waysToShow 37 = .ok (.istore_n 2, 1) := by decide +kernel
theorem dX5_waysToShow_38 : decode cX5_waysToShow 38 = .ok (.aload_n 0, 1) := by decide +kernel
theorem dX5_waysToShow_39 : decode cX5_waysToShow 39 = .ok (.aload_n 1, 1) := by decide +kernel
theorem dX5_waysToShow_40 : decode cX5_waysToShow 40 = .ok (.iload_n 3, 1) := by decide +kernel
theorem dX5_waysToShow_41 : decode cX5_waysToShow 41 = .ok (.iconst 1, 1) := by decide +kernel
theorem dX5_waysToShow_42 : decode cX5_waysToShow 42 = .ok (.invokevirtual 68, 3) := by decide +kernel
theorem dX5_waysToShow_45 : decode cX5_waysToShow 45 = .ok (.ifCond .eq 11, 3) := by decide +kernel
theorem dX5_waysToShow_48 : decode cX5_waysToShow 48 = .ok (.iload_n 2, 1) := by decide +kernel
theorem dX5_waysToShow_49 : decode cX5_waysToShow 49 = .ok (.iconst 1, 1) := by decide +kernel
theorem dX5_waysToShow_50 : decode cX5_waysToShow 50 = .ok (.iconst 4, 1) := by decide +kernel
theorem dX5_waysToShow_51 : decode cX5_waysToShow 51 = .ok (.iload_n 3, 1) := by decide +kernel
theorem dX5_waysToShow_52 : decode cX5_waysToShow 52 = .ok (.iadd, 1) := by decide +kernel
theorem dX5_waysToShow_53 : decode cX5_waysToShow 53 = .ok (.ishl, 1) := by decide +kernel
theorem dX5_waysToShow_54 : decode cX5_waysToShow 54 = .ok (.ior, 1) := by decide +kernel
theorem dX5_waysToShow_55 : decode cX5_waysToShow 55 = .ok (.istore_n 2, 1) := by decide +kernel
theorem dX5_waysToShow_56 : decode cX5_waysToShow 56 = .ok (.iinc 3 1, 3) := by decide +kernel
theorem dX5_waysToShow_59 : decode cX5_waysToShow 59 = .ok (.goto (-42), 3) := by decide +kernel
theorem dX5_waysToShow_62 : decode cX5_waysToShow 62 = .ok (.iload_n 2, 1) := by decide +kernel
theorem dX5_waysToShow_63 : decode cX5_waysToShow 63 = .ok (.ireturn, 1) := by decide +kernel
theorem dX5_shows_0 : decode cX5_shows 0 = .ok (.iconst 0, 1) := by decide +kernel
theorem dX5_shows_1 : decode cX5_shows 1 = .ok (.istore 4, 2) := by decide +kernel
theorem dX5_shows_3 : decode cX5_shows 3 = .ok (.iload 4, 2) := by decide +kernel
theorem dX5_shows_5 : decode cX5_shows 5 = .ok (.aload_n 0, 1) := by decide +kernel
theorem dX5_shows_6 : decode cX5_shows 6 = .ok (.getfield 24, 3) := by decide +kernel
theorem dX5_shows_9 : decode cX5_shows 9 = .ok (.if_icmp .ge 80, 3) := by decide +kernel
theorem dX5_shows_12 : decode cX5_shows 12 = .ok (.iconst 0, 1) := by decide +kernel
theorem dX5_shows_13 : decode cX5_shows 13 = .ok (.istore 5, 2) := by decide +kernel
theorem dX5_shows_15 : decode cX5_shows 15 = .ok (.iload 5, 2) := by decide +kernel
theorem dX5_shows_17 : decode cX5_shows 17 = .ok (.aload_n 0, 1) := by decide +kernel
theorem dX5_shows_18 : decode cX5_shows 18 = .ok (.getfield 24, 3) := by decide +kernel
theorem dX5_shows_21 : decode cX5_shows 21 = .ok (.if_icmp .ge 62, 3) := by decide +kernel
theorem dX5_shows_24 : decode cX5_shows 24 = .ok (.aload_n 1, 1) := by decide +kernel
theorem dX5_shows_25 : decode cX5_shows 25 = .ok (.iload 5, 2) := by decide +kernel
theorem dX5_shows_27 : decode cX5_shows 27 = .ok (.iload 4, 2) := by decide +kernel
theorem dX5_shows_29 : decode cX5_shows 29 = .ok (.invokevirtual 54, 3) := by decide +kernel
theorem dX5_shows_32 : decode cX5_shows 32 = .ok (.istore 6, 2) := by decide +kernel
theorem dX5_shows_34 : decode cX5_shows 34 = .ok (.iload_n 3, 1) := by decide +kernel
theorem dX5_shows_35 : decode cX5_shows 35 = .ok (.ifCond .eq 15, 3) := by decide +kernel
theorem dX5_shows_38 : decode cX5_shows 38 = .ok (.aload_n 0, 1) := by decide +kernel
theorem dX5_shows_39 : decode cX5_shows 39 = .ok (.iload 5, 2) := by decide +kernel
theorem dX5_shows_41 : decode cX5_shows 41 = .ok (.iload 4, 2) := by decide +kernel
theorem dX5_shows_43 : decode cX5_shows 43 = .ok (.iload_n 2, 1) := by decide +kernel
theorem dX5_shows_44 : decode cX5_shows 44 = .ok (.invokevirtual 72, 3) := by decide +kernel
theorem dX5_shows_47 : decode cX5_shows 47 = .ok (.goto 12, 3) := by decide +kernel
theorem dX5_shows_50 : decode cX5_shows 50 = .ok (.aload_n 0, 1) := by decide +kernel
theorem dX5_shows_51 : decode cX5_shows 51 = .ok (.iload 5, 2) := by decide +kernel
theorem dX5_shows_53 : decode cX5_shows 53 = .ok (.iload 4, 2) := by decide +kernel
theorem dX5_shows_55 : decode cX5_shows 55 = .ok (.iload_n 2, 1) := by decide +kernel
theorem dX5_shows_56 : decode cX5_shows 56 = .ok (.invokevirtual 65, 3) := by decide +kernel
theorem dX5_shows_59 : decode cX5_shows 59 = .ok (.istore 7, 2) := by decide +kernel
theorem dX5_shows_61 : decode cX5_shows 61 = .ok (.iload 6, 2) := by decide +kernel
theorem dX5_shows_63 : decode cX5_shows 63 = .ok (.bipush (-9), 2) := by decide +kernel
theorem dX5_shows_65 : decode cX5_shows 65 = .ok (.if_icmp .eq 12, 3) := by decide +kernel
theorem dX5_shows_68 : decode cX5_shows 68 = .ok (.iload 6, 2) := by decide +kernel
theorem dX5_shows_70 : decode cX5_shows 70 = .ok (.iload 7, 2) := by decide +kernel
theorem dX5_shows_72 : decode cX5_shows 72 = .ok (.if_icmp .eq 5, 3) := by decide +kernel
theorem dX5_shows_75 : decode cX5_shows 75 = .ok (.iconst 0, 1) := by decide +kernel
theorem dX5_shows_76 : decode cX5_shows 76 = .ok (.ireturn, 1) := by decide +kernel
theorem dX5_shows_77 : decode cX5_shows 77 = .ok (.iinc 5 1, 3) := by decide +kernel
theorem dX5_shows_80 : decode cX5_shows 80 = .ok (.goto (-65), 3) := by decide +kernel
theorem dX5_shows_83 : decode cX5_shows 83 = .ok (.iinc 4 1, 3) := by decide +kernel
theorem dX5_shows_86 : decode cX5_shows 86 = .ok (.goto (-83), 3) := by decide +kernel
theorem dX5_shows_89 : decode cX5_shows 89 = .ok (.iconst 1, 1) := by decide +kernel
theorem dX5_shows_90 : decode cX5_shows 90 = .ok (.ireturn, 1) := by decide +kernel
theorem dX5_columnsThatShow_0 : decode cX5_columnsThatShow 0 = .ok (.iconst 0, 1) := by decide +kernel
theorem dX5_columnsThatShow_1 : decode cX5_columnsThatShow 1 = .ok (.istore_n 3, 1) := by decide +kernel
theorem dX5_columnsThatShow_2 : decode cX5_columnsThatShow 2 = .ok (.iconst 0, 1) := by decide +kernel
theorem dX5_columnsThatShow_3 : decode cX5_columnsThatShow 3 = .ok (.istore 4, 2) := by decide +kernel
theorem dX5_columnsThatShow_5 : decode cX5_columnsThatShow 5 = .ok (.iload 4, 2) := by decide +kernel
theorem dX5_columnsThatShow_7 : decode cX5_columnsThatShow 7 = .ok (.aload_n 0, 1) := by decide +kernel
theorem dX5_columnsThatShow_8 : decode cX5_columnsThatShow 8 = .ok (.getfield 24, 3) := by decide +kernel
theorem dX5_columnsThatShow_11 : decode cX5_columnsThatShow 11 = .ok (.if_icmp .ge 85, 3) := by decide +kernel
theorem dX5_columnsThatShow_14 : decode cX5_columnsThatShow 14 = .ok (.iconst 1, 1) := by decide +kernel
theorem dX5_columnsThatShow_15 : decode cX5_columnsThatShow 15 = .ok (.istore 5, 2) := by decide +kernel
theorem dX5_columnsThatShow_17 : decode cX5_columnsThatShow 17 = .ok (.iconst 0, 1) := by decide +kernel
theorem dX5_columnsThatShow_18 : decode cX5_columnsThatShow 18 = .ok (.istore 6, 2) := by decide +kernel
theorem dX5_columnsThatShow_20 : decode cX5_columnsThatShow 20 = .ok (.iload 6, 2) := by decide +kernel
theorem dX5_columnsThatShow_22 : decode cX5_columnsThatShow 22 = .ok (.aload_n 0, 1) := by decide +kernel
theorem dX5_columnsThatShow_23 : decode cX5_columnsThatShow 23 = .ok (.getfield 24, 3) := by decide +kernel
theorem dX5_columnsThatShow_26 : decode cX5_columnsThatShow 26 = .ok (.if_icmp .ge 52, 3) := by decide +kernel
theorem dX5_columnsThatShow_29 : decode cX5_columnsThatShow 29 = .ok (.aload_n 1, 1) := by decide +kernel
theorem dX5_columnsThatShow_30 : decode cX5_columnsThatShow 30 = .ok (.iload 4, 2) := by decide +kernel
theorem dX5_columnsThatShow_32 : decode cX5_columnsThatShow 32 = .ok (.iload 6, 2) := by decide +kernel
theorem dX5_columnsThatShow_34 : decode cX5_columnsThatShow 34 = .ok (.invokevirtual 54, 3) := by decide +kernel
theorem dX5_columnsThatShow_37 : decode cX5_columnsThatShow 37 = .ok (.istore 7, 2) := by decide +kernel
theorem dX5_columnsThatShow_39 : decode cX5_columnsThatShow 39 = .ok (.iload 5, 2) := by decide +kernel
theorem dX5_columnsThatShow_41 : decode cX5_columnsThatShow 41 = .ok (.ifCond .eq 28, 3) := by decide +kernel
theorem dX5_columnsThatShow_44 : decode cX5_columnsThatShow 44 = .ok (.iload 7, 2) := by decide +kernel
theorem dX5_columnsThatShow_46 : decode cX5_columnsThatShow 46 = .ok (.bipush (-9), 2) := by decide +kernel
theorem dX5_columnsThatShow_48 : decode cX5_columnsThatShow 48 = .ok (.if_icmp .eq 17, 3) := by decide +kernel
theorem dX5_columnsThatShow_51 : decode cX5_columnsThatShow 51 = .ok (.iload 7, 2) := by decide +kernel
theorem dX5_columnsThatShow_53 : decode cX5_columnsThatShow 53 = .ok (.aload_n 0, 1) := by decide +kernel
theorem dX5_columnsThatShow_54 : decode cX5_columnsThatShow 54 = .ok (.iload 4, 2) := by decide +kernel
theorem dX5_columnsThatShow_56 : decode cX5_columnsThatShow 56 = .ok (.iload 6, 2) := by decide +kernel
theorem dX5_columnsThatShow_58 : decode cX5_columnsThatShow 58 = .ok (.iload_n 2, 1) := by decide +kernel
theorem dX5_columnsThatShow_59 : decode cX5_columnsThatShow 59 = .ok (.invokevirtual 65, 3) := by decide +kernel
theorem dX5_columnsThatShow_62 : decode cX5_columnsThatShow 62 = .ok (.if_icmp .ne 7, 3) := by decide +kernel
theorem dX5_columnsThatShow_65 : decode cX5_columnsThatShow 65 = .ok (.iconst 1, 1) := by decide +kernel
theorem dX5_columnsThatShow_66 : decode cX5_columnsThatShow 66 = .ok (.goto 4, 3) := by decide +kernel
theorem dX5_columnsThatShow_69 : decode cX5_columnsThatShow 69 = .ok (.iconst 0, 1) := by decide +kernel
theorem dX5_columnsThatShow_70 : decode cX5_columnsThatShow 70 = .ok (.istore 5, 2) := by decide +kernel
theorem dX5_columnsThatShow_72 : decode cX5_columnsThatShow 72 = .ok (.iinc 6 1, 3) := by decide +kernel
theorem dX5_columnsThatShow_75 : decode cX5_columnsThatShow 75 = .ok (.goto (-55), 3) := by decide +kernel
theorem dX5_columnsThatShow_78 : decode cX5_columnsThatShow 78 = .ok (.iload 5, 2) := by decide +kernel
theorem dX5_columnsThatShow_80 : decode cX5_columnsThatShow 80 = .ok (.ifCond .eq 10, 3) := by decide +kernel
theorem dX5_columnsThatShow_83 : decode cX5_columnsThatShow 83 = .ok (.iload_n 3, 1) := by decide +kernel
theorem dX5_columnsThatShow_84 : decode cX5_columnsThatShow 84 = .ok (.iconst 1, 1) := by decide +kernel
theorem dX5_columnsThatShow_85 : decode cX5_columnsThatShow 85 = .ok (.iload 4, 2) := by decide +kernel
theorem dX5_columnsThatShow_87 : decode cX5_columnsThatShow 87 = .ok (.ishl, 1) := by decide +kernel
theorem dX5_columnsThatShow_88 : decode cX5_columnsThatShow 88 = .ok (.ior, 1) := by decide +kernel
theorem dX5_columnsThatShow_89 : decode cX5_columnsThatShow 89 = .ok (.istore_n 3, 1) := by decide +kernel
theorem dX5_columnsThatShow_90 : decode cX5_columnsThatShow 90 = .ok (.iinc 4 1, 3) := by decide +kernel
theorem dX5_columnsThatShow_93 : decode cX5_columnsThatShow 93 = .ok (.goto (-88), 3) := by decide +kernel
theorem dX5_columnsThatShow_96 : decode cX5_columnsThatShow 96 = .ok (.iload_n 3, 1) := by decide +kernel
theorem dX5_columnsThatShow_97 : decode cX5_columnsThatShow 97 = .ok (.ireturn, 1) := by decide +kernel
theorem dX5_columnKey_0 : decode cX5_columnKey 0 = .ok (.iconst 0, 1) := by decide +kernel
theorem dX5_columnKey_1 : decode cX5_columnKey 1 = .ok (.istore_n 3, 1) := by decide +kernel
theorem dX5_columnKey_2 : decode cX5_columnKey 2 = .ok (.iconst 0, 1) := by decide +kernel
theorem dX5_columnKey_3 : decode cX5_columnKey 3 = .ok (.istore 4, 2) := by decide +kernel
theorem dX5_columnKey_5 : decode cX5_columnKey 5 = .ok (.iload 4, 2) := by decide +kernel
theorem dX5_columnKey_7 : decode cX5_columnKey 7 = .ok (.aload_n 0, 1) := by decide +kernel
theorem dX5_columnKey_8 : decode cX5_columnKey 8 = .ok (.getfield 24, 3) := by decide +kernel
theorem dX5_columnKey_11 : decode cX5_columnKey 11 = .ok (.if_icmp .ge 22, 3) := by decide +kernel
theorem dX5_columnKey_14 : decode cX5_columnKey 14 = .ok (.iload_n 3, 1) := by decide +kernel
theorem dX5_columnKey_15 : decode cX5_columnKey 15 = .ok (.iconst 4, 1) := by decide +kernel
theorem dX5_columnKey_16 : decode cX5_columnKey 16 = .ok (.ishl, 1) := by decide +kernel
theorem dX5_columnKey_17 : decode cX5_columnKey 17 = .ok (.aload_n 0, 1) := by decide +kernel
theorem dX5_columnKey_18 : decode cX5_columnKey 18 = .ok (.iload_n 1, 1) := by decide +kernel
theorem dX5_columnKey_19 : decode cX5_columnKey 19 = .ok (.iload 4, 2) := by decide +kernel
theorem dX5_columnKey_21 : decode cX5_columnKey 21 = .ok (.iload_n 2, 1) := by decide +kernel
theorem dX5_columnKey_22 : decode cX5_columnKey 22 = .ok (.invokevirtual 65, 3) := by decide +kernel
theorem dX5_columnKey_25 : decode cX5_columnKey 25 = .ok (.ior, 1) := by decide +kernel
theorem dX5_columnKey_26 : decode cX5_columnKey 26 = .ok (.istore_n 3, 1) := by decide +kernel
theorem dX5_columnKey_27 : decode cX5_columnKey 27 = .ok (.iinc 4 1, 3) := by decide +kernel
theorem dX5_columnKey_30 : decode cX5_columnKey 30 = .ok (.goto (-25), 3) := by decide +kernel
theorem dX5_columnKey_33 : decode cX5_columnKey 33 = .ok (.iload_n 3, 1) := by decide +kernel
theorem dX5_columnKey_34 : decode cX5_columnKey 34 = .ok (.ireturn, 1) := by decide +kernel
theorem dX5_unlikeParts_0 : decode cX5_unlikeParts 0 = .ok (.iload_n 1, 1) := by decide +kernel
theorem dX5_unlikeParts_1 : decode cX5_unlikeParts 1 = .ok (.iconst 1, 1) := by decide +kernel
theorem dX5_unlikeParts_2 : decode cX5_unlikeParts 2 = .ok (.if_icmp .ge 5, 3) := by decide +kernel
theorem dX5_unlikeParts_5 : decode cX5_unlikeParts 5 = .ok (.iconst 0, 1) := by decide +kernel
theorem dX5_unlikeParts_6 : decode cX5_unlikeParts 6 = .ok (.ireturn, 1) := by decide +kernel
theorem dX5_unlikeParts_7 : decode cX5_unlikeParts 7 = .ok (.aload_n 0, 1) := by decide +kernel
theorem dX5_unlikeParts_8 : decode cX5_unlikeParts 8 = .ok (.getfield 24, 3) := by decide +kernel
theorem dX5_unlikeParts_11 : decode cX5_unlikeParts 11 = .ok (.iload_n 1, 1) := by decide +kernel
theorem dX5_unlikeParts_12 : decode cX5_unlikeParts 12 = .ok (.idiv, 1) := by decide +kernel
theorem dX5_unlikeParts_13 : decode cX5_unlikeParts 13 = .ok (.istore_n 2, 1) := by decide +kernel
theorem dX5_unlikeParts_14 : decode cX5_unlikeParts 14 = .ok (.iconst 0, 1) := by decide +kernel
theorem dX5_unlikeParts_15 : decode cX5_unlikeParts 15 = .ok (.istore_n 3, 1) := by decide +kernel
theorem dX5_unlikeParts_16 : decode cX5_unlikeParts 16 = .ok (.iconst 0, 1) := by decide +kernel
theorem dX5_unlikeParts_17 : decode cX5_unlikeParts 17 = .ok (.istore 4, 2) := by decide +kernel
theorem dX5_unlikeParts_19 : decode cX5_unlikeParts 19 = .ok (.iload 4, 2) := by decide +kernel
theorem dX5_unlikeParts_21 : decode cX5_unlikeParts 21 = .ok (.iload_n 2, 1) := by decide +kernel
theorem dX5_unlikeParts_22 : decode cX5_unlikeParts 22 = .ok (.iload_n 2, 1) := by decide +kernel
theorem dX5_unlikeParts_23 : decode cX5_unlikeParts 23 = .ok (.imul, 1) := by decide +kernel
theorem dX5_unlikeParts_24 : decode cX5_unlikeParts 24 = .ok (.if_icmp .ge 23, 3) := by decide +kernel
theorem dX5_unlikeParts_27 : decode cX5_unlikeParts 27 = .ok (.aload_n 0, 1) := by decide +kernel
theorem dX5_unlikeParts_28 : decode cX5_unlikeParts 28 = .ok (.iload 4, 2) := by decide +kernel
theorem dX5_unlikeParts_30 : decode cX5_unlikeParts 30 = .ok (.iload_n 2, 1) := by decide +kernel
theorem dX5_unlikeParts_31 : decode cX5_unlikeParts 31 = .ok (.iload_n 1, 1) := by decide +kernel
theorem dX5_unlikeParts_32 : decode cX5_unlikeParts 32 = .ok (.invokevirtual 75, 3) := by decide +kernel
theorem dX5_unlikeParts_35 : decode cX5_unlikeParts 35 = .ok (.ifCond .ne 6, 3) := by decide +kernel
theorem dX5_unlikeParts_38 : decode cX5_unlikeParts 38 = .ok (.iinc 3 1, 3) := by decide +kernel
theorem dX5_unlikeParts_41 : decode cX5_unlikeParts 41 = .ok (.iinc 4 1, 3) := by decide +kernel
theorem dX5_unlikeParts_44 : decode cX5_unlikeParts 44 = .ok (.goto (-25), 3) := by decide +kernel
theorem dX5_unlikeParts_47 : decode cX5_unlikeParts 47 = .ok (.iload_n 3, 1) := by decide +kernel
theorem dX5_unlikeParts_48 : decode cX5_unlikeParts 48 = .ok (.ireturn, 1) := by decide +kernel
theorem dX5_standsBefore_0 : decode cX5_standsBefore 0 = .ok (.iconst 0, 1) := by decide +kernel
theorem dX5_standsBefore_1 : decode cX5_standsBefore 1 = .ok (.istore 4, 2) := by decide +kernel
theorem dX5_standsBefore_3 : decode cX5_standsBefore 3 = .ok (.iload 4, 2) := by decide +kernel
theorem dX5_standsBefore_5 : decode cX5_standsBefore 5 = .ok (.iload_n 1, 1) := by decide +kernel
theorem dX5_standsBefore_6 : decode cX5_standsBefore 6 = .ok (.if_icmp .ge 40, 3) := by decide +kernel
theorem dX5_standsBefore_9 : decode cX5_standsBefore 9 = .ok (.iconst 0, 1) := by decide +kernel
theorem dX5_standsBefore_10 : decode cX5_standsBefore 10 = .ok (.istore 5, 2) := by decide +kernel
theorem dX5_standsBefore_12 : decode cX5_standsBefore 12 = .ok (.iload 5, 2) := by decide +kernel
theorem dX5_standsBefore_14 : decode cX5_standsBefore 14 = .ok (.iconst 4, 1) := by decide +kernel
theorem dX5_standsBefore_15 : decode cX5_standsBefore 15 = .ok (.if_icmp .ge 25, 3) := by decide +kernel
theorem dX5_standsBefore_18 : decode cX5_standsBefore 18 = .ok (.aload_n 0, 1) := by decide +kernel
theorem dX5_standsBefore_19 : decode cX5_standsBefore 19 = .ok (.iload_n 1, 1) := by decide +kernel
theorem dX5_standsBefore_20 : decode cX5_standsBefore 20 = .ok (.iload 4, 2) := by decide +kernel
theorem dX5_standsBefore_22 : decode cX5_standsBefore 22 = .ok (.iload_n 2, 1) := by decide +kernel
theorem dX5_standsBefore_23 : decode cX5_standsBefore 23 = .ok (.iload_n 3, 1) := by decide +kernel
theorem dX5_standsBefore_24 : decode cX5_standsBefore 24 = .ok (.iload 5, 2) := by decide +kernel
theorem dX5_standsBefore_26 : decode cX5_standsBefore 26 = .ok (.invokevirtual 79, 3) := by decide +kernel
theorem dX5_standsBefore_29 : decode cX5_standsBefore 29 = .ok (.ifCond .eq 5, 3) := by decide +kernel
theorem dX5_standsBefore_32 : decode cX5_standsBefore 32 = .ok (.iconst 1, 1) := by decide +kernel
theorem dX5_standsBefore_33 : decode cX5_standsBefore 33 = .ok (.ireturn, 1) := by decide +kernel
theorem dX5_standsBefore_34 : decode cX5_standsBefore 34 = .ok (.iinc 5 1, 3) := by decide +kernel
theorem dX5_standsBefore_37 : decode cX5_standsBefore 37 = .ok (.goto (-25), 3) := by decide +kernel
theorem dX5_standsBefore_40 : decode cX5_standsBefore 40 = .ok (.iinc 4 1, 3) := by decide +kernel
theorem dX5_standsBefore_43 : decode cX5_standsBefore 43 = .ok (.goto (-40), 3) := by decide +kernel
theorem dX5_standsBefore_46 : decode cX5_standsBefore 46 = .ok (.iconst 0, 1) := by decide +kernel
theorem dX5_standsBefore_47 : decode cX5_standsBefore 47 = .ok (.ireturn, 1) := by decide +kernel
theorem dX5_samePart_0 : decode cX5_samePart 0 = .ok (.iload_n 3, 1) := by decide +kernel
theorem dX5_samePart_1 : decode cX5_samePart 1 = .ok (.iconst 1, 1) := by decide +kernel
theorem dX5_samePart_2 : decode cX5_samePart 2 = .ok (.if_icmp .ge 5, 3) := by decide +kernel
theorem dX5_samePart_5 : decode cX5_samePart 5 = .ok (.iconst 0, 1) := by decide +kernel
theorem dX5_samePart_6 : decode cX5_samePart 6 = .ok (.ireturn, 1) := by decide +kernel
theorem dX5_samePart_7 : decode cX5_samePart 7 = .ok (.iload_n 1, 1) := by decide +kernel
theorem dX5_samePart_8 : decode cX5_samePart 8 = .ok (.iload_n 3, 1) := by decide +kernel
theorem dX5_samePart_9 : decode cX5_samePart 9 = .ok (.irem, 1) := by decide +kernel
theorem dX5_samePart_10 : decode cX5_samePart 10 = .ok (.iload 4, 2) := by decide +kernel
theorem dX5_samePart_12 : decode cX5_samePart 12 = .ok (.imul, 1) := by decide +kernel
theorem dX5_samePart_13 : decode cX5_samePart 13 = .ok (.istore 6, 2) := by decide +kernel
theorem dX5_samePart_15 : decode cX5_samePart 15 = .ok (.iload_n 1, 1) := by decide +kernel
theorem dX5_samePart_16 : decode cX5_samePart 16 = .ok (.iload_n 3, 1) := by decide +kernel
theorem dX5_samePart_17 : decode cX5_samePart 17 = .ok (.idiv, 1) := by decide +kernel
theorem dX5_samePart_18 : decode cX5_samePart 18 = .ok (.iload 4, 2) := by decide +kernel
theorem dX5_samePart_20 : decode cX5_samePart 20 = .ok (.imul, 1) := by decide +kernel
theorem dX5_samePart_21 : decode cX5_samePart 21 = .ok (.istore 7, 2) := by decide +kernel
theorem dX5_samePart_23 : decode cX5_samePart 23 = .ok (.iload_n 2, 1) := by decide +kernel
theorem dX5_samePart_24 : decode cX5_samePart 24 = .ok (.iload_n 3, 1) := by decide +kernel
theorem dX5_samePart_25 : decode cX5_samePart 25 = .ok (.irem, 1) := by decide +kernel
theorem dX5_samePart_26 : decode cX5_samePart 26 = .ok (.iload 4, 2) := by decide +kernel
theorem dX5_samePart_28 : decode cX5_samePart 28 = .ok (.imul, 1) := by decide +kernel
theorem dX5_samePart_29 : decode cX5_samePart 29 = .ok (.istore 8, 2) := by decide +kernel
theorem dX5_samePart_31 : decode cX5_samePart 31 = .ok (.iload_n 2, 1) := by decide +kernel
theorem dX5_samePart_32 : decode cX5_samePart 32 = .ok (.iload_n 3, 1) := by decide +kernel
theorem dX5_samePart_33 : decode cX5_samePart 33 = .ok (.idiv, 1) := by decide +kernel
theorem dX5_samePart_34 : decode cX5_samePart 34 = .ok (.iload 4, 2) := by decide +kernel
theorem dX5_samePart_36 : decode cX5_samePart 36 = .ok (.imul, 1) := by decide +kernel
theorem dX5_samePart_37 : decode cX5_samePart 37 = .ok (.istore 9, 2) := by decide +kernel
theorem dX5_samePart_39 : decode cX5_samePart 39 = .ok (.iconst 0, 1) := by decide +kernel
theorem dX5_samePart_40 : decode cX5_samePart 40 = .ok (.istore 10, 2) := by decide +kernel
theorem dX5_samePart_42 : decode cX5_samePart 42 = .ok (.iload 10, 2) := by decide +kernel
theorem dX5_samePart_44 : decode cX5_samePart 44 = .ok (.iload 4, 2) := by decide +kernel
theorem dX5_samePart_46 : decode cX5_samePart 46 = .ok (.if_icmp .ge 84, 3) := by decide +kernel
theorem dX5_samePart_49 : decode cX5_samePart 49 = .ok (.iconst 0, 1) := by decide +kernel
theorem dX5_samePart_50 : decode cX5_samePart 50 = .ok (.istore 11, 2) := by decide +kernel
theorem dX5_samePart_52 : decode cX5_samePart 52 = .ok (.iload 11, 2) := by decide +kernel
theorem dX5_samePart_54 : decode cX5_samePart 54 = .ok (.iload 4, 2) := by decide +kernel
theorem dX5_samePart_56 : decode cX5_samePart 56 = .ok (.if_icmp .ge 68, 3) := by decide +kernel
theorem dX5_samePart_59 : decode cX5_samePart 59 = .ok (.iload 11, 2) := by decide +kernel
theorem dX5_samePart_61 : decode cX5_samePart 61 = .ok (.iload 10, 2) := by decide +kernel
theorem dX5_samePart_63 : decode cX5_samePart 63 = .ok (.iload 5, 2) := by decide +kernel
theorem dX5_samePart_65 : decode cX5_samePart 65 = .ok (.iload 4, 2) := by decide +kernel
theorem dX5_samePart_67 : decode cX5_samePart 67 = .ok (.invokestatic 47, 3) := by decide +kernel
theorem dX5_samePart_70 : decode cX5_samePart 70 = .ok (.istore 12, 2) := by decide +kernel
theorem dX5_samePart_72 : decode cX5_samePart 72 = .ok (.iload 11, 2) := by decide +kernel
theorem dX5_samePart_74 : decode cX5_samePart 74 = .ok (.iload 10, 2) := by decide +kernel
theorem dX5_samePart_76 : decode cX5_samePart 76 = .ok (.iload 5, 2) := by decide +kernel
theorem dX5_samePart_78 : decode cX5_samePart 78 = .ok (.iload 4, 2) := by decide +kernel
theorem dX5_samePart_80 : decode cX5_samePart 80 = .ok (.invokestatic 51, 3) := by decide +kernel
theorem dX5_samePart_83 : decode cX5_samePart 83 = .ok (.istore 13, 2) := by decide +kernel
theorem dX5_samePart_85 : decode cX5_samePart 85 = .ok (.aload_n 0, 1) := by decide +kernel
theorem dX5_samePart_86 : decode cX5_samePart 86 = .ok (.iload 6, 2) := by decide +kernel
theorem dX5_samePart_88 : decode cX5_samePart 88 = .ok (.iload 11, 2) := by decide +kernel
theorem dX5_samePart_90 : decode cX5_samePart 90 = .ok (.iadd, 1) := by decide +kernel
theorem dX5_samePart_91 : decode cX5_samePart 91 = .ok (.iload 7, 2) := by decide +kernel
theorem dX5_samePart_93 : decode cX5_samePart 93 = .ok (.iload 10, 2) := by decide +kernel
theorem dX5_samePart_95 : decode cX5_samePart 95 = .ok (.iadd, 1) := by decide +kernel
theorem dX5_samePart_96 : decode cX5_samePart 96 = .ok (.invokevirtual 54, 3) := by decide +kernel
theorem dX5_samePart_99 : decode cX5_samePart 99 = .ok (.aload_n 0, 1) := by decide +kernel
theorem dX5_samePart_100 : decode cX5_samePart 100 = .ok (.iload 8, 2) := by decide +kernel
theorem dX5_samePart_102 : decode cX5_samePart 102 = .ok (.iload 12, 2) := by decide +kernel
theorem dX5_samePart_104 : decode cX5_samePart 104 = .ok (.iadd, 1) := by decide +kernel
theorem dX5_samePart_105 : decode cX5_samePart 105 = .ok (.iload 9, 2) := by decide +kernel
theorem dX5_samePart_107 : decode cX5_samePart 107 = .ok (.iload 13, 2) := by decide +kernel
theorem dX5_samePart_109 : decode cX5_samePart 109 = .ok (.iadd, 1) := by decide +kernel
theorem dX5_samePart_110 : decode cX5_samePart 110 = .ok (.invokevirtual 54, 3) := by decide +kernel
theorem dX5_samePart_113 : decode cX5_samePart 113 = .ok (.if_icmp .eq 5, 3) := by decide +kernel
theorem dX5_samePart_116 : decode cX5_samePart 116 = .ok (.iconst 0, 1) := by decide +kernel
theorem dX5_samePart_117 : decode cX5_samePart 117 = .ok (.ireturn, 1) := by decide +kernel
theorem dX5_samePart_118 : decode cX5_samePart 118 = .ok (.iinc 11 1, 3) := by decide +kernel
theorem dX5_samePart_121 : decode cX5_samePart 121 = .ok (.goto (-69), 3) := by decide +kernel
theorem dX5_samePart_124 : decode cX5_samePart 124 = .ok (.iinc 10 1, 3) := by decide +kernel
theorem dX5_samePart_127 : decode cX5_samePart 127 = .ok (.goto (-85), 3) := by decide +kernel
theorem dX5_samePart_130 : decode cX5_samePart 130 = .ok (.iconst 1, 1) := by decide +kernel
theorem dX5_samePart_131 : decode cX5_samePart 131 = .ok (.ireturn, 1) := by decide +kernel
theorem dX6_init_0 : decode cX6_init 0 = .ok (.aload_n 0, 1) := by decide +kernel
theorem dX6_init_1 : decode cX6_init 1 = .ok (.invokespecial 3, 3) := by decide +kernel
theorem dX6_init_4 : decode cX6_init 4 = .ok (.aload_n 0, 1) := by decide +kernel
theorem dX6_init_5 : decode cX6_init 5 = .ok (.sipush 511, 3) := by decide +kernel
theorem dX6_init_8 : decode cX6_init 8 = .ok (.putfield 9, 3) := by decide +kernel
theorem dX6_init_11 : decode cX6_init 11 = .ok (.aload_n 0, 1) := by decide +kernel
theorem dX6_init_12 : decode cX6_init 12 = .ok (.sipush 511, 3) := by decide +kernel
theorem dX6_init_15 : decode cX6_init 15 = .ok (.putfield 15, 3) := by decide +kernel
theorem dX6_init_18 : decode cX6_init 18 = .ok (.aload_n 0, 1) := by decide +kernel
theorem dX6_init_19 : decode cX6_init 19 = .ok (.iconst 0, 1) := by decide +kernel
theorem dX6_init_20 : decode cX6_init 20 = .ok (.putfield 18, 3) := by decide +kernel
theorem dX6_init_23 : decode cX6_init 23 = .ok (.aload_n 0, 1) := by decide +kernel
theorem dX6_init_24 : decode cX6_init 24 = .ok (.iconst 0, 1) := by decide +kernel
theorem dX6_init_25 : decode cX6_init 25 = .ok (.putfield 21, 3) := by decide +kernel
theorem dX6_init_28 : decode cX6_init 28 = .ok (.aload_n 0, 1) := by decide +kernel
theorem dX6_init_29 : decode cX6_init 29 = .ok (.iconst 0, 1) := by decide +kernel
theorem dX6_init_30 : decode cX6_init 30 = .ok (.putfield 25, 3) := by decide +kernel
theorem dX6_init_33 : decode cX6_init 33 = .ok (.aload_n 0, 1) := by decide +kernel
theorem dX6_init_34 : decode cX6_init 34 = .ok (.iconst 0, 1) := by decide +kernel
theorem dX6_init_35 : decode cX6_init 35 = .ok (.putfield 28, 3) := by decide +kernel
theorem dX6_init_38 : decode cX6_init 38 = .ok (.aload_n 0, 1) := by decide +kernel
theorem dX6_init_39 : decode cX6_init 39 = .ok (.iconst 0, 1) := by decide +kernel
theorem dX6_init_40 : decode cX6_init 40 = .ok (.putfield 31, 3) := by decide +kernel
theorem dX6_init_43 : decode cX6_init 43 = .ok (.return_, 1) := by decide +kernel
theorem dX6_casesLeft_0 : decode cX6_casesLeft 0 = .ok (.aload_n 0, 1) := by decide +kernel
theorem dX6_casesLeft_1 : decode cX6_casesLeft 1 = .ok (.getfield 9, 3) := by decide +kernel
theorem dX6_casesLeft_4 : decode cX6_casesLeft 4 = .ok (.invokestatic 34, 3) := by decide +kernel
theorem dX6_casesLeft_7 : decode cX6_casesLeft 7 = .ok (.aload_n 0, 1) := by decide +kernel
theorem dX6_casesLeft_8 : decode cX6_casesLeft 8 = .ok (.getfield 15, 3) := by decide +kernel
theorem dX6_casesLeft_11 : decode cX6_casesLeft 11 = .ok (.invokestatic 34, 3) := by decide +kernel
theorem dX6_casesLeft_14 : decode cX6_casesLeft 14 = .ok (.iadd, 1) := by decide +kernel
theorem dX6_casesLeft_15 : decode cX6_casesLeft 15 = .ok (.ireturn, 1) := by decide +kernel
theorem dX6_forget_0 : decode cX6_forget 0 = .ok (.aload_n 0, 1) := by decide +kernel
theorem dX6_forget_1 : decode cX6_forget 1 = .ok (.getfield 18, 3) := by decide +kernel
theorem dX6_forget_4 : decode cX6_forget 4 = .ok (.istore_n 1, 1) := by decide +kernel
theorem dX6_forget_5 : decode cX6_forget 5 = .ok (.aload_n 0, 1) := by decide +kernel
theorem dX6_forget_6 : decode cX6_forget 6 = .ok (.iconst 0, 1) := by decide +kernel
theorem dX6_forget_7 : decode cX6_forget 7 = .ok (.putfield 18, 3) := by decide +kernel
theorem dX6_forget_10 : decode cX6_forget 10 = .ok (.aload_n 0, 1) := by decide +kernel
theorem dX6_forget_11 : decode cX6_forget 11 = .ok (.sipush 511, 3) := by decide +kernel
theorem dX6_forget_14 : decode cX6_forget 14 = .ok (.putfield 9, 3) := by decide +kernel
theorem dX6_forget_17 : decode cX6_forget 17 = .ok (.aload_n 0, 1) := by decide +kernel
theorem dX6_forget_18 : decode cX6_forget 18 = .ok (.sipush 511, 3) := by decide +kernel
theorem dX6_forget_21 : decode cX6_forget 21 = .ok (.putfield 15, 3) := by decide +kernel
theorem dX6_forget_24 : decode cX6_forget 24 = .ok (.aload_n 0, 1) := by decide +kernel
theorem dX6_forget_25 : decode cX6_forget 25 = .ok (.iconst 0, 1) := by decide +kernel
theorem dX6_forget_26 : decode cX6_forget 26 = .ok (.putfield 21, 3) := by decide +kernel
theorem dX6_forget_29 : decode cX6_forget 29 = .ok (.iload_n 1, 1) := by decide +kernel
theorem dX6_forget_30 : decode cX6_forget 30 = .ok (.ireturn, 1) := by decide +kernel
theorem dX6_tell_0 : decode cX6_tell 0 = .ok (.sipush 511, 3) := by decide +kernel
theorem dX6_tell_3 : decode cX6_tell 3 = .ok (.iload_n 1, 1) := by decide +kernel
theorem dX6_tell_4 : decode cX6_tell 4 = .ok (.iload_n 2, 1) := by decide +kernel
theorem dX6_tell_5 : decode cX6_tell 5 = .ok (.ior, 1) := by decide +kernel
theorem dX6_tell_6 : decode cX6_tell 6 = .ok (.iconst (-1), 1) := by decide +kernel
theorem dX6_tell_7 : decode cX6_tell 7 = .ok (.ixor, 1) := by decide +kernel
theorem dX6_tell_8 : decode cX6_tell 8 = .ok (.iand, 1) := by decide +kernel
theorem dX6_tell_9 : decode cX6_tell 9 = .ok (.istore 4, 2) := by decide +kernel
theorem dX6_tell_11 : decode cX6_tell 11 = .ok (.aload_n 0, 1) := by decide +kernel
theorem dX6_tell_12 : decode cX6_tell 12 = .ok (.dup, 1) := by decide +kernel
theorem dX6_tell_13 : decode cX6_tell 13 = .ok (.getfield 9, 3) := by decide +kernel
theorem dX6_tell_16 : decode cX6_tell 16 = .ok (.iload_n 3, 1) := by decide +kernel
theorem dX6_tell_17 : decode cX6_tell 17 = .ok (.ifCond .ne 8, 3) := by decide +kernel
theorem dX6_tell_20 : decode cX6_tell 20 = .ok (.iload 4, 2) := by decide +kernel
theorem dX6_tell_22 : decode cX6_tell 22 = .ok (.goto 12, 3) := by decide +kernel
theorem dX6_tell_25 : decode cX6_tell 25 = .ok (.iload_n 3, 1) := by decide +kernel
theorem dX6_tell_26 : decode cX6_tell 26 = .ok (.ifCond .le 7, 3) := by decide +kernel
theorem dX6_tell_29 : decode cX6_tell 29 = .ok (.iload_n 1, 1) := by decide +kernel
theorem dX6_tell_30 : decode cX6_tell 30 = .ok (.goto 4, 3) := by decide +kernel
theorem dX6_tell_33 : decode cX6_tell 33 = .ok (.iload_n 2, 1) := by decide +kernel
theorem dX6_tell_34 : decode cX6_tell 34 = .ok (.iand, 1) := by decide +kernel
theorem dX6_tell_35 : decode cX6_tell 35 = .ok (.putfield 9, 3) := by decide +kernel
theorem dX6_tell_38 : decode cX6_tell 38 = .ok (.aload_n 0, 1) := by decide +kernel
theorem dX6_tell_39 : decode cX6_tell 39 = .ok (.dup, 1) := by decide +kernel
theorem dX6_tell_40 : decode cX6_tell 40 = .ok (.getfield 15, 3) := by decide +kernel
theorem dX6_tell_43 : decode cX6_tell 43 = .ok (.iload_n 3, 1) := by decide +kernel
theorem dX6_tell_44 : decode cX6_tell 44 = .ok (.ifCond .ne 8, 3) := by decide +kernel
theorem dX6_tell_47 : decode cX6_tell 47 = .ok (.iload 4, 2) := by decide +kernel
theorem dX6_tell_49 : decode cX6_tell 49 = .ok (.goto 12, 3) := by decide +kernel
theorem dX6_tell_52 : decode cX6_tell 52 = .ok (.iload_n 3, 1) := by decide +kernel
theorem dX6_tell_53 : decode cX6_tell 53 = .ok (.ifCond .le 7, 3) := by decide +kernel
theorem dX6_tell_56 : decode cX6_tell 56 = .ok (.iload_n 2, 1) := by decide +kernel
theorem dX6_tell_57 : decode cX6_tell 57 = .ok (.goto 4, 3) := by decide +kernel
theorem dX6_tell_60 : decode cX6_tell 60 = .ok (.iload_n 1, 1) := by decide +kernel
theorem dX6_tell_61 : decode cX6_tell 61 = .ok (.iand, 1) := by decide +kernel
theorem dX6_tell_62 : decode cX6_tell 62 = .ok (.putfield 15, 3) := by decide +kernel
theorem dX6_tell_65 : decode cX6_tell 65 = .ok (.aload_n 0, 1) := by decide +kernel
theorem dX6_tell_66 : decode cX6_tell 66 = .ok (.dup, 1) := by decide +kernel
theorem dX6_tell_67 : decode cX6_tell 67 = .ok (.getfield 18, 3) := by decide +kernel
theorem dX6_tell_70 : decode cX6_tell 70 = .ok (.iconst 1, 1) := by decide +kernel
theorem dX6_tell_71 : decode cX6_tell 71 = .ok (.iadd, 1) := by decide +kernel
theorem dX6_tell_72 : decode cX6_tell 72 = .ok (.putfield 18, 3) := by decide +kernel
theorem dX6_tell_75 : decode cX6_tell 75 = .ok (.aload_n 0, 1) := by decide +kernel
theorem dX6_tell_76 : decode cX6_tell 76 = .ok (.iconst 0, 1) := by decide +kernel
theorem dX6_tell_77 : decode cX6_tell 77 = .ok (.putfield 21, 3) := by decide +kernel
theorem dX6_tell_80 : decode cX6_tell 80 = .ok (.aload_n 0, 1) := by decide +kernel
theorem dX6_tell_81 : decode cX6_tell 81 = .ok (.invokevirtual 40, 3) := by decide +kernel
theorem dX6_tell_84 : decode cX6_tell 84 = .ok (.ireturn, 1) := by decide +kernel
theorem dX6_findBest_0 : decode cX6_findBest 0 = .ok (.aload_n 0, 1) := by decide +kernel
theorem dX6_findBest_1 : decode cX6_findBest 1 = .ok (.getfield 21, 3) := by decide +kernel
theorem dX6_findBest_4 : decode cX6_findBest 4 = .ok (.ifCond .eq 4, 3) := by decide +kernel
theorem dX6_findBest_7 : decode cX6_findBest 7 = .ok (.return_, 1) := by decide +kernel
theorem dX6_findBest_8 : decode cX6_findBest 8 = .ok (.aload_n 0, 1) := by decide +kernel
theorem dX6_findBest_9 : decode cX6_findBest 9 = .ok (.aload_n 0, 1) := by decide +kernel
theorem dX6_findBest_10 : decode cX6_findBest 10 = .ok (.invokevirtual 40, 3) := by decide +kernel
theorem dX6_findBest_13 : decode cX6_findBest 13 = .ok (.iconst 1, 1) := by decide +kernel
theorem dX6_findBest_14 : decode cX6_findBest 14 = .ok (.iadd, 1) := by decide +kernel
theorem dX6_findBest_15 : decode cX6_findBest 15 = .ok (.putfield 31, 3) := by decide +kernel
theorem dX6_findBest_18 : decode cX6_findBest 18 = .ok (.iconst 1, 1) := by decide +kernel
theorem dX6_findBest_19 : decode cX6_findBest 19 = .ok (.istore_n 1, 1) := by decide +kernel
theorem dX6_findBest_20 : decode cX6_findBest 20 = .ok (.iload_n 1, 1) := by decide +kernel
theorem dX6_findBest_21 : decode cX6_findBest 21 = .ok (.iconst 4, 1) := by decide +kernel
theorem dX6_findBest_22 : decode cX6_findBest 22 = .ok (.if_icmp .gt 38, 3) := by decide +kernel
theorem dX6_findBest_25 : decode cX6_findBest 25 = .ok (.iconst 1, 1) := by decide +kernel
theorem dX6_findBest_26 : decode cX6_findBest 26 = .ok (.istore_n 2, 1) := by decide +kernel
theorem dX6_findBest_27 : decode cX6_findBest 27 = .ok (.iload_n 2, 1) := by decide +kernel
theorem dX6_findBest_28 : decode cX6_findBest 28 = .ok (.sipush 511, 3) := by decide +kernel
theorem dX6_findBest_31 : decode cX6_findBest 31 = .ok (.if_icmp .gt 23, 3) := by decide +kernel
theorem dX6_findBest_34 : decode cX6_findBest 34 = .ok (.iload_n 2, 1) := by decide +kernel
theorem dX6_findBest_35 : decode cX6_findBest 35 = .ok (.invokestatic 34, 3) := by decide +kernel
theorem dX6_findBest_38 : decode cX6_findBest 38 = .ok (.iload_n 1, 1) := by decide +kernel
theorem dX6_findBest_39 : decode cX6_findBest 39 = .ok (.if_icmp .ne 9, 3) := by decide +kernel
theorem dX6_findBest_42 : decode cX6_findBest 42 = .ok (.aload_n 0, 1) := by decide +kernel
theorem dX6_findBest_43 : decode cX6_findBest 43 = .ok (.iload_n 2, 1) := by decide +kernel
theorem dX6_findBest_44 : decode cX6_findBest 44 = .ok (.iload_n 1, 1) := by decide +kernel
theorem dX6_findBest_45 : decode cX6_findBest 45 = .ok (.invokevirtual 44, 3) := by decide +kernel
theorem dX6_findBest_48 : decode cX6_findBest 48 = .ok (.iinc 2 1, 3) := by decide +kernel
theorem dX6_findBest_51 : decode cX6_findBest 51 = .ok (.goto (-24), 3) := by decide +kernel
theorem dX6_findBest_54 : decode cX6_findBest 54 = .ok (.iinc 1 1, 3) := by decide +kernel
theorem dX6_findBest_57 : decode cX6_findBest 57 = .ok (.goto (-37), 3) := by decide +kernel
theorem dX6_findBest_60 : decode cX6_findBest 60 = .ok (.aload_n 0, 1) := by decide +kernel
theorem dX6_findBest_61 : decode cX6_findBest 61 = .ok (.iconst 1, 1) := by decide +kernel
theorem dX6_findBest_62 : decode cX6_findBest 62 = .ok (.putfield 21, 3) := by decide +kernel
theorem dX6_findBest_65 : decode cX6_findBest 65 = .ok (.return_, 1) := by decide +kernel
theorem dX6_tryRights_0 : decode cX6_tryRights 0 = .ok (.sipush 511, 3) := by decide +kernel
theorem dX6_tryRights_3 : decode cX6_tryRights 3 = .ok (.iload_n 1, 1) := by decide +kernel
theorem dX6_tryRights_4 : decode cX6_tryRights 4 = .ok (.iconst (-1), 1) := by decide +kernel
theorem dX6_tryRights_5 : decode cX6_tryRights 5 = .ok (.ixor, 1) := by decide +kernel
theorem dX6_tryRights_6 : decode cX6_tryRights 6 = .ok (.iand, 1) := by decide +kernel
theorem dX6_tryRights_7 : decode cX6_tryRights 7 = .ok (.istore_n 3, 1) := by decide +kernel
theorem dX6_tryRights_8 : decode cX6_tryRights 8 = .ok (.iload_n 3, 1) := by decide +kernel
theorem dX6_tryRights_9 : decode cX6_tryRights 9 = .ok (.istore 4, 2) := by decide +kernel
theorem dX6_tryRights_11 : decode cX6_tryRights 11 = .ok (.iload 4, 2) := by decide +kernel
theorem dX6_tryRights_13 : decode cX6_tryRights 13 = .ok (.ifCond .le 75, 3) := by decide +kernel
theorem dX6_tryRights_16 : decode cX6_tryRights 16 = .ok (.iload 4, 2) := by decide +kernel
theorem dX6_tryRights_18 : decode cX6_tryRights 18 = .ok (.invokestatic 34, 3) := by decide +kernel
theorem dX6_tryRights_21 : decode cX6_tryRights 21 = .ok (.iload_n 2, 1) := by decide +kernel
theorem dX6_tryRights_22 : decode cX6_tryRights 22 = .ok (.if_icmp .ne 55, 3) := by decide +kernel
theorem dX6_tryRights_25 : decode cX6_tryRights 25 = .ok (.aload_n 0, 1) := by decide +kernel
theorem dX6_tryRights_26 : decode cX6_tryRights 26 = .ok (.iload_n 1, 1) := by decide +kernel
theorem dX6_tryRights_27 : decode cX6_tryRights 27 = .ok (.iload 4, 2) := by decide +kernel
theorem dX6_tryRights_29 : decode cX6_tryRights 29 = .ok (.invokevirtual 48, 3) := by decide +kernel
theorem dX6_tryRights_32 : decode cX6_tryRights 32 = .ok (.istore 5, 2) := by decide +kernel
theorem dX6_tryRights_34 : decode cX6_tryRights 34 = .ok (.iload 5, 2) := by decide +kernel
theorem dX6_tryRights_36 : decode cX6_tryRights 36 = .ok (.aload_n 0, 1) := by decide +kernel
theorem dX6_tryRights_37 : decode cX6_tryRights 37 = .ok (.getfield 31, 3) := by decide +kernel
theorem dX6_tryRights_40 : decode cX6_tryRights 40 = .ok (.if_icmp .lt 20, 3) := by decide +kernel
theorem dX6_tryRights_43 : decode cX6_tryRights 43 = .ok (.iload 5, 2) := by decide +kernel
theorem dX6_tryRights_45 : decode cX6_tryRights 45 = .ok (.aload_n 0, 1) := by decide +kernel
theorem dX6_tryRights_46 : decode cX6_tryRights 46 = .ok (.getfield 31, 3) := by decide +kernel
theorem dX6_tryRights_49 : decode cX6_tryRights 49 = .ok (.if_icmp .ne 28, 3) := by decide +kernel
theorem dX6_tryRights_52 : decode cX6_tryRights 52 = .ok (.iload_n 1, 1) := by decide +kernel
theorem dX6_tryRights_53 : decode cX6_tryRights 53 = .ok (.aload_n 0, 1) := by decide +kernel
theorem dX6_tryRights_54 : decode cX6_tryRights 54 = .ok (.getfield 25, 3) := by decide +kernel
theorem dX6_tryRights_57 : decode cX6_tryRights 57 = .ok (.if_icmp .ne 20, 3) := by decide +kernel
theorem dX6_tryRights_60 : decode cX6_tryRights 60 = .ok (.aload_n 0, 1) := by decide +kernel
theorem dX6_tryRights_61 : decode cX6_tryRights 61 = .ok (.iload 5, 2) := by decide +kernel
theorem dX6_tryRights_63 : decode cX6_tryRights 63 = .ok (.putfield 31, 3) := by decide +kernel
theorem dX6_tryRights_66 : decode cX6_tryRights 66 = .ok (.aload_n 0, 1) := by decide +kernel
theorem dX6_tryRights_67 : decode cX6_tryRights 67 = .ok (.iload_n 1, 1) := by decide +kernel
theorem dX6_tryRights_68 : decode cX6_tryRights 68 = .ok (.putfield 25, 3) := by decide +kernel
theorem dX6_tryRights_71 : decode cX6_tryRights 71 = .ok (.aload_n 0, 1) := by decide +kernel
theorem dX6_tryRights_72 : decode cX6_tryRights 72 = .ok (.iload 4, 2) := by decide +kernel
theorem dX6_tryRights_74 : decode cX6_tryRights 74 = .ok (.putfield 28, 3) := by decide +kernel
theorem dX6_tryRights_77 : decode cX6_tryRights 77 = .ok (.iload 4, 2) := by decide +kernel
theorem dX6_tryRights_79 : decode cX6_tryRights 79 = .ok (.iconst 1, 1) := by decide +kernel
theorem dX6_tryRights_80 : decode cX6_tryRights 80 = .ok (.isub, 1) := by decide +kernel
theorem dX6_tryRights_81 : decode cX6_tryRights 81 = .ok (.iload_n 3, 1) := by decide +kernel
theorem dX6_tryRights_82 : decode cX6_tryRights 82 = .ok (.iand, 1) := by decide +kernel
theorem dX6_tryRights_83 : decode cX6_tryRights 83 = .ok (.istore 4, 2) := by decide +kernel
theorem dX6_tryRights_85 : decode cX6_tryRights 85 = .ok (.goto (-74), 3) := by decide +kernel
theorem dX6_tryRights_88 : decode cX6_tryRights 88 = .ok (.return_, 1) := by decide +kernel
theorem dX6_worstOutcome_0 : decode cX6_worstOutcome 0 = .ok (.aload_n 0, 1) := by decide +kernel
theorem dX6_worstOutcome_1 : decode cX6_worstOutcome 1 = .ok (.getfield 9, 3) := by decide +kernel
theorem dX6_worstOutcome_4 : decode cX6_worstOutcome 4 = .ok (.iload_n 1, 1) := by decide +kernel
theorem dX6_worstOutcome_5 : decode cX6_worstOutcome 5 = .ok (.iand, 1) := by decide +kernel
theorem dX6_worstOutcome_6 : decode cX6_worstOutcome 6 = .ok (.invokestatic 34, 3) := by decide +kernel
theorem dX6_worstOutcome_9 : decode cX6_worstOutcome 9 = .ok (.aload_n 0, 1) := by decide +kernel
theorem dX6_worstOutcome_10 : decode cX6_worstOutcome 10 = .ok (.getfield 15, 3) := by decide +kernel
theorem dX6_worstOutcome_13 : decode cX6_worstOutcome 13 = .ok (.iload_n 2, 1) := by decide +kernel
theorem dX6_worstOutcome_14 : decode cX6_worstOutcome 14 = .ok (.iand, 1) := by decide +kernel
theorem dX6_worstOutcome_15 : decode cX6_worstOutcome 15 = .ok (.invokestatic 34, 3) := by decide +kernel
theorem dX6_worstOutcome_18 : decode cX6_worstOutcome 18 = .ok (.iadd, 1) := by decide +kernel
theorem dX6_worstOutcome_19 : decode cX6_worstOutcome 19 = .ok (.istore_n 3, 1) := by decide +kernel
theorem dX6_worstOutcome_20 : decode cX6_worstOutcome 20 = .ok (.aload_n 0, 1) := by decide +kernel
theorem dX6_worstOutcome_21 : decode cX6_worstOutcome 21 = .ok (.getfield 9, 3) := by decide +kernel
theorem dX6_worstOutcome_24 : decode cX6_worstOutcome 24 = .ok (.iload_n 2, 1) := by decide +kernel
theorem dX6_worstOutcome_25 : decode cX6_worstOutcome 25 = .ok (.iand, 1) := by decide +kernel
theorem dX6_worstOutcome_26 : decode cX6_worstOutcome 26 = .ok (.invokestatic 34, 3) := by decide +kernel
theorem dX6_worstOutcome_29 : decode cX6_worstOutcome 29 = .ok (.aload_n 0, 1) := by decide +kernel
theorem dX6_worstOutcome_30 : decode cX6_worstOutcome 30 = .ok (.getfield 15, 3) := by decide +kernel
theorem dX6_worstOutcome_33 : decode cX6_worstOutcome 33 = .ok (.iload_n 1, 1) := by decide +kernel
theorem dX6_worstOutcome_34 : decode cX6_worstOutcome 34 = .ok (.iand, 1) := by decide +kernel
theorem dX6_worstOutcome_35 : decode cX6_worstOutcome 35 = .ok (.invokestatic 34, 3) := by decide +kernel
theorem dX6_worstOutcome_38 : decode cX6_worstOutcome 38 = .ok (.iadd, 1) := by decide +kernel
theorem dX6_worstOutcome_39 : decode cX6_worstOutcome 39 = .ok (.istore 4, 2) := by decide +kernel
theorem dX6_worstOutcome_41 : decode cX6_worstOutcome 41 = .ok (.iload_n 3, 1) := by decide +kernel
theorem dX6_worstOutcome_42 : decode cX6_worstOutcome 42 = .ok (.iload 4, 2) := by decide +kernel
theorem dX6_worstOutcome_44 : decode cX6_worstOutcome 44 = .ok (.invokestatic 52, 3) := by decide +kernel
theorem dX6_worstOutcome_47 : decode cX6_worstOutcome 47 = .ok (.aload_n 0, 1) := by decide +kernel
theorem dX6_worstOutcome_48 : decode cX6_worstOutcome 48 = .ok (.invokevirtual 40, 3) := by decide +kernel
theorem dX6_worstOutcome_51 : decode cX6_worstOutcome 51 = .ok (.iload_n 3, 1) := by decide +kernel
theorem dX6_worstOutcome_52 : decode cX6_worstOutcome 52 = .ok (.isub, 1) := by decide +kernel
theorem dX6_worstOutcome_53 : decode cX6_worstOutcome 53 = .ok (.iload 4, 2) := by decide +kernel
theorem dX6_worstOutcome_55 : decode cX6_worstOutcome 55 = .ok (.isub, 1) := by decide +kernel
theorem dX6_worstOutcome_56 : decode cX6_worstOutcome 56 = .ok (.invokestatic 52, 3) := by decide +kernel
theorem dX6_worstOutcome_59 : decode cX6_worstOutcome 59 = .ok (.ireturn, 1) := by decide +kernel
theorem dX7_init_0 : decode cX7_init 0 = .ok (.aload_n 0, 1) := by decide +kernel
theorem dX7_init_1 : decode cX7_init 1 = .ok (.invokespecial 3, 3) := by decide +kernel
theorem dX7_init_4 : decode cX7_init 4 = .ok (.aload_n 0, 1) := by decide +kernel
theorem dX7_init_5 : decode cX7_init 5 = .ok (.bipush 16, 2) := by decide +kernel
theorem dX7_init_7 : decode cX7_init 7 = .ok (.newarray .int, 2) := by decide +kernel
theorem dX7_init_9 : decode cX7_init 9 = .ok (.putfield 9, 3) := by decide +kernel
theorem dX7_init_12 : decode cX7_init 12 = .ok (.aload_n 0, 1) := by decide +kernel
theorem dX7_init_13 : decode cX7_init 13 = .ok (.bipush 16, 2) := by decide +kernel
theorem dX7_init_15 : decode cX7_init 15 = .ok (.newarray .int, 2) := by decide +kernel
theorem dX7_init_17 : decode cX7_init 17 = .ok (.putfield 15, 3) := by decide +kernel
theorem dX7_init_20 : decode cX7_init 20 = .ok (.aload_n 0, 1) := by decide +kernel
theorem dX7_init_21 : decode cX7_init 21 = .ok (.iconst 2, 1) := by decide +kernel
theorem dX7_init_22 : decode cX7_init 22 = .ok (.putfield 18, 3) := by decide +kernel
theorem dX7_init_25 : decode cX7_init 25 = .ok (.aload_n 0, 1) := by decide +kernel
theorem dX7_init_26 : decode cX7_init 26 = .ok (.getfield 9, 3) := by decide +kernel
theorem dX7_init_29 : decode cX7_init 29 = .ok (.bipush (-9), 2) := by decide +kernel
theorem dX7_init_31 : decode cX7_init 31 = .ok (.invokestatic 22, 3) := by decide +kernel
theorem dX7_init_34 : decode cX7_init 34 = .ok (.return_, 1) := by decide +kernel
theorem dX7_empty_0 : decode cX7_empty 0 = .ok (.aload_n 0, 1) := by decide +kernel
theorem dX7_empty_1 : decode cX7_empty 1 = .ok (.iconst 2, 1) := by decide +kernel
theorem dX7_empty_2 : decode cX7_empty 2 = .ok (.iload_n 1, 1) := by decide +kernel
theorem dX7_empty_3 : decode cX7_empty 3 = .ok (.iconst 4, 1) := by decide +kernel
theorem dX7_empty_4 : decode cX7_empty 4 = .ok (.invokestatic 28, 3) := by decide +kernel
theorem dX7_empty_7 : decode cX7_empty 7 = .ok (.invokestatic 34, 3) := by decide +kernel
theorem dX7_empty_10 : decode cX7_empty 10 = .ok (.putfield 18, 3) := by decide +kernel
theorem dX7_empty_13 : decode cX7_empty 13 = .ok (.aload_n 0, 1) := by decide +kernel
theorem dX7_empty_14 : decode cX7_empty 14 = .ok (.getfield 9, 3) := by decide +kernel
theorem dX7_empty_17 : decode cX7_empty 17 = .ok (.bipush (-9), 2) := by decide +kernel
theorem dX7_empty_19 : decode cX7_empty 19 = .ok (.invokestatic 22, 3) := by decide +kernel
theorem dX7_empty_22 : decode cX7_empty 22 = .ok (.aload_n 0, 1) := by decide +kernel
theorem dX7_empty_23 : decode cX7_empty 23 = .ok (.getfield 15, 3) := by decide +kernel
theorem dX7_empty_26 : decode cX7_empty 26 = .ok (.iconst 0, 1) := by decide +kernel
theorem dX7_empty_27 : decode cX7_empty 27 = .ok (.invokestatic 22, 3) := by decide +kernel
theorem dX7_empty_30 : decode cX7_empty 30 = .ok (.return_, 1) := by decide +kernel
theorem dX7_has_0 : decode cX7_has 0 = .ok (.iload_n 1, 1) := by decide +kernel
theorem dX7_has_1 : decode cX7_has 1 = .ok (.ifCond .lt 27, 3) := by decide +kernel
theorem dX7_has_4 : decode cX7_has 4 = .ok (.iload_n 1, 1) := by decide +kernel
theorem dX7_has_5 : decode cX7_has 5 = .ok (.aload_n 0, 1) := by decide +kernel
theorem dX7_has_6 : decode cX7_has 6 = .ok (.getfield 18, 3) := by decide +kernel
theorem dX7_has_9 : decode cX7_has 9 = .ok (.if_icmp .ge 19, 3) := by decide +kernel
theorem dX7_has_12 : decode cX7_has 12 = .ok (.iload_n 2, 1) := by decide +kernel
theorem dX7_has_13 : decode cX7_has 13 = .ok (.ifCond .lt 15, 3) := by decide +kernel
theorem dX7_has_16 : decode cX7_has 16 = .ok (.iload_n 2, 1) := by decide +kernel
theorem dX7_has_17 : decode cX7_has 17 = .ok (.aload_n 0, 1) := by decide +kernel
theorem dX7_has_18 : decode cX7_has 18 = .ok (.getfield 18, 3) := by decide +kernel
theorem dX7_has_21 : decode cX7_has 21 = .ok (.if_icmp .ge 7, 3) := by decide +kernel
theorem dX7_has_24 : decode cX7_has 24 = .ok (.iconst 1, 1) := by decide +kernel
theorem dX7_has_25 : decode cX7_has 25 = .ok (.goto 4, 3) := by decide +kernel
theorem dX7_has_28 : decode cX7_has 28 = .ok (.iconst 0, 1) := by decide +kernel
theorem dX7_has_29 : decode cX7_has 29 = .ok (.ireturn, 1) := by decide +kernel
theorem dX7_caneAt_0 : decode cX7_caneAt 0 = .ok (.aload_n 0, 1) := by decide +kernel
theorem dX7_caneAt_1 : decode cX7_caneAt 1 = .ok (.iload_n 1, 1) := by decide +kernel
theorem dX7_caneAt_2 : decode cX7_caneAt 2 = .ok (.iload_n 2, 1) := by decide +kernel
theorem dX7_caneAt_3 : decode cX7_caneAt 3 = .ok (.invokevirtual 37, 3) := by decide +kernel
theorem dX7_caneAt_6 : decode cX7_caneAt 6 = .ok (.ifCond .eq 16, 3) := by decide +kernel
theorem dX7_caneAt_9 : decode cX7_caneAt 9 = .ok (.aload_n 0, 1) := by decide +kernel
theorem dX7_caneAt_10 : decode cX7_caneAt 10 = .ok (.getfield 9, 3) := by decide +kernel
theorem dX7_caneAt_13 : decode cX7_caneAt 13 = .ok (.iload_n 2, 1) := by decide +kernel
theorem dX7_caneAt_14 : decode cX7_caneAt 14 = .ok (.iconst 4, 1) := by decide +kernel
theorem dX7_caneAt_15 : decode cX7_caneAt 15 = .ok (.imul, 1) := by decide +kernel
theorem dX7_caneAt_16 : decode cX7_caneAt 16 = .ok (.iload_n 1, 1) := by decide +kernel
theorem dX7_caneAt_17 : decode cX7_caneAt 17 = .ok (.iadd, 1) := by decide +kernel
theorem dX7_caneAt_18 : decode cX7_caneAt 18 = .ok (.iaload, 1) := by decide +kernel
theorem dX7_caneAt_19 : decode cX7_caneAt 19 = .ok (.goto 5, 3) := by decide +kernel
theorem dX7_caneAt_22 : decode cX7_caneAt 22 = .ok (.bipush (-9), 2) := by decide +kernel
theorem dX7_caneAt_24 : decode cX7_caneAt 24 = .ok (.ireturn, 1) := by decide +kernel
theorem dX7_turnAt_0 : decode cX7_turnAt 0 = .ok (.aload_n 0, 1) := by decide +kernel
theorem dX7_turnAt_1 : decode cX7_turnAt 1 = .ok (.iload_n 1, 1) := by decide +kernel
theorem dX7_turnAt_2 : decode cX7_turnAt 2 = .ok (.iload_n 2, 1) := by decide +kernel
theorem dX7_turnAt_3 : decode cX7_turnAt 3 = .ok (.invokevirtual 37, 3) := by decide +kernel
theorem dX7_turnAt_6 : decode cX7_turnAt 6 = .ok (.ifCond .eq 16, 3) := by decide +kernel
theorem dX7_turnAt_9 : decode cX7_turnAt 9 = .ok (.aload_n 0, 1) := by decide +kernel
theorem dX7_turnAt_10 : decode cX7_turnAt 10 = .ok (.getfield 15, 3) := by decide +kernel
theorem dX7_turnAt_13 : decode cX7_turnAt 13 = .ok (.iload_n 2, 1) := by decide +kernel
theorem dX7_turnAt_14 : decode cX7_turnAt 14 = .ok (.iconst 4, 1) := by decide +kernel
theorem dX7_turnAt_15 : decode cX7_turnAt 15 = .ok (.imul, 1) := by decide +kernel
theorem dX7_turnAt_16 : decode cX7_turnAt 16 = .ok (.iload_n 1, 1) := by decide +kernel
theorem dX7_turnAt_17 : decode cX7_turnAt 17 = .ok (.iadd, 1) := by decide +kernel
theorem dX7_turnAt_18 : decode cX7_turnAt 18 = .ok (.iaload, 1) := by decide +kernel
theorem dX7_turnAt_19 : decode cX7_turnAt 19 = .ok (.goto 4, 3) := by decide +kernel
theorem dX7_turnAt_22 : decode cX7_turnAt 22 = .ok (.iconst 0, 1) := by decide +kernel
theorem dX7_turnAt_23 : decode cX7_turnAt 23 = .ok (.ireturn, 1) := by decide +kernel
theorem dX7_put_0 : decode cX7_put 0 = .ok (.aload_n 0, 1) := by decide +kernel
theorem dX7_put_1 : decode cX7_put 1 = .ok (.iload_n 1, 1) := by decide +kernel
theorem dX7_put_2 : decode cX7_put 2 = .ok (.iload_n 2, 1) := by decide +kernel
theorem dX7_put_3 : decode cX7_put 3 = .ok (.invokevirtual 37, 3) := by decide +kernel
theorem dX7_put_6 : decode cX7_put 6 = .ok (.ifCond .ne 6, 3) := by decide +kernel
theorem dX7_put_9 : decode cX7_put 9 = .ok (.bipush (-9), 2) := by decide +kernel
theorem dX7_put_11 : decode cX7_put 11 = .ok (.ireturn, 1) := by decide +kernel
theorem dX7_put_12 : decode cX7_put 12 = .ok (.iload_n 2, 1) := by decide +kernel
theorem dX7_put_13 : decode cX7_put 13 = .ok (.iconst 4, 1) := by decide +kernel
theorem dX7_put_14 : decode cX7_put 14 = .ok (.imul, 1) := by decide +kernel
theorem dX7_put_15 : decode cX7_put 15 = .ok (.iload_n 1, 1) := by decide +kernel
theorem dX7_put_16 : decode cX7_put 16 = .ok (.iadd, 1) := by decide +kernel
theorem dX7_put_17 : decode cX7_put 17 = .ok (.istore 5, 2) := by decide +kernel
theorem dX7_put_19 : decode cX7_put 19 = .ok (.aload_n 0, 1) := by decide +kernel
theorem dX7_put_20 : decode cX7_put 20 = .ok (.getfield 9, 3) := by decide +kernel
theorem dX7_put_23 : decode cX7_put 23 = .ok (.iload 5, 2) := by decide +kernel
theorem dX7_put_25 : decode cX7_put 25 = .ok (.iaload, 1) := by decide +kernel
theorem dX7_put_26 : decode cX7_put 26 = .ok (.istore 6, 2) := by decide +kernel
theorem dX7_put_28 : decode cX7_put 28 = .ok (.aload_n 0, 1) := by decide +kernel
theorem dX7_put_29 : decode cX7_put 29 = .ok (.getfield 9, 3) := by decide +kernel
theorem dX7_put_32 : decode cX7_put 32 = .ok (.iload 5, 2) := by decide +kernel
theorem dX7_put_34 : decode cX7_put 34 = .ok (.iload_n 3, 1) := by decide +kernel
theorem dX7_put_35 : decode cX7_put 35 = .ok (.iastore, 1) := by decide +kernel
theorem dX7_put_36 : decode cX7_put 36 = .ok (.aload_n 0, 1) := by decide +kernel
theorem dX7_put_37 : decode cX7_put 37 = .ok (.getfield 15, 3) := by decide +kernel
theorem dX7_put_40 : decode cX7_put 40 = .ok (.iload 5, 2) := by decide +kernel
theorem dX7_put_42 : decode cX7_put 42 = .ok (.iload 4, 2) := by decide +kernel
theorem dX7_put_44 : decode cX7_put 44 = .ok (.iastore, 1) := by decide +kernel
theorem dX7_put_45 : decode cX7_put 45 = .ok (.iload 6, 2) := by decide +kernel
theorem dX7_put_47 : decode cX7_put 47 = .ok (.ireturn, 1) := by decide +kernel
theorem dX7_placesOf_0 : decode cX7_placesOf 0 = .ok (.iconst 0, 1) := by decide +kernel
theorem dX7_placesOf_1 : decode cX7_placesOf 1 = .ok (.istore_n 2, 1) := by decide +kernel
theorem dX7_placesOf_2 : decode cX7_placesOf 2 = .ok (.iconst 0, 1) := by decide +kernel
theorem dX7_placesOf_3 : decode cX7_placesOf 3 = .ok (.istore_n 3, 1) := by decide +kernel
theorem dX7_placesOf_4 : decode cX7_placesOf 4 = .ok (.iload_n 3, 1) := by decide +kernel
theorem dX7_placesOf_5 : decode cX7_placesOf 5 = .ok (.aload_n 0, 1) := by decide +kernel
theorem dX7_placesOf_6 : decode cX7_placesOf 6 = .ok (.getfield 9, 3) := by decide +kernel
theorem dX7_placesOf_9 : decode cX7_placesOf 9 = .ok (.arraylength, 1) := by decide +kernel
theorem dX7_placesOf_10 : decode cX7_placesOf 10 = .ok (.if_icmp .ge 22, 3) := by decide +kernel
theorem dX7_placesOf_13 : decode cX7_placesOf 13 = .ok (.aload_n 0, 1) := by decide +kernel
theorem dX7_placesOf_14 : decode cX7_placesOf 14 = .ok (.getfield 9, 3) := by decide +kernel
theorem dX7_placesOf_17 : decode cX7_placesOf 17 = .ok (.iload_n 3, 1) := by decide +kernel
theorem dX7_placesOf_18 : decode cX7_placesOf 18 = .ok (.iaload, 1) := by decide +kernel
theorem dX7_placesOf_19 : decode cX7_placesOf 19 = .ok (.iload_n 1, 1) := by decide +kernel
theorem dX7_placesOf_20 : decode cX7_placesOf 20 = .ok (.if_icmp .ne 6, 3) := by decide +kernel
theorem dX7_placesOf_23 : decode cX7_placesOf 23 = .ok (.iinc 2 1, 3) := by decide +kernel
theorem dX7_placesOf_26 : decode cX7_placesOf 26 = .ok (.iinc 3 1, 3) := by decide +kernel
theorem dX7_placesOf_29 : decode cX7_placesOf 29 = .ok (.goto (-25), 3) := by decide +kernel
theorem dX7_placesOf_32 : decode cX7_placesOf 32 = .ok (.iload_n 2, 1) := by decide +kernel
theorem dX7_placesOf_33 : decode cX7_placesOf 33 = .ok (.ireturn, 1) := by decide +kernel
theorem dX8_init_0 : decode cX8_init 0 = .ok (.aload_n 0, 1) := by decide +kernel
theorem dX8_init_1 : decode cX8_init 1 = .ok (.invokespecial 3, 3) := by decide +kernel
theorem dX8_init_4 : decode cX8_init 4 = .ok (.aload_n 0, 1) := by decide +kernel
theorem dX8_init_5 : decode cX8_init 5 = .ok (.new 9, 3) := by decide +kernel
theorem dX8_init_8 : decode cX8_init 8 = .ok (.dup, 1) := by decide +kernel
theorem dX8_init_9 : decode cX8_init 9 = .ok (.invokespecial 11, 3) := by decide +kernel
theorem dX8_init_12 : decode cX8_init 12 = .ok (.putfield 12, 3) := by decide +kernel
theorem dX8_init_15 : decode cX8_init 15 = .ok (.aload_n 0, 1) := by decide +kernel
theorem dX8_init_16 : decode cX8_init 16 = .ok (.bipush 16, 2) := by decide +kernel
theorem dX8_init_18 : decode cX8_init 18 = .ok (.anewarray 16, 3) := by decide +kernel
theorem dX8_init_21 : decode cX8_init 21 = .ok (.putfield 18, 3) := by decide +kernel
theorem dX8_init_24 : decode cX8_init 24 = .ok (.aload_n 0, 1) := by decide +kernel
theorem dX8_init_25 : decode cX8_init 25 = .ok (.iconst 0, 1) := by decide +kernel
theorem dX8_init_26 : decode cX8_init 26 = .ok (.putfield 22, 3) := by decide +kernel
theorem dX8_init_29 : decode cX8_init 29 = .ok (.aload_n 0, 1) := by decide +kernel
theorem dX8_init_30 : decode cX8_init 30 = .ok (.new 26, 3) := by decide +kernel
theorem dX8_init_33 : decode cX8_init 33 = .ok (.dup, 1) := by decide +kernel
theorem dX8_init_34 : decode cX8_init 34 = .ok (.invokespecial 28, 3) := by decide +kernel
theorem dX8_init_37 : decode cX8_init 37 = .ok (.putfield 29, 3) := by decide +kernel
theorem dX8_init_40 : decode cX8_init 40 = .ok (.aload_n 0, 1) := by decide +kernel
theorem dX8_init_41 : decode cX8_init 41 = .ok (.new 33, 3) := by decide +kernel
theorem dX8_init_44 : decode cX8_init 44 = .ok (.dup, 1) := by decide +kernel
theorem dX8_init_45 : decode cX8_init 45 = .ok (.invokespecial 35, 3) := by decide +kernel
theorem dX8_init_48 : decode cX8_init 48 = .ok (.putfield 36, 3) := by decide +kernel
theorem dX8_init_51 : decode cX8_init 51 = .ok (.aload_n 0, 1) := by decide +kernel
theorem dX8_init_52 : decode cX8_init 52 = .ok (.new 40, 3) := by decide +kernel
theorem dX8_init_55 : decode cX8_init 55 = .ok (.dup, 1) := by decide +kernel
theorem dX8_init_56 : decode cX8_init 56 = .ok (.iconst 1, 1) := by decide +kernel
theorem dX8_init_57 : decode cX8_init 57 = .ok (.iconst 0, 1) := by decide +kernel
theorem dX8_init_58 : decode cX8_init 58 = .ok (.invokespecial 42, 3) := by decide +kernel
theorem dX8_init_61 : decode cX8_init 61 = .ok (.putfield 45, 3) := by decide +kernel
theorem dX8_init_64 : decode cX8_init 64 = .ok (.aload_n 0, 1) := by decide +kernel
theorem dX8_init_65 : decode cX8_init 65 = .ok (.new 40, 3) := by decide +kernel
theorem dX8_init_68 : decode cX8_init 68 = .ok (.dup, 1) := by decide +kernel
theorem dX8_init_69 : decode cX8_init 69 = .ok (.iconst 1, 1) := by decide +kernel
theorem dX8_init_70 : decode cX8_init 70 = .ok (.bipush (-9), 2) := by decide +kernel
theorem dX8_init_72 : decode cX8_init 72 = .ok (.invokespecial 42, 3) := by decide +kernel
theorem dX8_init_75 : decode cX8_init 75 = .ok (.putfield 49, 3) := by decide +kernel
theorem dX8_init_78 : decode cX8_init 78 = .ok (.aload_n 0, 1) := by decide +kernel
theorem dX8_init_79 : decode cX8_init 79 = .ok (.new 52, 3) := by decide +kernel
theorem dX8_init_82 : decode cX8_init 82 = .ok (.dup, 1) := by decide +kernel
theorem dX8_init_83 : decode cX8_init 83 = .ok (.invokespecial 54, 3) := by decide +kernel
theorem dX8_init_86 : decode cX8_init 86 = .ok (.putfield 55, 3) := by decide +kernel
theorem dX8_init_89 : decode cX8_init 89 = .ok (.aload_n 0, 1) := by decide +kernel
theorem dX8_init_90 : decode cX8_init 90 = .ok (.new 59, 3) := by decide +kernel
theorem dX8_init_93 : decode cX8_init 93 = .ok (.dup, 1) := by decide +kernel
theorem dX8_init_94 : decode cX8_init 94 = .ok (.invokespecial 61, 3) := by decide +kernel
theorem dX8_init_97 : decode cX8_init 97 = .ok (.putfield 62, 3) := by decide +kernel
theorem dX8_init_100 : decode cX8_init 100 = .ok (.aload_n 0, 1) := by decide +kernel
theorem dX8_init_101 : decode cX8_init 101 = .ok (.new 66, 3) := by decide +kernel
theorem dX8_init_104 : decode cX8_init 104 = .ok (.dup, 1) := by decide +kernel
theorem dX8_init_105 : decode cX8_init 105 = .ok (.invokespecial 68, 3) := by decide +kernel
theorem dX8_init_108 : decode cX8_init 108 = .ok (.putfield 69, 3) := by decide +kernel
theorem dX8_init_111 : decode cX8_init 111 = .ok (.aload_n 0, 1) := by decide +kernel
theorem dX8_init_112 : decode cX8_init 112 = .ok (.lconst 0, 1) := by decide +kernel
theorem dX8_init_113 : decode cX8_init 113 = .ok (.putfield 73, 3) := by decide +kernel
theorem dX8_init_116 : decode cX8_init 116 = .ok (.return_, 1) := by decide +kernel
theorem dX8_glass_0 : decode cX8_glass 0 = .ok (.iload_n 1, 1) := by decide +kernel
theorem dX8_glass_1 : decode cX8_glass 1 = .ok (.invokestatic 77, 3) := by decide +kernel
theorem dX8_glass_4 : decode cX8_glass 4 = .ok (.ifCond .ne 5, 3) := by decide +kernel
theorem dX8_glass_7 : decode cX8_glass 7 = .ok (.iconst (-1), 1) := by decide +kernel
theorem dX8_glass_8 : decode cX8_glass 8 = .ok (.ireturn, 1) := by decide +kernel
theorem dX8_glass_9 : decode cX8_glass 9 = .ok (.iload_n 2, 1) := by decide +kernel
theorem dX8_glass_10 : decode cX8_glass 10 = .ok (.ifCond .ne 23, 3) := by decide +kernel
theorem dX8_glass_13 : decode cX8_glass 13 = .ok (.iload_n 3, 1) := by decide +kernel
theorem dX8_glass_14 : decode cX8_glass 14 = .ok (.iconst 0, 1) := by decide +kernel
theorem dX8_glass_15 : decode cX8_glass 15 = .ok (.bipush 99, 2) := by decide +kernel
theorem dX8_glass_17 : decode cX8_glass 17 = .ok (.invokestatic 81, 3) := by decide +kernel
theorem dX8_glass_20 : decode cX8_glass 20 = .ok (.ifCond .eq 13, 3) := by decide +kernel
theorem dX8_glass_23 : decode cX8_glass 23 = .ok (.aload_n 0, 1) := by decide +kernel
theorem dX8_glass_24 : decode cX8_glass 24 = .ok (.getfield 12, 3) := by decide +kernel
theorem dX8_glass_27 : decode cX8_glass 27 = .ok (.iload_n 1, 1) := by decide +kernel
theorem dX8_glass_28 : decode cX8_glass 28 = .ok (.iload_n 3, 1) := by decide +kernel
theorem dX8_glass_29 : decode cX8_glass 29 = .ok (.invokevirtual 85, 3) := by decide +kernel
theorem dX8_glass_32 : decode cX8_glass 32 = .ok (.ireturn, 1) := by decide +kernel
theorem dX8_glass_33 : decode cX8_glass 33 = .ok (.iload_n 2, 1) := by decide +kernel
theorem dX8_glass_34 : decode cX8_glass 34 = .ok (.iconst 1, 1) := by decide +kernel
theorem dX8_glass_35 : decode cX8_glass 35 = .ok (.if_icmp .ne 23, 3) := by decide +kernel
theorem dX8_glass_38 : decode cX8_glass 38 = .ok (.iload_n 3, 1) := by decide +kernel
theorem dX8_glass_39 : decode cX8_glass 39 = .ok (.iconst 1, 1) := by decide +kernel
theorem dX8_glass_40 : decode cX8_glass 40 = .ok (.bipush 9, 2) := by decide +kernel
theorem dX8_glass_42 : decode cX8_glass 42 = .ok (.invokestatic 81, 3) := by decide +kernel
theorem dX8_glass_45 : decode cX8_glass 45 = .ok (.ifCond .eq 13, 3) := by decide +kernel
theorem dX8_glass_48 : decode cX8_glass 48 = .ok (.aload_n 0, 1) := by decide +kernel
theorem dX8_glass_49 : decode cX8_glass 49 = .ok (.getfield 12, 3) := by decide +kernel
theorem dX8_glass_52 : decode cX8_glass 52 = .ok (.iload_n 1, 1) := by decide +kernel
theorem dX8_glass_53 : decode cX8_glass 53 = .ok (.iload_n 3, 1) := by decide +kernel
theorem dX8_glass_54 : decode cX8_glass 54 = .ok (.invokevirtual 89, 3) := by decide +kernel
theorem dX8_glass_57 : decode cX8_glass 57 = .ok (.ireturn, 1) := by decide +kernel
theorem dX8_glass_58 : decode cX8_glass 58 = .ok (.iconst (-1), 1) := by decide +kernel
theorem dX8_glass_59 : decode cX8_glass 59 = .ok (.ireturn, 1) := by decide +kernel
theorem dX8_rod_0 : decode cX8_rod 0 = .ok (.iload_n 1, 1) := by decide +kernel
theorem dX8_rod_1 : decode cX8_rod 1 = .ok (.invokestatic 77, 3) := by decide +kernel
theorem dX8_rod_4 : decode cX8_rod 4 = .ok (.ifCond .eq 14, 3) := by decide +kernel
theorem dX8_rod_7 : decode cX8_rod 7 = .ok (.iload_n 2, 1) := by decide +kernel
theorem dX8_rod_8 : decode cX8_rod 8 = .ok (.iconst 1, 1) := by decide +kernel
theorem dX8_rod_9 : decode cX8_rod 9 = .ok (.sipush 9999, 3) := by decide +kernel
theorem dX8_rod_12 : decode cX8_rod 12 = .ok (.invokestatic 81, 3) := by decide +kernel
theorem dX8_rod_15 : decode cX8_rod 15 = .ok (.ifCond .ne 5, 3) := by decide +kernel
theorem dX8_rod_18 : decode cX8_rod 18 = .ok (.iconst (-1), 1) := by decide +kernel
theorem dX8_rod_19 : decode cX8_rod 19 = .ok (.ireturn, 1) := by decide +kernel
theorem dX8_rod_20 : decode cX8_rod 20 = .ok (.aload_n 0, 1) := by decide +kernel
theorem dX8_rod_21 : decode cX8_rod 21 = .ok (.getfield 22, 3) := by decide +kernel
theorem dX8_rod_24 : decode cX8_rod 24 = .ok (.bipush 16, 2) := by decide +kernel
theorem dX8_rod_26 : decode cX8_rod 26 = .ok (.if_icmp .lt 6, 3) := by decide +kernel
theorem dX8_rod_29 : decode cX8_rod 29 = .ok (.bipush (-3), 2) := by decide +kernel
theorem dX8_rod_31 : decode cX8_rod 31 = .ok (.ireturn, 1) := by decide +kernel
theorem dX8_rod_32 : decode cX8_rod 32 = .ok (.new 16, 3) := by decide +kernel
theorem dX8_rod_35 : decode cX8_rod 35 = .ok (.dup, 1) := by decide +kernel
theorem dX8_rod_36 : decode cX8_rod 36 = .ok (.new 40, 3) := by decide +kernel
theorem dX8_rod_39 : decode cX8_rod 39 = .ok (.dup, 1) := by decide +kernel
theorem dX8_rod_40 : decode cX8_rod 40 = .ok (.iconst 1, 1) := by decide +kernel
theorem dX8_rod_41 : decode cX8_rod 41 = .ok (.iload_n 1, 1) := by decide +kernel
theorem dX8_rod_42 : decode cX8_rod 42 = .ok (.invokespecial 42, 3) := by decide +kernel
theorem dX8_rod_45 : decode cX8_rod 45 = .ok (.iload_n 2, 1) := by decide +kernel
theorem dX8_rod_46 : decode cX8_rod 46 = .ok (.iconst 1, 1) := by decide +kernel
theorem dX8_rod_47 : decode cX8_rod 47 = .ok (.invokespecial 92, 3) := by decide +kernel
theorem dX8_rod_50 : decode cX8_rod 50 = .ok (.astore_n 3, 1) := by decide +kernel
theorem dX8_rod_51 : decode cX8_rod 51 = .ok (.aload_n 0, 1) := by decide +kernel
theorem dX8_rod_52 : decode cX8_rod 52 = .ok (.getfield 12, 3) := by decide +kernel
theorem dX8_rod_55 : decode cX8_rod 55 = .ok (.iload_n 1, 1) := by decide +kernel
theorem dX8_rod_56 : decode cX8_rod 56 = .ok (.aload_n 3, 1) := by decide +kernel
theorem dX8_rod_57 : decode cX8_rod 57 = .ok (.iload_n 2, 1) := by decide +kernel
theorem dX8_rod_58 : decode cX8_rod 58 = .ok (.invokevirtual 95, 3) := by decide +kernel
theorem dX8_rod_61 : decode cX8_rod 61 = .ok (.invokevirtual 99, 3) := by decide +kernel
theorem dX8_rod_64 : decode cX8_rod 64 = .ok (.aload_n 0, 1) := by decide +kernel
theorem dX8_rod_65 : decode cX8_rod 65 = .ok (.aload_n 3, 1) := by decide +kernel
theorem dX8_rod_66 : decode cX8_rod 66 = .ok (.invokevirtual 103, 3) := by decide +kernel
theorem dX8_rod_69 : decode cX8_rod 69 = .ok (.ireturn, 1) := by decide +kernel
theorem dX8_pull_0 : decode cX8_pull 0 = .ok (.aload_n 0, 1) := by decide +kernel
theorem dX8_pull_1 : decode cX8_pull 1 = .ok (.iload_n 1, 1) := by decide +kernel
theorem dX8_pull_2 : decode cX8_pull 2 = .ok (.invokevirtual 107, 3) := by decide +kernel
theorem dX8_pull_5 : decode cX8_pull 5 = .ok (.astore_n 3, 1) := by decide +kernel
theorem dX8_pull_6 : decode cX8_pull 6 = .ok (.aload_n 3, 1) := by decide +kernel
theorem dX8_pull_7 : decode cX8_pull 7 = .ok (.ifnull 13, 3) := by decide +kernel
theorem dX8_pull_10 : decode cX8_pull 10 = .ok (.iload_n 2, 1) := by decide +kernel
theorem dX8_pull_11 : decode cX8_pull 11 = .ok (.iconst 2, 1) := by decide +kernel
theorem dX8_pull_12 : decode cX8_pull 12 = .ok (.if_icmp .eq 10, 3) := by decide +kernel
theorem dX8_pull_15 : decode cX8_pull 15 = .ok (.iload_n 2, 1) := by decide +kernel
theorem dX8_pull_16 : decode cX8_pull 16 = .ok (.iconst 4, 1) := by decide +kernel
theorem dX8_pull_17 : decode cX8_pull 17 = .ok (.if_icmp .eq 5, 3) := by decide +kernel
theorem dX8_pull_20 : decode cX8_pull 20 = .ok (.iconst (-1), 1) := by decide +kernel
theorem dX8_pull_21 : decode cX8_pull 21 = .ok (.ireturn, 1) := by decide +kernel
theorem dX8_pull_22 : decode cX8_pull 22 = .ok (.aload_n 3, 1) := by decide +kernel
theorem dX8_pull_23 : decode cX8_pull 23 = .ok (.getfield 111, 3) := by decide +kernel
theorem dX8_pull_26 : decode cX8_pull 26 = .ok (.iload_n 2, 1) := by decide +kernel
theorem dX8_pull_27 : decode cX8_pull 27 = .ok (.imul, 1) := by decide +kernel
theorem dX8_pull_28 : decode cX8_pull 28 = .ok (.iconst 2, 1) := by decide +kernel
theorem dX8_pull_29 : decode cX8_pull 29 = .ok (.isub, 1) := by decide +kernel
theorem dX8_pull_30 : decode cX8_pull 30 = .ok (.istore 4, 2) := by decide +kernel
theorem dX8_pull_32 : decode cX8_pull 32 = .ok (.aload_n 3, 1) := by decide +kernel
theorem dX8_pull_33 : decode cX8_pull 33 = .ok (.getfield 114, 3) := by decide +kernel
theorem dX8_pull_36 : decode cX8_pull 36 = .ok (.iload_n 2, 1) := by decide +kernel
theorem dX8_pull_37 : decode cX8_pull 37 = .ok (.imul, 1) := by decide +kernel
theorem dX8_pull_38 : decode cX8_pull 38 = .ok (.istore 5, 2) := by decide +kernel
theorem dX8_pull_40 : decode cX8_pull 40 = .ok (.iload 4, 2) := by decide +kernel
theorem dX8_pull_42 : decode cX8_pull 42 = .ok (.iconst 1, 1) := by decide +kernel
theorem dX8_pull_43 : decode cX8_pull 43 = .ok (.sipush 9999, 3) := by decide +kernel
theorem dX8_pull_46 : decode cX8_pull 46 = .ok (.invokestatic 81, 3) := by decide +kernel
theorem dX8_pull_49 : decode cX8_pull 49 = .ok (.ifCond .eq 11, 3) := by decide +kernel
theorem dX8_pull_52 : decode cX8_pull 52 = .ok (.iload 5, 2) := by decide +kernel
theorem dX8_pull_54 : decode cX8_pull 54 = .ok (.sipush 4096, 3) := by decide +kernel
theorem dX8_pull_57 : decode cX8_pull 57 = .ok (.if_icmp .le 6, 3) := by decide +kernel
theorem dX8_pull_60 : decode cX8_pull 60 = .ok (.bipush (-2), 2) := by decide +kernel
theorem dX8_pull_62 : decode cX8_pull 62 = .ok (.ireturn, 1) := by decide +kernel
theorem dX8_pull_63 : decode cX8_pull 63 = .ok (.aload_n 3, 1) := by decide +kernel
theorem dX8_pull_64 : decode cX8_pull 64 = .ok (.iload 4, 2) := by decide +kernel
theorem dX8_pull_66 : decode cX8_pull 66 = .ok (.putfield 111, 3) := by decide +kernel
theorem dX8_pull_69 : decode cX8_pull 69 = .ok (.aload_n 3, 1) := by decide +kernel
theorem dX8_pull_70 : decode cX8_pull 70 = .ok (.iload 5, 2) := by decide +kernel
theorem dX8_pull_72 : decode cX8_pull 72 = .ok (.putfield 114, 3) := by decide +kernel
theorem dX8_pull_75 : decode cX8_pull 75 = .ok (.aload_n 0, 1) := by decide +kernel
theorem dX8_pull_76 : decode cX8_pull 76 = .ok (.getfield 12, 3) := by decide +kernel
theorem dX8_pull_79 : decode cX8_pull 79 = .ok (.aload_n 3, 1) := by decide +kernel
theorem dX8_pull_80 : decode cX8_pull 80 = .ok (.getfield 117, 3) := by decide +kernel
theorem dX8_pull_83 : decode cX8_pull 83 = .ok (.aload_n 3, 1) := by decide +kernel
theorem dX8_pull_84 : decode cX8_pull 84 = .ok (.iconst 2, 1) := by decide +kernel
theorem dX8_pull_85 : decode cX8_pull 85 = .ok (.invokevirtual 95, 3) := by decide +kernel
theorem dX8_pull_88 : decode cX8_pull 88 = .ok (.invokevirtual 120, 3) := by decide +kernel
theorem dX8_pull_91 : decode cX8_pull 91 = .ok (.iload 4, 2) := by decide +kernel
theorem dX8_pull_93 : decode cX8_pull 93 = .ok (.ireturn, 1) := by decide +kernel
theorem dX8_twist_0 : decode cX8_twist 0 = .ok (.aload_n 0, 1) := by decide +kernel
theorem dX8_twist_1 : decode cX8_twist 1 = .ok (.iload_n 1, 1) := by decide +kernel
theorem dX8_twist_2 : decode cX8_twist 2 = .ok (.invokevirtual 107, 3) := by decide +kernel
theorem dX8_twist_5 : decode cX8_twist 5 = .ok (.astore_n 3, 1) := by decide +kernel
theorem dX8_twist_6 : decode cX8_twist 6 = .ok (.aload_n 3, 1) := by decide +kernel
theorem dX8_twist_7 : decode cX8_twist 7 = .ok (.ifnull 13, 3) := by decide +kernel
theorem dX8_twist_10 : decode cX8_twist 10 = .ok (.iload_n 2, 1) := by decide +kernel
theorem dX8_twist_11 : decode cX8_twist 11 = .ok (.iconst 0, 1) := by decide +kernel
theorem dX8_twist_12 : decode cX8_twist 12 = .ok (.bipush 40, 2) := by decide +kernel
theorem dX8_twist_14 : decode cX8_twist 14 = .ok (.invokestatic 81, 3) := by decide +kernel
theorem dX8_twist_17 : decode cX8_twist 17 = .ok (.ifCond .ne 5, 3) := by decide +kernel
theorem dX8_twist_20 : decode cX8_twist 20 = .ok (.iconst (-1), 1) := by decide +kernel
theorem dX8_twist_21 : decode cX8_twist 21 = .ok (.ireturn, 1) := by decide +kernel
theorem dX8_twist_22 : decode cX8_twist 22 = .ok (.aload_n 3, 1) := by decide +kernel
theorem dX8_twist_23 : decode cX8_twist 23 = .ok (.getfield 124, 3) := by decide +kernel
theorem dX8_twist_26 : decode cX8_twist 26 = .ok (.istore 4, 2) := by decide +kernel
theorem dX8_twist_28 : decode cX8_twist 28 = .ok (.aload_n 3, 1) := by decide +kernel
theorem dX8_twist_29 : decode cX8_twist 29 = .ok (.iload_n 2, 1) := by decide +kernel
theorem dX8_twist_30 : decode cX8_twist 30 = .ok (.putfield 124, 3) := by decide +kernel
theorem dX8_twist_33 : decode cX8_twist 33 = .ok (.iload 4, 2) := by decide +kernel
theorem dX8_twist_35 : decode cX8_twist 35 = .ok (.ireturn, 1) := by decide +kernel
theorem dX8_cut_0 : decode cX8_cut 0 = .ok (.aload_n 0, 1) := by decide +kernel
theorem dX8_cut_1 : decode cX8_cut 1 = .ok (.iload_n 1, 1) := by decide +kernel
theorem dX8_cut_2 : decode cX8_cut 2 = .ok (.invokevirtual 107, 3) := by decide +kernel
theorem dX8_cut_5 : decode cX8_cut 5 = .ok (.astore_n 3, 1) := by decide +kernel
theorem dX8_cut_6 : decode cX8_cut 6 = .ok (.aload_n 3, 1) := by decide +kernel
theorem dX8_cut_7 : decode cX8_cut 7 = .ok (.ifnull 17, 3) := by decide +kernel
theorem dX8_cut_10 : decode cX8_cut 10 = .ok (.iload_n 2, 1) := by decide +kernel
theorem dX8_cut_11 : decode cX8_cut 11 = .ok (.iconst 1, 1) := by decide +kernel
theorem dX8_cut_12 : decode cX8_cut 12 = .ok (.aload_n 3, 1) := by decide +kernel
theorem dX8_cut_13 : decode cX8_cut 13 = .ok (.getfield 111, 3) := by decide +kernel
theorem dX8_cut_16 : decode cX8_cut 16 = .ok (.iconst 1, 1) := by decide +kernel
theorem dX8_cut_17 : decode cX8_cut 17 = .ok (.isub, 1) := by decide +kernel
theorem dX8_cut_18 : decode cX8_cut 18 = .ok (.invokestatic 81, 3) := by decide +kernel
theorem dX8_cut_21 : decode cX8_cut 21 = .ok (.ifCond .ne 5, 3) := by decide +kernel
theorem dX8_cut_24 : decode cX8_cut 24 = .ok (.iconst (-1), 1) := by decide +kernel
theorem dX8_cut_25 : decode cX8_cut 25 = .ok (.ireturn, 1) := by decide +kernel
theorem dX8_cut_26 : decode cX8_cut 26 = .ok (.aload_n 0, 1) := by decide +kernel
theorem dX8_cut_27 : decode cX8_cut 27 = .ok (.getfield 22, 3) := by decide +kernel
theorem dX8_cut_30 : decode cX8_cut 30 = .ok (.bipush 16, 2) := by decide +kernel
theorem dX8_cut_32 : decode cX8_cut 32 = .ok (.if_icmp .lt 6, 3) := by decide +kernel
theorem dX8_cut_35 : decode cX8_cut 35 = .ok (.bipush (-3), 2) := by decide +kernel
theorem dX8_cut_37 : decode cX8_cut 37 = .ok (.ireturn, 1) := by decide +kernel
theorem dX8_cut_38 : decode cX8_cut 38 = .ok (.new 16, 3) := by decide +kernel
theorem dX8_cut_41 : decode cX8_cut 41 = .ok (.dup, 1) := by decide +kernel
theorem dX8_cut_42 : decode cX8_cut 42 = .ok (.aload_n 3, 1) := by decide +kernel
theorem dX8_cut_43 : decode cX8_cut 43 = .ok (.getfield 117, 3) := by decide +kernel
theorem dX8_cut_46 : decode cX8_cut 46 = .ok (.invokevirtual 127, 3) := by decide +kernel
theorem dX8_cut_49 : decode cX8_cut 49 = .ok (.iload_n 2, 1) := by decide +kernel
theorem dX8_cut_50 : decode cX8_cut 50 = .ok (.aload_n 3, 1) := by decide +kernel
theorem dX8_cut_51 : decode cX8_cut 51 = .ok (.getfield 114, 3) := by decide +kernel
theorem dX8_cut_54 : decode cX8_cut 54 = .ok (.invokespecial 92, 3) := by decide +kernel
theorem dX8_cut_57 : decode cX8_cut 57 = .ok (.astore 4, 2) := by decide +kernel
theorem dX8_cut_59 : decode cX8_cut 59 = .ok (.aload 4, 2) := by decide +kernel
theorem dX8_cut_61 : decode cX8_cut 61 = .ok (.aload_n 3, 1) := by decide +kernel
theorem dX8_cut_62 : decode cX8_cut 62 = .ok (.iload_n 2, 1) := by decide +kernel
theorem dX8_cut_63 : decode cX8_cut 63 = .ok (.invokevirtual 131, 3) := by decide +kernel
theorem dX8_cut_66 : decode cX8_cut 66 = .ok (.putfield 124, 3) := by decide +kernel
theorem dX8_cut_69 : decode cX8_cut 69 = .ok (.aload_n 3, 1) := by decide +kernel
theorem dX8_cut_70 : decode cX8_cut 70 = .ok (.dup, 1) := by decide +kernel
theorem dX8_cut_71 : decode cX8_cut 71 = .ok (.getfield 124, 3) := by decide +kernel
theorem dX8_cut_74 : decode cX8_cut 74 = .ok (.aload 4, 2) := by decide +kernel
theorem dX8_cut_76 : decode cX8_cut 76 = .ok (.getfield 124, 3) := by decide +kernel
theorem dX8_cut_79 : decode cX8_cut 79 = .ok (.isub, 1) := by decide +kernel
theorem dX8_cut_80 : decode cX8_cut 80 = .ok (.putfield 124, 3) := by decide +kernel
theorem dX8_cut_83 : decode cX8_cut 83 = .ok (.aload_n 3, 1) := by decide +kernel
theorem dX8_cut_84 : decode cX8_cut 84 = .ok (.dup, 1) := by decide +kernel
theorem dX8_cut_85 : decode cX8_cut 85 = .ok (.getfield 111, 3) := by decide +kernel
theorem dX8_cut_88 : decode cX8_cut 88 = .ok (.iload_n 2, 1) := by decide +kernel
theorem dX8_cut_89 : decode cX8_cut 89 = .ok (.isub, 1) := by decide +kernel
theorem dX8_cut_90 : decode cX8_cut 90 = .ok (.putfield 111, 3) := by decide +kernel
theorem dX8_cut_93 : decode cX8_cut 93 = .ok (.aload_n 0, 1) := by decide +kernel
theorem dX8_cut_94 : decode cX8_cut 94 = .ok (.aload 4, 2) := by decide +kernel
theorem dX8_cut_96 : decode cX8_cut 96 = .ok (.invokevirtual 103, 3) := by decide +kernel
theorem dX8_cut_99 : decode cX8_cut 99 = .ok (.ireturn, 1) := by decide +kernel
theorem dX8_cased_0 : decode cX8_cased 0 = .ok (.aload_n 0, 1) := by decide +kernel
theorem dX8_cased_1 : decode cX8_cased 1 = .ok (.iload_n 1, 1) := by decide +kernel
theorem dX8_cased_2 : decode cX8_cased 2 = .ok (.invokevirtual 107, 3) := by decide +kernel
theorem dX8_cased_5 : decode cX8_cased 5 = .ok (.astore_n 3, 1) := by decide +kernel
theorem dX8_cased_6 : decode cX8_cased 6 = .ok (.aload_n 3, 1) := by decide +kernel
theorem dX8_cased_7 : decode cX8_cased 7 = .ok (.ifnull 10, 3) := by decide +kernel
theorem dX8_cased_10 : decode cX8_cased 10 = .ok (.iload_n 2, 1) := by decide +kernel
theorem dX8_cased_11 : decode cX8_cased 11 = .ok (.invokestatic 77, 3) := by decide +kernel
theorem dX8_cased_14 : decode cX8_cased 14 = .ok (.ifCond .ne 5, 3) := by decide +kernel
theorem dX8_cased_17 : decode cX8_cased 17 = .ok (.iconst (-1), 1) := by decide +kernel
theorem dX8_cased_18 : decode cX8_cased 18 = .ok (.ireturn, 1) := by decide +kernel
theorem dX8_cased_19 : decode cX8_cased 19 = .ok (.aload_n 3, 1) := by decide +kernel
theorem dX8_cased_20 : decode cX8_cased 20 = .ok (.getfield 117, 3) := by decide +kernel
theorem dX8_cased_23 : decode cX8_cased 23 = .ok (.getfield 135, 3) := by decide +kernel
theorem dX8_cased_26 : decode cX8_cased 26 = .ok (.istore 4, 2) := by decide +kernel
theorem dX8_cased_28 : decode cX8_cased 28 = .ok (.iload 4, 2) := by decide +kernel
theorem dX8_cased_30 : decode cX8_cased 30 = .ok (.iconst 2, 1) := by decide +kernel
theorem dX8_cased_31 : decode cX8_cased 31 = .ok (.iadd, 1) := by decide +kernel
theorem dX8_cased_32 : decode cX8_cased 32 = .ok (.bipush 8, 2) := by decide +kernel
theorem dX8_cased_34 : decode cX8_cased 34 = .ok (.if_icmp .gt 10, 3) := by decide +kernel
theorem dX8_cased_37 : decode cX8_cased 37 = .ok (.aload_n 3, 1) := by decide +kernel
theorem dX8_cased_38 : decode cX8_cased 38 = .ok (.getfield 124, 3) := by decide +kernel
theorem dX8_cased_41 : decode cX8_cased 41 = .ok (.ifCond .eq 6, 3) := by decide +kernel
theorem dX8_cased_44 : decode cX8_cased 44 = .ok (.bipush (-2), 2) := by decide +kernel
theorem dX8_cased_46 : decode cX8_cased 46 = .ok (.ireturn, 1) := by decide +kernel
theorem dX8_cased_47 : decode cX8_cased 47 = .ok (.aload_n 3, 1) := by decide +kernel
theorem dX8_cased_48 : decode cX8_cased 48 = .ok (.getfield 117, 3) := by decide +kernel
theorem dX8_cased_51 : decode cX8_cased 51 = .ok (.iload_n 2, 1) := by decide +kernel
theorem dX8_cased_52 : decode cX8_cased 52 = .ok (.invokevirtual 138, 3) := by decide +kernel
theorem dX8_cased_55 : decode cX8_cased 55 = .ok (.iconst 4, 1) := by decide +kernel
theorem dX8_cased_56 : decode cX8_cased 56 = .ok (.iload 4, 2) := by decide +kernel
theorem dX8_cased_58 : decode cX8_cased 58 = .ok (.imul, 1) := by decide +kernel
theorem dX8_cased_59 : decode cX8_cased 59 = .ok (.iconst 4, 1) := by decide +kernel
theorem dX8_cased_60 : decode cX8_cased 60 = .ok (.iadd, 1) := by decide +kernel
theorem dX8_cased_61 : decode cX8_cased 61 = .ok (.istore 5, 2) := by decide +kernel
theorem dX8_cased_63 : decode cX8_cased 63 = .ok (.aload_n 0, 1) := by decide +kernel
theorem dX8_cased_64 : decode cX8_cased 64 = .ok (.getfield 12, 3) := by decide +kernel
theorem dX8_cased_67 : decode cX8_cased 67 = .ok (.iload_n 2, 1) := by decide +kernel
theorem dX8_cased_68 : decode cX8_cased 68 = .ok (.iload 5, 2) := by decide +kernel
theorem dX8_cased_70 : decode cX8_cased 70 = .ok (.i2l, 1) := by decide +kernel
theorem dX8_cased_71 : decode cX8_cased 71 = .ok (.aload_n 3, 1) := by decide +kernel
theorem dX8_cased_72 : decode cX8_cased 72 = .ok (.aload_n 3, 1) := by decide +kernel
theorem dX8_cased_73 : decode cX8_cased 73 = .ok (.getfield 111, 3) := by decide +kernel
theorem dX8_cased_76 : decode cX8_cased 76 = .ok (.invokevirtual 95, 3) := by decide +kernel
theorem dX8_cased_79 : decode cX8_cased 79 = .ok (.lmul, 1) := by decide +kernel
theorem dX8_cased_80 : decode cX8_cased 80 = .ok (.invokevirtual 99, 3) := by decide +kernel
theorem dX8_cased_83 : decode cX8_cased 83 = .ok (.aload_n 3, 1) := by decide +kernel
theorem dX8_cased_84 : decode cX8_cased 84 = .ok (.getfield 117, 3) := by decide +kernel
theorem dX8_cased_87 : decode cX8_cased 87 = .ok (.getfield 135, 3) := by decide +kernel
theorem dX8_cased_90 : decode cX8_cased 90 = .ok (.ireturn, 1) := by decide +kernel
theorem dX8_drop_0 : decode cX8_drop 0 = .ok (.aload_n 0, 1) := by decide +kernel
theorem dX8_drop_1 : decode cX8_drop 1 = .ok (.iload_n 1, 1) := by decide +kernel
theorem dX8_drop_2 : decode cX8_drop 2 = .ok (.invokevirtual 107, 3) := by decide +kernel
theorem dX8_drop_5 : decode cX8_drop 5 = .ok (.astore_n 2, 1) := by decide +kernel
theorem dX8_drop_6 : decode cX8_drop 6 = .ok (.aload_n 2, 1) := by decide +kernel
theorem dX8_drop_7 : decode cX8_drop 7 = .ok (.ifnonnull 5, 3) := by decide +kernel
theorem dX8_drop_10 : decode cX8_drop 10 = .ok (.iconst (-1), 1) := by decide +kernel
theorem dX8_drop_11 : decode cX8_drop 11 = .ok (.ireturn, 1) := by decide +kernel
theorem dX8_drop_12 : decode cX8_drop 12 = .ok (.aload_n 2, 1) := by decide +kernel
theorem dX8_drop_13 : decode cX8_drop 13 = .ok (.getfield 111, 3) := by decide +kernel
theorem dX8_drop_16 : decode cX8_drop 16 = .ok (.istore_n 3, 1) := by decide +kernel
theorem dX8_drop_17 : decode cX8_drop 17 = .ok (.aload_n 0, 1) := by decide +kernel
theorem dX8_drop_18 : decode cX8_drop 18 = .ok (.getfield 12, 3) := by decide +kernel
theorem dX8_drop_21 : decode cX8_drop 21 = .ok (.aload_n 2, 1) := by decide +kernel
theorem dX8_drop_22 : decode cX8_drop 22 = .ok (.getfield 117, 3) := by decide +kernel
theorem dX8_drop_25 : decode cX8_drop 25 = .ok (.aload_n 2, 1) := by decide +kernel
theorem dX8_drop_26 : decode cX8_drop 26 = .ok (.iload_n 3, 1) := by decide +kernel
theorem dX8_drop_27 : decode cX8_drop 27 = .ok (.invokevirtual 95, 3) := by decide +kernel
theorem dX8_drop_30 : decode cX8_drop 30 = .ok (.invokevirtual 120, 3) := by decide +kernel
theorem dX8_drop_33 : decode cX8_drop 33 = .ok (.aload_n 2, 1) := by decide +kernel
theorem dX8_drop_34 : decode cX8_drop 34 = .ok (.iconst 0, 1) := by decide +kernel
theorem dX8_drop_35 : decode cX8_drop 35 = .ok (.putfield 111, 3) := by decide +kernel
theorem dX8_drop_38 : decode cX8_drop 38 = .ok (.iload_n 3, 1) := by decide +kernel
theorem dX8_drop_39 : decode cX8_drop 39 = .ok (.ireturn, 1) := by decide +kernel
theorem dX8_about_0 : decode cX8_about 0 = .ok (.aload_n 0, 1) := by decide +kernel
theorem dX8_about_1 : decode cX8_about 1 = .ok (.iload_n 1, 1) := by decide +kernel
theorem dX8_about_2 : decode cX8_about 2 = .ok (.invokevirtual 142, 3) := by decide +kernel
theorem dX8_about_5 : decode cX8_about 5 = .ok (.astore_n 3, 1) := by decide +kernel
theorem dX8_about_6 : decode cX8_about 6 = .ok (.aload_n 3, 1) := by decide +kernel
theorem dX8_about_7 : decode cX8_about 7 = .ok (.ifnonnull 5, 3) := by decide +kernel
theorem dX8_about_10 : decode cX8_about 10 = .ok (.iconst (-1), 1) := by decide +kernel
theorem dX8_about_11 : decode cX8_about 11 = .ok (.ireturn, 1) := by decide +kernel
theorem dX8_about_12 : decode cX8_about 12 = .ok (.iload_n 2, 1) := by decide +kernel
theorem dX8_about_13 : decode cX8_about 13 = .ok (.tableswitch 82 0 5 #[39, 47, 52, 57, 62, 70], 39) := by decide +kernel
theorem dX8_about_52 : decode cX8_about 52 = .ok (.aload_n 3, 1) := by decide +kernel
theorem dX8_about_53 : decode cX8_about 53 = .ok (.getfield 117, 3) := by decide +kernel
theorem dX8_about_56 : decode cX8_about 56 = .ok (.getfield 135, 3) := by decide +kernel
theorem dX8_about_59 : decode cX8_about 59 = .ok (.ireturn, 1) := by decide +kernel
theorem dX8_about_60 : decode cX8_about 60 = .ok (.aload_n 3, 1) := by decide +kernel
theorem dX8_about_61 : decode cX8_about 61 = .ok (.getfield 111, 3) := by decide +kernel
theorem dX8_about_64 : decode cX8_about 64 = .ok (.ireturn, 1) := by decide +kernel
theorem dX8_about_65 : decode cX8_about 65 = .ok (.aload_n 3, 1) := by decide +kernel
