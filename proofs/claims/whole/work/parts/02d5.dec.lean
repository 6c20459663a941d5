theorem dX9_two_73 : decode cX9_two 73 = .ok (.iload 5, 2) := by decide +kernel
theorem dX9_two_75 : decode cX9_two 75 = .ok (.iconst 4, 1) := by decide +kernel
theorem dX9_two_76 : decode cX9_two 76 = .ok (.idiv, 1) := by decide +kernel
theorem dX9_two_77 : decode cX9_two 77 = .ok (.iconst 0, 1) := by decide +kernel
theorem dX9_two_78 : decode cX9_two 78 = .ok (.iload 4, 2) := by decide +kernel
theorem dX9_two_80 : decode cX9_two 80 = .ok (.invokevirtual 187, 3) := by decide +kernel
theorem dX9_two_83 : decode cX9_two 83 = .ok (.ifCond .eq 25, 3) := by decide +kernel
theorem dX9_two_86 : decode cX9_two 86 = .ok (.aload_n 0, 1) := by decide +kernel
theorem dX9_two_87 : decode cX9_two 87 = .ok (.iload_n 2, 1) := by decide +kernel
theorem dX9_two_88 : decode cX9_two 88 = .ok (.iload 5, 2) := by decide +kernel
theorem dX9_two_90 : decode cX9_two 90 = .ok (.iconst 4, 1) := by decide +kernel
theorem dX9_two_91 : decode cX9_two 91 = .ok (.irem, 1) := by decide +kernel
theorem dX9_two_92 : decode cX9_two 92 = .ok (.iload 4, 2) := by decide +kernel
theorem dX9_two_94 : decode cX9_two 94 = .ok (.aload_n 0, 1) := by decide +kernel
theorem dX9_two_95 : decode cX9_two 95 = .ok (.getfield 35, 3) := by decide +kernel
theorem dX9_two_98 : decode cX9_two 98 = .ok (.invokevirtual 187, 3) := by decide +kernel
theorem dX9_two_101 : decode cX9_two 101 = .ok (.ifCond .eq 7, 3) := by decide +kernel
theorem dX9_two_104 : decode cX9_two 104 = .ok (.iconst 1, 1) := by decide +kernel
theorem dX9_two_105 : decode cX9_two 105 = .ok (.goto 4, 3) := by decide +kernel
theorem dX9_two_108 : decode cX9_two 108 = .ok (.iconst 0, 1) := by decide +kernel
theorem dX9_two_109 : decode cX9_two 109 = .ok (.iadd, 1) := by decide +kernel
theorem dX9_two_110 : decode cX9_two 110 = .ok (.istore_n 3, 1) := by decide +kernel
theorem dX9_two_111 : decode cX9_two 111 = .ok (.iinc 5 1, 3) := by decide +kernel
theorem dX9_two_114 : decode cX9_two 114 = .ok (.goto (-51), 3) := by decide +kernel
theorem dX9_two_117 : decode cX9_two 117 = .ok (.iinc 4 1, 3) := by decide +kernel
theorem dX9_two_120 : decode cX9_two 120 = .ok (.goto (-69), 3) := by decide +kernel
theorem dX9_two_123 : decode cX9_two 123 = .ok (.iload_n 3, 1) := by decide +kernel
theorem dX9_two_124 : decode cX9_two 124 = .ok (.ireturn, 1) := by decide +kernel
theorem dX9_isSlice_0 : decode cX9_isSlice 0 = .ok (.iload_n 1, 1) := by decide +kernel
theorem dX9_isSlice_1 : decode cX9_isSlice 1 = .ok (.iconst 4, 1) := by decide +kernel
theorem dX9_isSlice_2 : decode cX9_isSlice 2 = .ok (.aload_n 0, 1) := by decide +kernel
theorem dX9_isSlice_3 : decode cX9_isSlice 3 = .ok (.getfield 101, 3) := by decide +kernel
theorem dX9_isSlice_6 : decode cX9_isSlice 6 = .ok (.imul, 1) := by decide +kernel
theorem dX9_isSlice_7 : decode cX9_isSlice 7 = .ok (.if_icmp .ge 30, 3) := by decide +kernel
theorem dX9_isSlice_10 : decode cX9_isSlice 10 = .ok (.aload_n 0, 1) := by decide +kernel
theorem dX9_isSlice_11 : decode cX9_isSlice 11 = .ok (.getfield 19, 3) := by decide +kernel
theorem dX9_isSlice_14 : decode cX9_isSlice 14 = .ok (.iload_n 1, 1) := by decide +kernel
theorem dX9_isSlice_15 : decode cX9_isSlice 15 = .ok (.iconst 4, 1) := by decide +kernel
theorem dX9_isSlice_16 : decode cX9_isSlice 16 = .ok (.idiv, 1) := by decide +kernel
theorem dX9_isSlice_17 : decode cX9_isSlice 17 = .ok (.iaload, 1) := by decide +kernel
theorem dX9_isSlice_18 : decode cX9_isSlice 18 = .ok (.ifCond .le 19, 3) := by decide +kernel
theorem dX9_isSlice_21 : decode cX9_isSlice 21 = .ok (.aload_n 0, 1) := by decide +kernel
theorem dX9_isSlice_22 : decode cX9_isSlice 22 = .ok (.getfield 16, 3) := by decide +kernel
theorem dX9_isSlice_25 : decode cX9_isSlice 25 = .ok (.iload_n 1, 1) := by decide +kernel
theorem dX9_isSlice_26 : decode cX9_isSlice 26 = .ok (.iconst 4, 1) := by decide +kernel
theorem dX9_isSlice_27 : decode cX9_isSlice 27 = .ok (.idiv, 1) := by decide +kernel
theorem dX9_isSlice_28 : decode cX9_isSlice 28 = .ok (.iaload, 1) := by decide +kernel
theorem dX9_isSlice_29 : decode cX9_isSlice 29 = .ok (.iload_n 2, 1) := by decide +kernel
theorem dX9_isSlice_30 : decode cX9_isSlice 30 = .ok (.if_icmp .ne 7, 3) := by decide +kernel
theorem dX9_isSlice_33 : decode cX9_isSlice 33 = .ok (.iconst 1, 1) := by decide +kernel
theorem dX9_isSlice_34 : decode cX9_isSlice 34 = .ok (.goto 4, 3) := by decide +kernel
theorem dX9_isSlice_37 : decode cX9_isSlice 37 = .ok (.iconst 0, 1) := by decide +kernel
theorem dX9_isSlice_38 : decode cX9_isSlice 38 = .ok (.ireturn, 1) := by decide +kernel
theorem dX9_findJoins_0 : decode cX9_findJoins 0 = .ok (.iconst 0, 1) := by decide +kernel
theorem dX9_findJoins_1 : decode cX9_findJoins 1 = .ok (.istore_n 2, 1) := by decide +kernel
theorem dX9_findJoins_2 : decode cX9_findJoins 2 = .ok (.iload_n 2, 1) := by decide +kernel
theorem dX9_findJoins_3 : decode cX9_findJoins 3 = .ok (.bipush 64, 2) := by decide +kernel
theorem dX9_findJoins_5 : decode cX9_findJoins 5 = .ok (.if_icmp .ge 123, 3) := by decide +kernel
theorem dX9_findJoins_8 : decode cX9_findJoins 8 = .ok (.iconst 0, 1) := by decide +kernel
theorem dX9_findJoins_9 : decode cX9_findJoins 9 = .ok (.istore_n 3, 1) := by decide +kernel
theorem dX9_findJoins_10 : decode cX9_findJoins 10 = .ok (.iload_n 3, 1) := by decide +kernel
theorem dX9_findJoins_11 : decode cX9_findJoins 11 = .ok (.bipush 64, 2) := by decide +kernel
theorem dX9_findJoins_13 : decode cX9_findJoins 13 = .ok (.if_icmp .ge 109, 3) := by decide +kernel
theorem dX9_findJoins_16 : decode cX9_findJoins 16 = .ok (.aload_n 0, 1) := by decide +kernel
theorem dX9_findJoins_17 : decode cX9_findJoins 17 = .ok (.iload_n 2, 1) := by decide +kernel
theorem dX9_findJoins_18 : decode cX9_findJoins 18 = .ok (.iload_n 1, 1) := by decide +kernel
theorem dX9_findJoins_19 : decode cX9_findJoins 19 = .ok (.invokevirtual 191, 3) := by decide +kernel
theorem dX9_findJoins_22 : decode cX9_findJoins 22 = .ok (.ifCond .eq 16, 3) := by decide +kernel
theorem dX9_findJoins_25 : decode cX9_findJoins 25 = .ok (.aload_n 0, 1) := by decide +kernel
theorem dX9_findJoins_26 : decode cX9_findJoins 26 = .ok (.iload_n 3, 1) := by decide +kernel
theorem dX9_findJoins_27 : decode cX9_findJoins 27 = .ok (.iload_n 1, 1) := by decide +kernel
theorem dX9_findJoins_28 : decode cX9_findJoins 28 = .ok (.invokevirtual 191, 3) := by decide +kernel
theorem dX9_findJoins_31 : decode cX9_findJoins 31 = .ok (.ifCond .eq 7, 3) := by decide +kernel
theorem dX9_findJoins_34 : decode cX9_findJoins 34 = .ok (.iconst 1, 1) := by decide +kernel
theorem dX9_findJoins_35 : decode cX9_findJoins 35 = .ok (.goto 4, 3) := by decide +kernel
theorem dX9_findJoins_38 : decode cX9_findJoins 38 = .ok (.iconst 0, 1) := by decide +kernel
theorem dX9_findJoins_39 : decode cX9_findJoins 39 = .ok (.istore 4, 2) := by decide +kernel
theorem dX9_findJoins_41 : decode cX9_findJoins 41 = .ok (.iconst 0, 1) := by decide +kernel
theorem dX9_findJoins_42 : decode cX9_findJoins 42 = .ok (.istore 5, 2) := by decide +kernel
theorem dX9_findJoins_44 : decode cX9_findJoins 44 = .ok (.iload 5, 2) := by decide +kernel
theorem dX9_findJoins_46 : decode cX9_findJoins 46 = .ok (.iload_n 1, 1) := by decide +kernel
theorem dX9_findJoins_47 : decode cX9_findJoins 47 = .ok (.if_icmp .ge 56, 3) := by decide +kernel
theorem dX9_findJoins_50 : decode cX9_findJoins 50 = .ok (.iload 4, 2) := by decide +kernel
theorem dX9_findJoins_52 : decode cX9_findJoins 52 = .ok (.ifCond .eq 51, 3) := by decide +kernel
theorem dX9_findJoins_55 : decode cX9_findJoins 55 = .ok (.aload_n 0, 1) := by decide +kernel
theorem dX9_findJoins_56 : decode cX9_findJoins 56 = .ok (.iload_n 2, 1) := by decide +kernel
theorem dX9_findJoins_57 : decode cX9_findJoins 57 = .ok (.iconst 4, 1) := by decide +kernel
theorem dX9_findJoins_58 : decode cX9_findJoins 58 = .ok (.idiv, 1) := by decide +kernel
theorem dX9_findJoins_59 : decode cX9_findJoins 59 = .ok (.iload_n 1, 1) := by decide +kernel
theorem dX9_findJoins_60 : decode cX9_findJoins 60 = .ok (.iload_n 1, 1) := by decide +kernel
theorem dX9_findJoins_61 : decode cX9_findJoins 61 = .ok (.iconst 1, 1) := by decide +kernel
theorem dX9_findJoins_62 : decode cX9_findJoins 62 = .ok (.isub, 1) := by decide +kernel
theorem dX9_findJoins_63 : decode cX9_findJoins 63 = .ok (.iload 5, 2) := by decide +kernel
theorem dX9_findJoins_65 : decode cX9_findJoins 65 = .ok (.iload_n 2, 1) := by decide +kernel
theorem dX9_findJoins_66 : decode cX9_findJoins 66 = .ok (.iconst 4, 1) := by decide +kernel
theorem dX9_findJoins_67 : decode cX9_findJoins 67 = .ok (.irem, 1) := by decide +kernel
theorem dX9_findJoins_68 : decode cX9_findJoins 68 = .ok (.iconst 0, 1) := by decide +kernel
theorem dX9_findJoins_69 : decode cX9_findJoins 69 = .ok (.invokevirtual 147, 3) := by decide +kernel
theorem dX9_findJoins_72 : decode cX9_findJoins 72 = .ok (.aload_n 0, 1) := by decide +kernel
theorem dX9_findJoins_73 : decode cX9_findJoins 73 = .ok (.iload_n 3, 1) := by decide +kernel
theorem dX9_findJoins_74 : decode cX9_findJoins 74 = .ok (.iconst 4, 1) := by decide +kernel
theorem dX9_findJoins_75 : decode cX9_findJoins 75 = .ok (.idiv, 1) := by decide +kernel
theorem dX9_findJoins_76 : decode cX9_findJoins 76 = .ok (.iload_n 1, 1) := by decide +kernel
theorem dX9_findJoins_77 : decode cX9_findJoins 77 = .ok (.iconst 0, 1) := by decide +kernel
theorem dX9_findJoins_78 : decode cX9_findJoins 78 = .ok (.iload 5, 2) := by decide +kernel
theorem dX9_findJoins_80 : decode cX9_findJoins 80 = .ok (.iload_n 3, 1) := by decide +kernel
theorem dX9_findJoins_81 : decode cX9_findJoins 81 = .ok (.iconst 4, 1) := by decide +kernel
theorem dX9_findJoins_82 : decode cX9_findJoins 82 = .ok (.irem, 1) := by decide +kernel
theorem dX9_findJoins_83 : decode cX9_findJoins 83 = .ok (.iconst 0, 1) := by decide +kernel
theorem dX9_findJoins_84 : decode cX9_findJoins 84 = .ok (.invokevirtual 147, 3) := by decide +kernel
theorem dX9_findJoins_87 : decode cX9_findJoins 87 = .ok (.if_icmp .ne 7, 3) := by decide +kernel
theorem dX9_findJoins_90 : decode cX9_findJoins 90 = .ok (.iconst 1, 1) := by decide +kernel
theorem dX9_findJoins_91 : decode cX9_findJoins 91 = .ok (.goto 4, 3) := by decide +kernel
theorem dX9_findJoins_94 : decode cX9_findJoins 94 = .ok (.iconst 0, 1) := by decide +kernel
theorem dX9_findJoins_95 : decode cX9_findJoins 95 = .ok (.istore 4, 2) := by decide +kernel
theorem dX9_findJoins_97 : decode cX9_findJoins 97 = .ok (.iinc 5 1, 3) := by decide +kernel
theorem dX9_findJoins_100 : decode cX9_findJoins 100 = .ok (.goto (-56), 3) := by decide +kernel
theorem dX9_findJoins_103 : decode cX9_findJoins 103 = .ok (.aload_n 0, 1) := by decide +kernel
theorem dX9_findJoins_104 : decode cX9_findJoins 104 = .ok (.getfield 81, 3) := by decide +kernel
theorem dX9_findJoins_107 : decode cX9_findJoins 107 = .ok (.bipush 64, 2) := by decide +kernel
theorem dX9_findJoins_109 : decode cX9_findJoins 109 = .ok (.iload_n 2, 1) := by decide +kernel
theorem dX9_findJoins_110 : decode cX9_findJoins 110 = .ok (.imul, 1) := by decide +kernel
theorem dX9_findJoins_111 : decode cX9_findJoins 111 = .ok (.iload_n 3, 1) := by decide +kernel
theorem dX9_findJoins_112 : decode cX9_findJoins 112 = .ok (.iadd, 1) := by decide +kernel
theorem dX9_findJoins_113 : decode cX9_findJoins 113 = .ok (.iload 4, 2) := by decide +kernel
theorem dX9_findJoins_115 : decode cX9_findJoins 115 = .ok (.bastore, 1) := by decide +kernel
theorem dX9_findJoins_116 : decode cX9_findJoins 116 = .ok (.iinc 3 1, 3) := by decide +kernel
theorem dX9_findJoins_119 : decode cX9_findJoins 119 = .ok (.goto (-109), 3) := by decide +kernel
theorem dX9_findJoins_122 : decode cX9_findJoins 122 = .ok (.iinc 2 1, 3) := by decide +kernel
theorem dX9_findJoins_125 : decode cX9_findJoins 125 = .ok (.goto (-123), 3) := by decide +kernel
theorem dX9_findJoins_128 : decode cX9_findJoins 128 = .ok (.return_, 1) := by decide +kernel
theorem dX9_stepOn_0 : decode cX9_stepOn 0 = .ok (.iconst 0, 1) := by decide +kernel
theorem dX9_stepOn_1 : decode cX9_stepOn 1 = .ok (.istore_n 3, 1) := by decide +kernel
theorem dX9_stepOn_2 : decode cX9_stepOn 2 = .ok (.iload_n 3, 1) := by decide +kernel
theorem dX9_stepOn_3 : decode cX9_stepOn 3 = .ok (.bipush 64, 2) := by decide +kernel
theorem dX9_stepOn_5 : decode cX9_stepOn 5 = .ok (.if_icmp .ge 158, 3) := by decide +kernel
theorem dX9_stepOn_8 : decode cX9_stepOn 8 = .ok (.aload_n 0, 1) := by decide +kernel
theorem dX9_stepOn_9 : decode cX9_stepOn 9 = .ok (.getfield 88, 3) := by decide +kernel
theorem dX9_stepOn_12 : decode cX9_stepOn 12 = .ok (.iload_n 3, 1) := by decide +kernel
theorem dX9_stepOn_13 : decode cX9_stepOn 13 = .ok (.iload_n 2, 1) := by decide +kernel
theorem dX9_stepOn_14 : decode cX9_stepOn 14 = .ok (.ifCond .eq 9, 3) := by decide +kernel
theorem dX9_stepOn_17 : decode cX9_stepOn 17 = .ok (.ldc2_w 157, 3) := by decide +kernel
theorem dX9_stepOn_20 : decode cX9_stepOn 20 = .ok (.goto 4, 3) := by decide +kernel
theorem dX9_stepOn_23 : decode cX9_stepOn 23 = .ok (.lconst 0, 1) := by decide +kernel
theorem dX9_stepOn_24 : decode cX9_stepOn 24 = .ok (.lastore, 1) := by decide +kernel
theorem dX9_stepOn_25 : decode cX9_stepOn 25 = .ok (.iconst 0, 1) := by decide +kernel
theorem dX9_stepOn_26 : decode cX9_stepOn 26 = .ok (.istore 4, 2) := by decide +kernel
theorem dX9_stepOn_28 : decode cX9_stepOn 28 = .ok (.iload 4, 2) := by decide +kernel
theorem dX9_stepOn_30 : decode cX9_stepOn 30 = .ok (.bipush 64, 2) := by decide +kernel
theorem dX9_stepOn_32 : decode cX9_stepOn 32 = .ok (.if_icmp .ge 125, 3) := by decide +kernel
theorem dX9_stepOn_35 : decode cX9_stepOn 35 = .ok (.aload_n 0, 1) := by decide +kernel
theorem dX9_stepOn_36 : decode cX9_stepOn 36 = .ok (.getfield 81, 3) := by decide +kernel
theorem dX9_stepOn_39 : decode cX9_stepOn 39 = .ok (.bipush 64, 2) := by decide +kernel
theorem dX9_stepOn_41 : decode cX9_stepOn 41 = .ok (.iload 4, 2) := by decide +kernel
theorem dX9_stepOn_43 : decode cX9_stepOn 43 = .ok (.imul, 1) := by decide +kernel
theorem dX9_stepOn_44 : decode cX9_stepOn 44 = .ok (.iload_n 3, 1) := by decide +kernel
theorem dX9_stepOn_45 : decode cX9_stepOn 45 = .ok (.iadd, 1) := by decide +kernel
theorem dX9_stepOn_46 : decode cX9_stepOn 46 = .ok (.baload, 1) := by decide +kernel
theorem dX9_stepOn_47 : decode cX9_stepOn 47 = .ok (.ifCond .eq 104, 3) := by decide +kernel
theorem dX9_stepOn_50 : decode cX9_stepOn 50 = .ok (.iload_n 2, 1) := by decide +kernel
theorem dX9_stepOn_51 : decode cX9_stepOn 51 = .ok (.ifCond .ne 30, 3) := by decide +kernel
theorem dX9_stepOn_54 : decode cX9_stepOn 54 = .ok (.aload_n 0, 1) := by decide +kernel
theorem dX9_stepOn_55 : decode cX9_stepOn 55 = .ok (.getfield 88, 3) := by decide +kernel
theorem dX9_stepOn_58 : decode cX9_stepOn 58 = .ok (.iload_n 3, 1) := by decide +kernel
theorem dX9_stepOn_59 : decode cX9_stepOn 59 = .ok (.aload_n 0, 1) := by decide +kernel
theorem dX9_stepOn_60 : decode cX9_stepOn 60 = .ok (.getfield 88, 3) := by decide +kernel
theorem dX9_stepOn_63 : decode cX9_stepOn 63 = .ok (.iload_n 3, 1) := by decide +kernel
theorem dX9_stepOn_64 : decode cX9_stepOn 64 = .ok (.laload, 1) := by decide +kernel
theorem dX9_stepOn_65 : decode cX9_stepOn 65 = .ok (.aload_n 0, 1) := by decide +kernel
theorem dX9_stepOn_66 : decode cX9_stepOn 66 = .ok (.getfield 85, 3) := by decide +kernel
theorem dX9_stepOn_69 : decode cX9_stepOn 69 = .ok (.iload 4, 2) := by decide +kernel
theorem dX9_stepOn_71 : decode cX9_stepOn 71 = .ok (.laload, 1) := by decide +kernel
theorem dX9_stepOn_72 : decode cX9_stepOn 72 = .ok (.ladd, 1) := by decide +kernel
theorem dX9_stepOn_73 : decode cX9_stepOn 73 = .ok (.ldc2_w 194, 3) := by decide +kernel
theorem dX9_stepOn_76 : decode cX9_stepOn 76 = .ok (.lrem, 1) := by decide +kernel
theorem dX9_stepOn_77 : decode cX9_stepOn 77 = .ok (.lastore, 1) := by decide +kernel
theorem dX9_stepOn_78 : decode cX9_stepOn 78 = .ok (.goto 73, 3) := by decide +kernel
theorem dX9_stepOn_81 : decode cX9_stepOn 81 = .ok (.aload_n 0, 1) := by decide +kernel
theorem dX9_stepOn_82 : decode cX9_stepOn 82 = .ok (.getfield 85, 3) := by decide +kernel
theorem dX9_stepOn_85 : decode cX9_stepOn 85 = .ok (.iload 4, 2) := by decide +kernel
theorem dX9_stepOn_87 : decode cX9_stepOn 87 = .ok (.laload, 1) := by decide +kernel
theorem dX9_stepOn_88 : decode cX9_stepOn 88 = .ok (.lconst 0, 1) := by decide +kernel
theorem dX9_stepOn_89 : decode cX9_stepOn 89 = .ok (.lcmp, 1) := by decide +kernel
theorem dX9_stepOn_90 : decode cX9_stepOn 90 = .ok (.ifCond .lt 61, 3) := by decide +kernel
theorem dX9_stepOn_93 : decode cX9_stepOn 93 = .ok (.aload_n 0, 1) := by decide +kernel
theorem dX9_stepOn_94 : decode cX9_stepOn 94 = .ok (.getfield 85, 3) := by decide +kernel
theorem dX9_stepOn_97 : decode cX9_stepOn 97 = .ok (.iload 4, 2) := by decide +kernel
theorem dX9_stepOn_99 : decode cX9_stepOn 99 = .ok (.laload, 1) := by decide +kernel
theorem dX9_stepOn_100 : decode cX9_stepOn 100 = .ok (.aload_n 0, 1) := by decide +kernel
theorem dX9_stepOn_101 : decode cX9_stepOn 101 = .ok (.iload_n 3, 1) := by decide +kernel
theorem dX9_stepOn_102 : decode cX9_stepOn 102 = .ok (.iconst 4, 1) := by decide +kernel
theorem dX9_stepOn_103 : decode cX9_stepOn 103 = .ok (.idiv, 1) := by decide +kernel
theorem dX9_stepOn_104 : decode cX9_stepOn 104 = .ok (.invokevirtual 136, 3) := by decide +kernel
theorem dX9_stepOn_107 : decode cX9_stepOn 107 = .ok (.i2l, 1) := by decide +kernel
theorem dX9_stepOn_108 : decode cX9_stepOn 108 = .ok (.ladd, 1) := by decide +kernel
theorem dX9_stepOn_109 : decode cX9_stepOn 109 = .ok (.lstore 5, 2) := by decide +kernel
theorem dX9_stepOn_111 : decode cX9_stepOn 111 = .ok (.aload_n 0, 1) := by decide +kernel
theorem dX9_stepOn_112 : decode cX9_stepOn 112 = .ok (.getfield 88, 3) := by decide +kernel
theorem dX9_stepOn_115 : decode cX9_stepOn 115 = .ok (.iload_n 3, 1) := by decide +kernel
theorem dX9_stepOn_116 : decode cX9_stepOn 116 = .ok (.aload_n 0, 1) := by decide +kernel
theorem dX9_stepOn_117 : decode cX9_stepOn 117 = .ok (.getfield 88, 3) := by decide +kernel
theorem dX9_stepOn_120 : decode cX9_stepOn 120 = .ok (.iload_n 3, 1) := by decide +kernel
theorem dX9_stepOn_121 : decode cX9_stepOn 121 = .ok (.laload, 1) := by decide +kernel
theorem dX9_stepOn_122 : decode cX9_stepOn 122 = .ok (.lconst 0, 1) := by decide +kernel
theorem dX9_stepOn_123 : decode cX9_stepOn 123 = .ok (.lcmp, 1) := by decide +kernel
theorem dX9_stepOn_124 : decode cX9_stepOn 124 = .ok (.ifCond .lt 15, 3) := by decide +kernel
theorem dX9_stepOn_127 : decode cX9_stepOn 127 = .ok (.lload 5, 2) := by decide +kernel
theorem dX9_stepOn_129 : decode cX9_stepOn 129 = .ok (.aload_n 0, 1) := by decide +kernel
theorem dX9_stepOn_130 : decode cX9_stepOn 130 = .ok (.getfield 88, 3) := by decide +kernel
theorem dX9_stepOn_133 : decode cX9_stepOn 133 = .ok (.iload_n 3, 1) := by decide +kernel
theorem dX9_stepOn_134 : decode cX9_stepOn 134 = .ok (.laload, 1) := by decide +kernel
theorem dX9_stepOn_135 : decode cX9_stepOn 135 = .ok (.lcmp, 1) := by decide +kernel
theorem dX9_stepOn_136 : decode cX9_stepOn 136 = .ok (.ifCond .ge 8, 3) := by decide +kernel
theorem dX9_stepOn_139 : decode cX9_stepOn 139 = .ok (.lload 5, 2) := by decide +kernel
theorem dX9_stepOn_141 : decode cX9_stepOn 141 = .ok (.goto 9, 3) := by decide +kernel
theorem dX9_stepOn_144 : decode cX9_stepOn 144 = .ok (.aload_n 0, 1) := by decide +kernel
theorem dX9_stepOn_145 : decode cX9_stepOn 145 = .ok (.getfield 88, 3) := by decide +kernel
theorem dX9_stepOn_148 : decode cX9_stepOn 148 = .ok (.iload_n 3, 1) := by decide +kernel
theorem dX9_stepOn_149 : decode cX9_stepOn 149 = .ok (.laload, 1) := by decide +kernel
theorem dX9_stepOn_150 : decode cX9_stepOn 150 = .ok (.lastore, 1) := by decide +kernel
theorem dX9_stepOn_151 : decode cX9_stepOn 151 = .ok (.iinc 4 1, 3) := by decide +kernel
theorem dX9_stepOn_154 : decode cX9_stepOn 154 = .ok (.goto (-126), 3) := by decide +kernel
theorem dX9_stepOn_157 : decode cX9_stepOn 157 = .ok (.iinc 3 1, 3) := by decide +kernel
theorem dX9_stepOn_160 : decode cX9_stepOn 160 = .ok (.goto (-158), 3) := by decide +kernel
theorem dX9_stepOn_163 : decode cX9_stepOn 163 = .ok (.iconst 0, 1) := by decide +kernel
theorem dX9_stepOn_164 : decode cX9_stepOn 164 = .ok (.istore_n 3, 1) := by decide +kernel
theorem dX9_stepOn_165 : decode cX9_stepOn 165 = .ok (.iload_n 3, 1) := by decide +kernel
theorem dX9_stepOn_166 : decode cX9_stepOn 166 = .ok (.bipush 64, 2) := by decide +kernel
theorem dX9_stepOn_168 : decode cX9_stepOn 168 = .ok (.if_icmp .ge 21, 3) := by decide +kernel
theorem dX9_stepOn_171 : decode cX9_stepOn 171 = .ok (.aload_n 0, 1) := by decide +kernel
theorem dX9_stepOn_172 : decode cX9_stepOn 172 = .ok (.getfield 85, 3) := by decide +kernel
theorem dX9_stepOn_175 : decode cX9_stepOn 175 = .ok (.iload_n 3, 1) := by decide +kernel
theorem dX9_stepOn_176 : decode cX9_stepOn 176 = .ok (.aload_n 0, 1) := by decide +kernel
theorem dX9_stepOn_177 : decode cX9_stepOn 177 = .ok (.getfield 88, 3) := by decide +kernel
theorem dX9_stepOn_180 : decode cX9_stepOn 180 = .ok (.iload_n 3, 1) := by decide +kernel
theorem dX9_stepOn_181 : decode cX9_stepOn 181 = .ok (.laload, 1) := by decide +kernel
theorem dX9_stepOn_182 : decode cX9_stepOn 182 = .ok (.lastore, 1) := by decide +kernel
theorem dX9_stepOn_183 : decode cX9_stepOn 183 = .ok (.iinc 3 1, 3) := by decide +kernel
theorem dX9_stepOn_186 : decode cX9_stepOn 186 = .ok (.goto (-21), 3) := by decide +kernel
theorem dX9_stepOn_189 : decode cX9_stepOn 189 = .ok (.return_, 1) := by decide +kernel
theorem dX9_bowl_0 : decode cX9_bowl 0 = .ok (.iload_n 1, 1) := by decide +kernel
theorem dX9_bowl_1 : decode cX9_bowl 1 = .ok (.iconst 2, 1) := by decide +kernel
theorem dX9_bowl_2 : decode cX9_bowl 2 = .ok (.bipush 12, 2) := by decide +kernel
theorem dX9_bowl_4 : decode cX9_bowl 4 = .ok (.invokestatic 97, 3) := by decide +kernel
theorem dX9_bowl_7 : decode cX9_bowl 7 = .ok (.ifCond .eq 22, 3) := by decide +kernel
theorem dX9_bowl_10 : decode cX9_bowl 10 = .ok (.iload_n 2, 1) := by decide +kernel
theorem dX9_bowl_11 : decode cX9_bowl 11 = .ok (.iconst 1, 1) := by decide +kernel
theorem dX9_bowl_12 : decode cX9_bowl 12 = .ok (.bipush 8, 2) := by decide +kernel
theorem dX9_bowl_14 : decode cX9_bowl 14 = .ok (.invokestatic 97, 3) := by decide +kernel
theorem dX9_bowl_17 : decode cX9_bowl 17 = .ok (.ifCond .eq 12, 3) := by decide +kernel
theorem dX9_bowl_20 : decode cX9_bowl 20 = .ok (.iload_n 3, 1) := by decide +kernel
theorem dX9_bowl_21 : decode cX9_bowl 21 = .ok (.iconst 0, 1) := by decide +kernel
theorem dX9_bowl_22 : decode cX9_bowl 22 = .ok (.iconst 1, 1) := by decide +kernel
theorem dX9_bowl_23 : decode cX9_bowl 23 = .ok (.invokestatic 97, 3) := by decide +kernel
theorem dX9_bowl_26 : decode cX9_bowl 26 = .ok (.ifCond .ne 5, 3) := by decide +kernel
theorem dX9_bowl_29 : decode cX9_bowl 29 = .ok (.iconst (-1), 1) := by decide +kernel
theorem dX9_bowl_30 : decode cX9_bowl 30 = .ok (.ireturn, 1) := by decide +kernel
theorem dX9_bowl_31 : decode cX9_bowl 31 = .ok (.aload_n 0, 1) := by decide +kernel
theorem dX9_bowl_32 : decode cX9_bowl 32 = .ok (.iload_n 2, 1) := by decide +kernel
theorem dX9_bowl_33 : decode cX9_bowl 33 = .ok (.invokevirtual 196, 3) := by decide +kernel
theorem dX9_bowl_36 : decode cX9_bowl 36 = .ok (.iload_n 3, 1) := by decide +kernel
theorem dX9_bowl_37 : decode cX9_bowl 37 = .ok (.iconst 1, 1) := by decide +kernel
theorem dX9_bowl_38 : decode cX9_bowl 38 = .ok (.if_icmp .ne 7, 3) := by decide +kernel
theorem dX9_bowl_41 : decode cX9_bowl 41 = .ok (.iconst 1, 1) := by decide +kernel
theorem dX9_bowl_42 : decode cX9_bowl 42 = .ok (.goto 4, 3) := by decide +kernel
theorem dX9_bowl_45 : decode cX9_bowl 45 = .ok (.iconst 0, 1) := by decide +kernel
theorem dX9_bowl_46 : decode cX9_bowl 46 = .ok (.istore 4, 2) := by decide +kernel
theorem dX9_bowl_48 : decode cX9_bowl 48 = .ok (.iload 4, 2) := by decide +kernel
theorem dX9_bowl_50 : decode cX9_bowl 50 = .ok (.ifCond .eq 9, 3) := by decide +kernel
theorem dX9_bowl_53 : decode cX9_bowl 53 = .ok (.ldc2_w 157, 3) := by decide +kernel
theorem dX9_bowl_56 : decode cX9_bowl 56 = .ok (.goto 4, 3) := by decide +kernel
theorem dX9_bowl_59 : decode cX9_bowl 59 = .ok (.lconst 0, 1) := by decide +kernel
theorem dX9_bowl_60 : decode cX9_bowl 60 = .ok (.lstore 5, 2) := by decide +kernel
theorem dX9_bowl_62 : decode cX9_bowl 62 = .ok (.iconst 0, 1) := by decide +kernel
theorem dX9_bowl_63 : decode cX9_bowl 63 = .ok (.istore 7, 2) := by decide +kernel
theorem dX9_bowl_65 : decode cX9_bowl 65 = .ok (.iload 7, 2) := by decide +kernel
theorem dX9_bowl_67 : decode cX9_bowl 67 = .ok (.bipush 64, 2) := by decide +kernel
theorem dX9_bowl_69 : decode cX9_bowl 69 = .ok (.if_icmp .ge 174, 3) := by decide +kernel
theorem dX9_bowl_72 : decode cX9_bowl 72 = .ok (.aload_n 0, 1) := by decide +kernel
theorem dX9_bowl_73 : decode cX9_bowl 73 = .ok (.iload 7, 2) := by decide +kernel
theorem dX9_bowl_75 : decode cX9_bowl 75 = .ok (.iload_n 2, 1) := by decide +kernel
theorem dX9_bowl_76 : decode cX9_bowl 76 = .ok (.invokevirtual 191, 3) := by decide +kernel
theorem dX9_bowl_79 : decode cX9_bowl 79 = .ok (.ifCond .eq 158, 3) := by decide +kernel
theorem dX9_bowl_82 : decode cX9_bowl 82 = .ok (.iconst 0, 1) := by decide +kernel
theorem dX9_bowl_83 : decode cX9_bowl 83 = .ok (.istore 8, 2) := by decide +kernel
theorem dX9_bowl_85 : decode cX9_bowl 85 = .ok (.iload 8, 2) := by decide +kernel
theorem dX9_bowl_87 : decode cX9_bowl 87 = .ok (.bipush 64, 2) := by decide +kernel
theorem dX9_bowl_89 : decode cX9_bowl 89 = .ok (.if_icmp .ge 61, 3) := by decide +kernel
theorem dX9_bowl_92 : decode cX9_bowl 92 = .ok (.aload_n 0, 1) := by decide +kernel
theorem dX9_bowl_93 : decode cX9_bowl 93 = .ok (.getfield 85, 3) := by decide +kernel
theorem dX9_bowl_96 : decode cX9_bowl 96 = .ok (.iload 8, 2) := by decide +kernel
theorem dX9_bowl_98 : decode cX9_bowl 98 = .ok (.iload 8, 2) := by decide +kernel
theorem dX9_bowl_100 : decode cX9_bowl 100 = .ok (.iload 7, 2) := by decide +kernel
theorem dX9_bowl_102 : decode cX9_bowl 102 = .ok (.if_icmp .ne 7, 3) := by decide +kernel
theorem dX9_bowl_105 : decode cX9_bowl 105 = .ok (.lconst 0, 1) := by decide +kernel
theorem dX9_bowl_106 : decode cX9_bowl 106 = .ok (.goto 6, 3) := by decide +kernel
theorem dX9_bowl_109 : decode cX9_bowl 109 = .ok (.ldc2_w 157, 3) := by decide +kernel
theorem dX9_bowl_112 : decode cX9_bowl 112 = .ok (.lastore, 1) := by decide +kernel
theorem dX9_bowl_113 : decode cX9_bowl 113 = .ok (.aload_n 0, 1) := by decide +kernel
theorem dX9_bowl_114 : decode cX9_bowl 114 = .ok (.getfield 85, 3) := by decide +kernel
theorem dX9_bowl_117 : decode cX9_bowl 117 = .ok (.iload 8, 2) := by decide +kernel
theorem dX9_bowl_119 : decode cX9_bowl 119 = .ok (.iload 4, 2) := by decide +kernel
theorem dX9_bowl_121 : decode cX9_bowl 121 = .ok (.ifCond .eq 13, 3) := by decide +kernel
theorem dX9_bowl_124 : decode cX9_bowl 124 = .ok (.aload_n 0, 1) := by decide +kernel
theorem dX9_bowl_125 : decode cX9_bowl 125 = .ok (.getfield 85, 3) := by decide +kernel
theorem dX9_bowl_128 : decode cX9_bowl 128 = .ok (.iload 8, 2) := by decide +kernel
theorem dX9_bowl_130 : decode cX9_bowl 130 = .ok (.laload, 1) := by decide +kernel
theorem dX9_bowl_131 : decode cX9_bowl 131 = .ok (.goto 12, 3) := by decide +kernel
theorem dX9_bowl_134 : decode cX9_bowl 134 = .ok (.aload_n 0, 1) := by decide +kernel
theorem dX9_bowl_135 : decode cX9_bowl 135 = .ok (.getfield 85, 3) := by decide +kernel
theorem dX9_bowl_138 : decode cX9_bowl 138 = .ok (.iload 8, 2) := by decide +kernel
theorem dX9_bowl_140 : decode cX9_bowl 140 = .ok (.laload, 1) := by decide +kernel
theorem dX9_bowl_141 : decode cX9_bowl 141 = .ok (.lconst 1, 1) := by decide +kernel
theorem dX9_bowl_142 : decode cX9_bowl 142 = .ok (.ladd, 1) := by decide +kernel
theorem dX9_bowl_143 : decode cX9_bowl 143 = .ok (.lastore, 1) := by decide +kernel
theorem dX9_bowl_144 : decode cX9_bowl 144 = .ok (.iinc 8 1, 3) := by decide +kernel
theorem dX9_bowl_147 : decode cX9_bowl 147 = .ok (.goto (-62), 3) := by decide +kernel
theorem dX9_bowl_150 : decode cX9_bowl 150 = .ok (.iconst 0, 1) := by decide +kernel
theorem dX9_bowl_151 : decode cX9_bowl 151 = .ok (.istore 8, 2) := by decide +kernel
theorem dX9_bowl_153 : decode cX9_bowl 153 = .ok (.iload 8, 2) := by decide +kernel
theorem dX9_bowl_155 : decode cX9_bowl 155 = .ok (.iload_n 1, 1) := by decide +kernel
theorem dX9_bowl_156 : decode cX9_bowl 156 = .ok (.if_icmp .ge 16, 3) := by decide +kernel
theorem dX9_bowl_159 : decode cX9_bowl 159 = .ok (.aload_n 0, 1) := by decide +kernel
theorem dX9_bowl_160 : decode cX9_bowl 160 = .ok (.iload_n 2, 1) := by decide +kernel
theorem dX9_bowl_161 : decode cX9_bowl 161 = .ok (.iload 4, 2) := by decide +kernel
theorem dX9_bowl_163 : decode cX9_bowl 163 = .ok (.invokevirtual 200, 3) := by decide +kernel
theorem dX9_bowl_166 : decode cX9_bowl 166 = .ok (.iinc 8 1, 3) := by decide +kernel
theorem dX9_bowl_169 : decode cX9_bowl 169 = .ok (.goto (-16), 3) := by decide +kernel
theorem dX9_bowl_172 : decode cX9_bowl 172 = .ok (.iload 4, 2) := by decide +kernel
theorem dX9_bowl_174 : decode cX9_bowl 174 = .ok (.ifCond .ne 22, 3) := by decide +kernel
theorem dX9_bowl_177 : decode cX9_bowl 177 = .ok (.lload 5, 2) := by decide +kernel
theorem dX9_bowl_179 : decode cX9_bowl 179 = .ok (.aload_n 0, 1) := by decide +kernel
theorem dX9_bowl_180 : decode cX9_bowl 180 = .ok (.getfield 85, 3) := by decide +kernel
theorem dX9_bowl_183 : decode cX9_bowl 183 = .ok (.iload 7, 2) := by decide +kernel
theorem dX9_bowl_185 : decode cX9_bowl 185 = .ok (.laload, 1) := by decide +kernel
theorem dX9_bowl_186 : decode cX9_bowl 186 = .ok (.ladd, 1) := by decide +kernel
theorem dX9_bowl_187 : decode cX9_bowl 187 = .ok (.ldc2_w 194, 3) := by decide +kernel
theorem dX9_bowl_190 : decode cX9_bowl 190 = .ok (.lrem, 1) := by decide +kernel
theorem dX9_bowl_191 : decode cX9_bowl 191 = .ok (.lstore 5, 2) := by decide +kernel
theorem dX9_bowl_193 : decode cX9_bowl 193 = .ok (.goto 44, 3) := by decide +kernel
theorem dX9_bowl_196 : decode cX9_bowl 196 = .ok (.aload_n 0, 1) := by decide +kernel
theorem dX9_bowl_197 : decode cX9_bowl 197 = .ok (.getfield 85, 3) := by decide +kernel
theorem dX9_bowl_200 : decode cX9_bowl 200 = .ok (.iload 7, 2) := by decide +kernel
theorem dX9_bowl_202 : decode cX9_bowl 202 = .ok (.laload, 1) := by decide +kernel
theorem dX9_bowl_203 : decode cX9_bowl 203 = .ok (.lconst 0, 1) := by decide +kernel
theorem dX9_bowl_204 : decode cX9_bowl 204 = .ok (.lcmp, 1) := by decide +kernel
theorem dX9_bowl_205 : decode cX9_bowl 205 = .ok (.ifCond .lt 32, 3) := by decide +kernel
theorem dX9_bowl_208 : decode cX9_bowl 208 = .ok (.lload 5, 2) := by decide +kernel
theorem dX9_bowl_210 : decode cX9_bowl 210 = .ok (.lconst 0, 1) := by decide +kernel
theorem dX9_bowl_211 : decode cX9_bowl 211 = .ok (.lcmp, 1) := by decide +kernel
theorem dX9_bowl_212 : decode cX9_bowl 212 = .ok (.ifCond .lt 16, 3) := by decide +kernel
theorem dX9_bowl_215 : decode cX9_bowl 215 = .ok (.aload_n 0, 1) := by decide +kernel
theorem dX9_bowl_216 : decode cX9_bowl 216 = .ok (.getfield 85, 3) := by decide +kernel
theorem dX9_bowl_219 : decode cX9_bowl 219 = .ok (.iload 7, 2) := by decide +kernel
theorem dX9_bowl_221 : decode cX9_bowl 221 = .ok (.laload, 1) := by decide +kernel
theorem dX9_bowl_222 : decode cX9_bowl 222 = .ok (.lload 5, 2) := by decide +kernel
theorem dX9_bowl_224 : decode cX9_bowl 224 = .ok (.lcmp, 1) := by decide +kernel
theorem dX9_bowl_225 : decode cX9_bowl 225 = .ok (.ifCond .ge 12, 3) := by decide +kernel
theorem dX9_bowl_228 : decode cX9_bowl 228 = .ok (.aload_n 0, 1) := by decide +kernel
theorem dX9_bowl_229 : decode cX9_bowl 229 = .ok (.getfield 85, 3) := by decide +kernel
theorem dX9_bowl_232 : decode cX9_bowl 232 = .ok (.iload 7, 2) := by decide +kernel
theorem dX9_bowl_234 : decode cX9_bowl 234 = .ok (.laload, 1) := by decide +kernel
theorem dX9_bowl_235 : decode cX9_bowl 235 = .ok (.lstore 5, 2) := by decide +kernel
theorem dX9_bowl_237 : decode cX9_bowl 237 = .ok (.iinc 7 1, 3) := by decide +kernel
theorem dX9_bowl_240 : decode cX9_bowl 240 = .ok (.goto (-175), 3) := by decide +kernel
theorem dX9_bowl_243 : decode cX9_bowl 243 = .ok (.lload 5, 2) := by decide +kernel
theorem dX9_bowl_245 : decode cX9_bowl 245 = .ok (.lconst 0, 1) := by decide +kernel
theorem dX9_bowl_246 : decode cX9_bowl 246 = .ok (.lcmp, 1) := by decide +kernel
theorem dX9_bowl_247 : decode cX9_bowl 247 = .ok (.ifCond .ge 8, 3) := by decide +kernel
theorem dX9_bowl_250 : decode cX9_bowl 250 = .ok (.bipush (-9), 2) := by decide +kernel
theorem dX9_bowl_252 : decode cX9_bowl 252 = .ok (.goto 6, 3) := by decide +kernel
theorem dX9_bowl_255 : decode cX9_bowl 255 = .ok (.lload 5, 2) := by decide +kernel
theorem dX9_bowl_257 : decode cX9_bowl 257 = .ok (.l2i, 1) := by decide +kernel
theorem dX9_bowl_258 : decode cX9_bowl 258 = .ok (.ireturn, 1) := by decide +kernel
theorem dX9_order_0 : decode cX9_order 0 = .ok (.iload_n 1, 1) := by decide +kernel
theorem dX9_order_1 : decode cX9_order 1 = .ok (.iconst 1, 1) := by decide +kernel
theorem dX9_order_2 : decode cX9_order 2 = .ok (.bipush 99, 2) := by decide +kernel
theorem dX9_order_4 : decode cX9_order 4 = .ok (.invokestatic 97, 3) := by decide +kernel
theorem dX9_order_7 : decode cX9_order 7 = .ok (.ifCond .ne 5, 3) := by decide +kernel
theorem dX9_order_10 : decode cX9_order 10 = .ok (.iconst (-1), 1) := by decide +kernel
theorem dX9_order_11 : decode cX9_order 11 = .ok (.ireturn, 1) := by decide +kernel
theorem dX9_order_12 : decode cX9_order 12 = .ok (.aload_n 0, 1) := by decide +kernel
theorem dX9_order_13 : decode cX9_order 13 = .ok (.getfield 204, 3) := by decide +kernel
theorem dX9_order_16 : decode cX9_order 16 = .ok (.bipush 8, 2) := by decide +kernel
theorem dX9_order_18 : decode cX9_order 18 = .ok (.if_icmp .ne 6, 3) := by decide +kernel
theorem dX9_order_21 : decode cX9_order 21 = .ok (.bipush (-3), 2) := by decide +kernel
theorem dX9_order_23 : decode cX9_order 23 = .ok (.ireturn, 1) := by decide +kernel
theorem dX9_order_24 : decode cX9_order 24 = .ok (.aload_n 0, 1) := by decide +kernel
theorem dX9_order_25 : decode cX9_order 25 = .ok (.getfield 57, 3) := by decide +kernel
theorem dX9_order_28 : decode cX9_order 28 = .ok (.aload_n 0, 1) := by decide +kernel
theorem dX9_order_29 : decode cX9_order 29 = .ok (.getfield 204, 3) := by decide +kernel
theorem dX9_order_32 : decode cX9_order 32 = .ok (.iload_n 1, 1) := by decide +kernel
theorem dX9_order_33 : decode cX9_order 33 = .ok (.iastore, 1) := by decide +kernel
theorem dX9_order_34 : decode cX9_order 34 = .ok (.aload_n 0, 1) := by decide +kernel
theorem dX9_order_35 : decode cX9_order 35 = .ok (.dup, 1) := by decide +kernel
theorem dX9_order_36 : decode cX9_order 36 = .ok (.getfield 204, 3) := by decide +kernel
theorem dX9_order_39 : decode cX9_order 39 = .ok (.iconst 1, 1) := by decide +kernel
theorem dX9_order_40 : decode cX9_order 40 = .ok (.iadd, 1) := by decide +kernel
theorem dX9_order_41 : decode cX9_order 41 = .ok (.putfield 204, 3) := by decide +kernel
theorem dX9_order_44 : decode cX9_order 44 = .ok (.aload_n 0, 1) := by decide +kernel
theorem dX9_order_45 : decode cX9_order 45 = .ok (.getfield 204, 3) := by decide +kernel
theorem dX9_order_48 : decode cX9_order 48 = .ok (.ireturn, 1) := by decide +kernel
theorem dX9_clear_0 : decode cX9_clear 0 = .ok (.aload_n 0, 1) := by decide +kernel
theorem dX9_clear_1 : decode cX9_clear 1 = .ok (.getfield 204, 3) := by decide +kernel
theorem dX9_clear_4 : decode cX9_clear 4 = .ok (.istore_n 1, 1) := by decide +kernel
theorem dX9_clear_5 : decode cX9_clear 5 = .ok (.aload_n 0, 1) := by decide +kernel
theorem dX9_clear_6 : decode cX9_clear 6 = .ok (.iconst 0, 1) := by decide +kernel
theorem dX9_clear_7 : decode cX9_clear 7 = .ok (.putfield 204, 3) := by decide +kernel
theorem dX9_clear_10 : decode cX9_clear 10 = .ok (.iload_n 1, 1) := by decide +kernel
theorem dX9_clear_11 : decode cX9_clear 11 = .ok (.ireturn, 1) := by decide +kernel
theorem dX9_saw_0 : decode cX9_saw 0 = .ok (.iload_n 1, 1) := by decide +kernel
theorem dX9_saw_1 : decode cX9_saw 1 = .ok (.iconst 0, 1) := by decide +kernel
theorem dX9_saw_2 : decode cX9_saw 2 = .ok (.iconst 3, 1) := by decide +kernel
theorem dX9_saw_3 : decode cX9_saw 3 = .ok (.invokestatic 97, 3) := by decide +kernel
theorem dX9_saw_6 : decode cX9_saw 6 = .ok (.ifCond .ne 5, 3) := by decide +kernel
theorem dX9_saw_9 : decode cX9_saw 9 = .ok (.iconst (-1), 1) := by decide +kernel
theorem dX9_saw_10 : decode cX9_saw 10 = .ok (.ireturn, 1) := by decide +kernel
theorem dX9_saw_11 : decode cX9_saw 11 = .ok (.aload_n 0, 1) := by decide +kernel
theorem dX9_saw_12 : decode cX9_saw 12 = .ok (.getfield 60, 3) := by decide +kernel
theorem dX9_saw_15 : decode cX9_saw 15 = .ok (.istore_n 2, 1) := by decide +kernel
theorem dX9_saw_16 : decode cX9_saw 16 = .ok (.aload_n 0, 1) := by decide +kernel
theorem dX9_saw_17 : decode cX9_saw 17 = .ok (.iload_n 1, 1) := by decide +kernel
theorem dX9_saw_18 : decode cX9_saw 18 = .ok (.putfield 60, 3) := by decide +kernel
theorem dX9_saw_21 : decode cX9_saw 21 = .ok (.iload_n 2, 1) := by decide +kernel
theorem dX9_saw_22 : decode cX9_saw 22 = .ok (.ireturn, 1) := by decide +kernel
theorem dX9_isOneStick_0 : decode cX9_isOneStick 0 = .ok (.iconst 0, 1) := by decide +kernel
theorem dX9_isOneStick_1 : decode cX9_isOneStick 1 = .ok (.istore_n 3, 1) := by decide +kernel
theorem dX9_isOneStick_2 : decode cX9_isOneStick 2 = .ok (.iconst 0, 1) := by decide +kernel
theorem dX9_isOneStick_3 : decode cX9_isOneStick 3 = .ok (.istore 4, 2) := by decide +kernel
theorem dX9_isOneStick_5 : decode cX9_isOneStick 5 = .ok (.iconst 0, 1) := by decide +kernel
theorem dX9_isOneStick_6 : decode cX9_isOneStick 6 = .ok (.istore 5, 2) := by decide +kernel
theorem dX9_isOneStick_8 : decode cX9_isOneStick 8 = .ok (.iload 5, 2) := by decide +kernel
theorem dX9_isOneStick_10 : decode cX9_isOneStick 10 = .ok (.aload_n 0, 1) := by decide +kernel
theorem dX9_isOneStick_11 : decode cX9_isOneStick 11 = .ok (.getfield 204, 3) := by decide +kernel
theorem dX9_isOneStick_14 : decode cX9_isOneStick 14 = .ok (.if_icmp .ge 44, 3) := by decide +kernel
theorem dX9_isOneStick_17 : decode cX9_isOneStick 17 = .ok (.iload_n 3, 1) := by decide +kernel
theorem dX9_isOneStick_18 : decode cX9_isOneStick 18 = .ok (.iload_n 1, 1) := by decide +kernel
theorem dX9_isOneStick_19 : decode cX9_isOneStick 19 = .ok (.iload 5, 2) := by decide +kernel
theorem dX9_isOneStick_21 : decode cX9_isOneStick 21 = .ok (.ishr, 1) := by decide +kernel
theorem dX9_isOneStick_22 : decode cX9_isOneStick 22 = .ok (.iconst 1, 1) := by decide +kernel
theorem dX9_isOneStick_23 : decode cX9_isOneStick 23 = .ok (.iand, 1) := by decide +kernel
theorem dX9_isOneStick_24 : decode cX9_isOneStick 24 = .ok (.iconst 1, 1) := by decide +kernel
theorem dX9_isOneStick_25 : decode cX9_isOneStick 25 = .ok (.if_icmp .ne 13, 3) := by decide +kernel
theorem dX9_isOneStick_28 : decode cX9_isOneStick 28 = .ok (.aload_n 0, 1) := by decide +kernel
theorem dX9_isOneStick_29 : decode cX9_isOneStick 29 = .ok (.getfield 57, 3) := by decide +kernel
theorem dX9_isOneStick_32 : decode cX9_isOneStick 32 = .ok (.iload 5, 2) := by decide +kernel
theorem dX9_isOneStick_34 : decode cX9_isOneStick 34 = .ok (.iaload, 1) := by decide +kernel
theorem dX9_isOneStick_35 : decode cX9_isOneStick 35 = .ok (.goto 4, 3) := by decide +kernel
theorem dX9_isOneStick_38 : decode cX9_isOneStick 38 = .ok (.iconst 0, 1) := by decide +kernel
theorem dX9_isOneStick_39 : decode cX9_isOneStick 39 = .ok (.iadd, 1) := by decide +kernel
theorem dX9_isOneStick_40 : decode cX9_isOneStick 40 = .ok (.istore_n 3, 1) := by decide +kernel
theorem dX9_isOneStick_41 : decode cX9_isOneStick 41 = .ok (.iload 4, 2) := by decide +kernel
theorem dX9_isOneStick_43 : decode cX9_isOneStick 43 = .ok (.iload_n 1, 1) := by decide +kernel
theorem dX9_isOneStick_44 : decode cX9_isOneStick 44 = .ok (.iload 5, 2) := by decide +kernel
theorem dX9_isOneStick_46 : decode cX9_isOneStick 46 = .ok (.ishr, 1) := by decide +kernel
theorem dX9_isOneStick_47 : decode cX9_isOneStick 47 = .ok (.iconst 1, 1) := by decide +kernel
theorem dX9_isOneStick_48 : decode cX9_isOneStick 48 = .ok (.iand, 1) := by decide +kernel
theorem dX9_isOneStick_49 : decode cX9_isOneStick 49 = .ok (.iadd, 1) := by decide +kernel
theorem dX9_isOneStick_50 : decode cX9_isOneStick 50 = .ok (.istore 4, 2) := by decide +kernel
theorem dX9_isOneStick_52 : decode cX9_isOneStick 52 = .ok (.iinc 5 1, 3) := by decide +kernel
theorem dX9_isOneStick_55 : decode cX9_isOneStick 55 = .ok (.goto (-47), 3) := by decide +kernel
theorem dX9_isOneStick_58 : decode cX9_isOneStick 58 = .ok (.iload_n 3, 1) := by decide +kernel
theorem dX9_isOneStick_59 : decode cX9_isOneStick 59 = .ok (.iload 4, 2) := by decide +kernel
theorem dX9_isOneStick_61 : decode cX9_isOneStick 61 = .ok (.aload_n 0, 1) := by decide +kernel
theorem dX9_isOneStick_62 : decode cX9_isOneStick 62 = .ok (.getfield 60, 3) := by decide +kernel
theorem dX9_isOneStick_65 : decode cX9_isOneStick 65 = .ok (.imul, 1) := by decide +kernel
theorem dX9_isOneStick_66 : decode cX9_isOneStick 66 = .ok (.iadd, 1) := by decide +kernel
theorem dX9_isOneStick_67 : decode cX9_isOneStick 67 = .ok (.iload_n 2, 1) := by decide +kernel
theorem dX9_isOneStick_68 : decode cX9_isOneStick 68 = .ok (.if_icmp .le 18, 3) := by decide +kernel
theorem dX9_isOneStick_71 : decode cX9_isOneStick 71 = .ok (.iload_n 3, 1) := by decide +kernel
theorem dX9_isOneStick_72 : decode cX9_isOneStick 72 = .ok (.iload 4, 2) := by decide +kernel
theorem dX9_isOneStick_74 : decode cX9_isOneStick 74 = .ok (.iconst 1, 1) := by decide +kernel
theorem dX9_isOneStick_75 : decode cX9_isOneStick 75 = .ok (.isub, 1) := by decide +kernel
theorem dX9_isOneStick_76 : decode cX9_isOneStick 76 = .ok (.aload_n 0, 1) := by decide +kernel
theorem dX9_isOneStick_77 : decode cX9_isOneStick 77 = .ok (.getfield 60, 3) := by decide +kernel
theorem dX9_isOneStick_80 : decode cX9_isOneStick 80 = .ok (.imul, 1) := by decide +kernel
theorem dX9_isOneStick_81 : decode cX9_isOneStick 81 = .ok (.iadd, 1) := by decide +kernel
theorem dX9_isOneStick_82 : decode cX9_isOneStick 82 = .ok (.iload_n 2, 1) := by decide +kernel
theorem dX9_isOneStick_83 : decode cX9_isOneStick 83 = .ok (.if_icmp .ne 7, 3) := by decide +kernel
theorem dX9_isOneStick_86 : decode cX9_isOneStick 86 = .ok (.iconst 1, 1) := by decide +kernel
theorem dX9_isOneStick_87 : decode cX9_isOneStick 87 = .ok (.goto 4, 3) := by decide +kernel
theorem dX9_isOneStick_90 : decode cX9_isOneStick 90 = .ok (.iconst 0, 1) := by decide +kernel
theorem dX9_isOneStick_91 : decode cX9_isOneStick 91 = .ok (.ireturn, 1) := by decide +kernel
theorem dX9_sticks_0 : decode cX9_sticks 0 = .ok (.iload_n 1, 1) := by decide +kernel
theorem dX9_sticks_1 : decode cX9_sticks 1 = .ok (.iconst 1, 1) := by decide +kernel
theorem dX9_sticks_2 : decode cX9_sticks 2 = .ok (.sipush 300, 3) := by decide +kernel
theorem dX9_sticks_5 : decode cX9_sticks 5 = .ok (.invokestatic 97, 3) := by decide +kernel
theorem dX9_sticks_8 : decode cX9_sticks 8 = .ok (.ifCond .ne 5, 3) := by decide +kernel
theorem dX9_sticks_11 : decode cX9_sticks 11 = .ok (.iconst (-1), 1) := by decide +kernel
theorem dX9_sticks_12 : decode cX9_sticks 12 = .ok (.ireturn, 1) := by decide +kernel
theorem dX9_sticks_13 : decode cX9_sticks 13 = .ok (.aload_n 0, 1) := by decide +kernel
theorem dX9_sticks_14 : decode cX9_sticks 14 = .ok (.getfield 91, 3) := by decide +kernel
theorem dX9_sticks_17 : decode cX9_sticks 17 = .ok (.iconst 0, 1) := by decide +kernel
theorem dX9_sticks_18 : decode cX9_sticks 18 = .ok (.iconst 0, 1) := by decide +kernel
theorem dX9_sticks_19 : decode cX9_sticks 19 = .ok (.iastore, 1) := by decide +kernel
theorem dX9_sticks_20 : decode cX9_sticks 20 = .ok (.iconst 1, 1) := by decide +kernel
theorem dX9_sticks_21 : decode cX9_sticks 21 = .ok (.istore_n 2, 1) := by decide +kernel
theorem dX9_sticks_22 : decode cX9_sticks 22 = .ok (.iload_n 2, 1) := by decide +kernel
theorem dX9_sticks_23 : decode cX9_sticks 23 = .ok (.iconst 1, 1) := by decide +kernel
theorem dX9_sticks_24 : decode cX9_sticks 24 = .ok (.aload_n 0, 1) := by decide +kernel
theorem dX9_sticks_25 : decode cX9_sticks 25 = .ok (.getfield 204, 3) := by decide +kernel
theorem dX9_sticks_28 : decode cX9_sticks 28 = .ok (.ishl, 1) := by decide +kernel
theorem dX9_sticks_29 : decode cX9_sticks 29 = .ok (.if_icmp .ge 94, 3) := by decide +kernel
theorem dX9_sticks_32 : decode cX9_sticks 32 = .ok (.aload_n 0, 1) := by decide +kernel
theorem dX9_sticks_33 : decode cX9_sticks 33 = .ok (.getfield 91, 3) := by decide +kernel
theorem dX9_sticks_36 : decode cX9_sticks 36 = .ok (.iload_n 2, 1) := by decide +kernel
theorem dX9_sticks_37 : decode cX9_sticks 37 = .ok (.bipush (-9), 2) := by decide +kernel
theorem dX9_sticks_39 : decode cX9_sticks 39 = .ok (.iastore, 1) := by decide +kernel
theorem dX9_sticks_40 : decode cX9_sticks 40 = .ok (.iload_n 2, 1) := by decide +kernel
theorem dX9_sticks_41 : decode cX9_sticks 41 = .ok (.istore_n 3, 1) := by decide +kernel
theorem dX9_sticks_42 : decode cX9_sticks 42 = .ok (.iload_n 3, 1) := by decide +kernel
theorem dX9_sticks_43 : decode cX9_sticks 43 = .ok (.ifCond .le 74, 3) := by decide +kernel
theorem dX9_sticks_46 : decode cX9_sticks 46 = .ok (.aload_n 0, 1) := by decide +kernel
theorem dX9_sticks_47 : decode cX9_sticks 47 = .ok (.getfield 91, 3) := by decide +kernel
theorem dX9_sticks_50 : decode cX9_sticks 50 = .ok (.iload_n 2, 1) := by decide +kernel
theorem dX9_sticks_51 : decode cX9_sticks 51 = .ok (.iload_n 3, 1) := by decide +kernel
theorem dX9_sticks_52 : decode cX9_sticks 52 = .ok (.iconst (-1), 1) := by decide +kernel
theorem dX9_sticks_53 : decode cX9_sticks 53 = .ok (.ixor, 1) := by decide +kernel
theorem dX9_sticks_54 : decode cX9_sticks 54 = .ok (.iand, 1) := by decide +kernel
theorem dX9_sticks_55 : decode cX9_sticks 55 = .ok (.iaload, 1) := by decide +kernel
theorem dX9_sticks_56 : decode cX9_sticks 56 = .ok (.istore 4, 2) := by decide +kernel
theorem dX9_sticks_58 : decode cX9_sticks 58 = .ok (.iload 4, 2) := by decide +kernel
theorem dX9_sticks_60 : decode cX9_sticks 60 = .ok (.bipush (-9), 2) := by decide +kernel
theorem dX9_sticks_62 : decode cX9_sticks 62 = .ok (.if_icmp .eq 46, 3) := by decide +kernel
theorem dX9_sticks_65 : decode cX9_sticks 65 = .ok (.aload_n 0, 1) := by decide +kernel
theorem dX9_sticks_66 : decode cX9_sticks 66 = .ok (.getfield 91, 3) := by decide +kernel
theorem dX9_sticks_69 : decode cX9_sticks 69 = .ok (.iload_n 2, 1) := by decide +kernel
theorem dX9_sticks_70 : decode cX9_sticks 70 = .ok (.iaload, 1) := by decide +kernel
theorem dX9_sticks_71 : decode cX9_sticks 71 = .ok (.bipush (-9), 2) := by decide +kernel
theorem dX9_sticks_73 : decode cX9_sticks 73 = .ok (.if_icmp .eq 16, 3) := by decide +kernel
theorem dX9_sticks_76 : decode cX9_sticks 76 = .ok (.iload 4, 2) := by decide +kernel
theorem dX9_sticks_78 : decode cX9_sticks 78 = .ok (.iconst 1, 1) := by decide +kernel
theorem dX9_sticks_79 : decode cX9_sticks 79 = .ok (.iadd, 1) := by decide +kernel
theorem dX9_sticks_80 : decode cX9_sticks 80 = .ok (.aload_n 0, 1) := by decide +kernel
theorem dX9_sticks_81 : decode cX9_sticks 81 = .ok (.getfield 91, 3) := by decide +kernel
theorem dX9_sticks_84 : decode cX9_sticks 84 = .ok (.iload_n 2, 1) := by decide +kernel
theorem dX9_sticks_85 : decode cX9_sticks 85 = .ok (.iaload, 1) := by decide +kernel
theorem dX9_sticks_86 : decode cX9_sticks 86 = .ok (.if_icmp .ge 22, 3) := by decide +kernel
theorem dX9_sticks_89 : decode cX9_sticks 89 = .ok (.aload_n 0, 1) := by decide +kernel
theorem dX9_sticks_90 : decode cX9_sticks 90 = .ok (.iload_n 3, 1) := by decide +kernel
theorem dX9_sticks_91 : decode cX9_sticks 91 = .ok (.iload_n 1, 1) := by decide +kernel
theorem dX9_sticks_92 : decode cX9_sticks 92 = .ok (.invokevirtual 207, 3) := by decide +kernel
theorem dX9_sticks_95 : decode cX9_sticks 95 = .ok (.ifCond .eq 13, 3) := by decide +kernel
theorem dX9_sticks_98 : decode cX9_sticks 98 = .ok (.aload_n 0, 1) := by decide +kernel
theorem dX9_sticks_99 : decode cX9_sticks 99 = .ok (.getfield 91, 3) := by decide +kernel
theorem dX9_sticks_102 : decode cX9_sticks 102 = .ok (.iload_n 2, 1) := by decide +kernel
theorem dX9_sticks_103 : decode cX9_sticks 103 = .ok (.iload 4, 2) := by decide +kernel
theorem dX9_sticks_105 : decode cX9_sticks 105 = .ok (.iconst 1, 1) := by decide +kernel
theorem dX9_sticks_106 : decode cX9_sticks 106 = .ok (.iadd, 1) := by decide +kernel
theorem dX9_sticks_107 : decode cX9_sticks 107 = .ok (.iastore, 1) := by decide +kernel
theorem dX9_sticks_108 : decode cX9_sticks 108 = .ok (.iload_n 3, 1) := by decide +kernel
theorem dX9_sticks_109 : decode cX9_sticks 109 = .ok (.iconst 1, 1) := by decide +kernel
theorem dX9_sticks_110 : decode cX9_sticks 110 = .ok (.isub, 1) := by decide +kernel
theorem dX9_sticks_111 : decode cX9_sticks 111 = .ok (.iload_n 2, 1) := by decide +kernel
theorem dX9_sticks_112 : decode cX9_sticks 112 = .ok (.iand, 1) := by decide +kernel
theorem dX9_sticks_113 : decode cX9_sticks 113 = .ok (.istore_n 3, 1) := by decide +kernel
theorem dX9_sticks_114 : decode cX9_sticks 114 = .ok (.goto (-72), 3) := by decide +kernel
theorem dX9_sticks_117 : decode cX9_sticks 117 = .ok (.iinc 2 1, 3) := by decide +kernel
theorem dX9_sticks_120 : decode cX9_sticks 120 = .ok (.goto (-98), 3) := by decide +kernel
theorem dX9_sticks_123 : decode cX9_sticks 123 = .ok (.aload_n 0, 1) := by decide +kernel
theorem dX9_sticks_124 : decode cX9_sticks 124 = .ok (.getfield 91, 3) := by decide +kernel
theorem dX9_sticks_127 : decode cX9_sticks 127 = .ok (.iconst 1, 1) := by decide +kernel
theorem dX9_sticks_128 : decode cX9_sticks 128 = .ok (.aload_n 0, 1) := by decide +kernel
theorem dX9_sticks_129 : decode cX9_sticks 129 = .ok (.getfield 204, 3) := by decide +kernel
theorem dX9_sticks_132 : decode cX9_sticks 132 = .ok (.ishl, 1) := by decide +kernel
theorem dX9_sticks_133 : decode cX9_sticks 133 = .ok (.iconst 1, 1) := by decide +kernel
theorem dX9_sticks_134 : decode cX9_sticks 134 = .ok (.isub, 1) := by decide +kernel
theorem dX9_sticks_135 : decode cX9_sticks 135 = .ok (.iaload, 1) := by decide +kernel
theorem dX9_sticks_136 : decode cX9_sticks 136 = .ok (.ireturn, 1) := by decide +kernel
theorem dX9_bitsIn_0 : decode cX9_bitsIn 0 = .ok (.iconst 0, 1) := by decide +kernel
theorem dX9_bitsIn_1 : decode cX9_bitsIn 1 = .ok (.istore_n 1, 1) := by decide +kernel
theorem dX9_bitsIn_2 : decode cX9_bitsIn 2 = .ok (.iconst 0, 1) := by decide +kernel
theorem dX9_bitsIn_3 : decode cX9_bitsIn 3 = .ok (.istore_n 2, 1) := by decide +kernel
theorem dX9_bitsIn_4 : decode cX9_bitsIn 4 = .ok (.iload_n 2, 1) := by decide +kernel
theorem dX9_bitsIn_5 : decode cX9_bitsIn 5 = .ok (.bipush 9, 2) := by decide +kernel
theorem dX9_bitsIn_7 : decode cX9_bitsIn 7 = .ok (.if_icmp .ge 17, 3) := by decide +kernel
theorem dX9_bitsIn_10 : decode cX9_bitsIn 10 = .ok (.iload_n 1, 1) := by decide +kernel
theorem dX9_bitsIn_11 : decode cX9_bitsIn 11 = .ok (.iload_n 0, 1) := by decide +kernel
theorem dX9_bitsIn_12 : decode cX9_bitsIn 12 = .ok (.iload_n 2, 1) := by decide +kernel
theorem dX9_bitsIn_13 : decode cX9_bitsIn 13 = .ok (.ishr, 1) := by decide +kernel
theorem dX9_bitsIn_14 : decode cX9_bitsIn 14 = .ok (.iconst 1, 1) := by decide +kernel
theorem dX9_bitsIn_15 : decode cX9_bitsIn 15 = .ok (.iand, 1) := by decide +kernel
theorem dX9_bitsIn_16 : decode cX9_bitsIn 16 = .ok (.iadd, 1) := by decide +kernel
theorem dX9_bitsIn_17 : decode cX9_bitsIn 17 = .ok (.istore_n 1, 1) := by decide +kernel
theorem dX9_bitsIn_18 : decode cX9_bitsIn 18 = .ok (.iinc 2 1, 3) := by decide +kernel
theorem dX9_bitsIn_21 : decode cX9_bitsIn 21 = .ok (.goto (-17), 3) := by decide +kernel
theorem dX9_bitsIn_24 : decode cX9_bitsIn 24 = .ok (.iload_n 1, 1) := by decide +kernel
theorem dX9_bitsIn_25 : decode cX9_bitsIn 25 = .ok (.ireturn, 1) := by decide +kernel
theorem dX9_goes_0 : decode cX9_goes 0 = .ok (.iload_n 0, 1) := by decide +kernel
theorem dX9_goes_1 : decode cX9_goes 1 = .ok (.iconst 2, 1) := by decide +kernel
theorem dX9_goes_2 : decode cX9_goes 2 = .ok (.irem, 1) := by decide +kernel
theorem dX9_goes_3 : decode cX9_goes 3 = .ok (.ifCond .ne 7, 3) := by decide +kernel
theorem dX9_goes_6 : decode cX9_goes 6 = .ok (.iconst 1, 1) := by decide +kernel
theorem dX9_goes_7 : decode cX9_goes 7 = .ok (.goto 4, 3) := by decide +kernel
theorem dX9_goes_10 : decode cX9_goes 10 = .ok (.iconst (-1), 1) := by decide +kernel
theorem dX9_goes_11 : decode cX9_goes 11 = .ok (.istore_n 3, 1) := by decide +kernel
theorem dX9_goes_12 : decode cX9_goes 12 = .ok (.iload_n 0, 1) := by decide +kernel
theorem dX9_goes_13 : decode cX9_goes 13 = .ok (.iconst 2, 1) := by decide +kernel
theorem dX9_goes_14 : decode cX9_goes 14 = .ok (.idiv, 1) := by decide +kernel
theorem dX9_goes_15 : decode cX9_goes 15 = .ok (.istore 4, 2) := by decide +kernel
theorem dX9_goes_17 : decode cX9_goes 17 = .ok (.iload_n 1, 1) := by decide +kernel
theorem dX9_goes_18 : decode cX9_goes 18 = .ok (.iload 4, 2) := by decide +kernel
theorem dX9_goes_20 : decode cX9_goes 20 = .ok (.ishr, 1) := by decide +kernel
theorem dX9_goes_21 : decode cX9_goes 21 = .ok (.iconst 1, 1) := by decide +kernel
theorem dX9_goes_22 : decode cX9_goes 22 = .ok (.iand, 1) := by decide +kernel
theorem dX9_goes_23 : decode cX9_goes 23 = .ok (.iconst 1, 1) := by decide +kernel
theorem dX9_goes_24 : decode cX9_goes 24 = .ok (.if_icmp .ne 7, 3) := by decide +kernel
theorem dX9_goes_27 : decode cX9_goes 27 = .ok (.iload_n 3, 1) := by decide +kernel
theorem dX9_goes_28 : decode cX9_goes 28 = .ok (.goto 19, 3) := by decide +kernel
theorem dX9_goes_31 : decode cX9_goes 31 = .ok (.iload_n 2, 1) := by decide +kernel
theorem dX9_goes_32 : decode cX9_goes 32 = .ok (.iload 4, 2) := by decide +kernel
theorem dX9_goes_34 : decode cX9_goes 34 = .ok (.ishr, 1) := by decide +kernel
theorem dX9_goes_35 : decode cX9_goes 35 = .ok (.iconst 1, 1) := by decide +kernel
theorem dX9_goes_36 : decode cX9_goes 36 = .ok (.iand, 1) := by decide +kernel
theorem dX9_goes_37 : decode cX9_goes 37 = .ok (.iconst 1, 1) := by decide +kernel
theorem dX9_goes_38 : decode cX9_goes 38 = .ok (.if_icmp .ne 8, 3) := by decide +kernel
theorem dX9_goes_41 : decode cX9_goes 41 = .ok (.iload_n 3, 1) := by decide +kernel
theorem dX9_goes_42 : decode cX9_goes 42 = .ok (.ineg, 1) := by decide +kernel
theorem dX9_goes_43 : decode cX9_goes 43 = .ok (.goto 4, 3) := by decide +kernel
theorem dX9_goes_46 : decode cX9_goes 46 = .ok (.iconst 0, 1) := by decide +kernel
theorem dX9_goes_47 : decode cX9_goes 47 = .ok (.ireturn, 1) := by decide +kernel
theorem dX9_isLeft_0 : decode cX9_isLeft 0 = .ok (.iconst 1, 1) := by decide +kernel
theorem dX9_isLeft_1 : decode cX9_isLeft 1 = .ok (.istore_n 2, 1) := by decide +kernel
theorem dX9_isLeft_2 : decode cX9_isLeft 2 = .ok (.iconst 0, 1) := by decide +kernel
theorem dX9_isLeft_3 : decode cX9_isLeft 3 = .ok (.istore_n 3, 1) := by decide +kernel
theorem dX9_isLeft_4 : decode cX9_isLeft 4 = .ok (.iload_n 3, 1) := by decide +kernel
theorem dX9_isLeft_5 : decode cX9_isLeft 5 = .ok (.aload_n 0, 1) := by decide +kernel
theorem dX9_isLeft_6 : decode cX9_isLeft 6 = .ok (.getfield 210, 3) := by decide +kernel
theorem dX9_isLeft_9 : decode cX9_isLeft 9 = .ok (.if_icmp .ge 44, 3) := by decide +kernel
theorem dX9_isLeft_12 : decode cX9_isLeft 12 = .ok (.iload_n 2, 1) := by decide +kernel
theorem dX9_isLeft_13 : decode cX9_isLeft 13 = .ok (.ifCond .eq 32, 3) := by decide +kernel
theorem dX9_isLeft_16 : decode cX9_isLeft 16 = .ok (.iload_n 1, 1) := by decide +kernel
theorem dX9_isLeft_17 : decode cX9_isLeft 17 = .ok (.aload_n 0, 1) := by decide +kernel
theorem dX9_isLeft_18 : decode cX9_isLeft 18 = .ok (.getfield 63, 3) := by decide +kernel
theorem dX9_isLeft_21 : decode cX9_isLeft 21 = .ok (.iload_n 3, 1) := by decide +kernel
theorem dX9_isLeft_22 : decode cX9_isLeft 22 = .ok (.iaload, 1) := by decide +kernel
theorem dX9_isLeft_23 : decode cX9_isLeft 23 = .ok (.aload_n 0, 1) := by decide +kernel
theorem dX9_isLeft_24 : decode cX9_isLeft 24 = .ok (.getfield 66, 3) := by decide +kernel
theorem dX9_isLeft_27 : decode cX9_isLeft 27 = .ok (.iload_n 3, 1) := by decide +kernel
theorem dX9_isLeft_28 : decode cX9_isLeft 28 = .ok (.iaload, 1) := by decide +kernel
theorem dX9_isLeft_29 : decode cX9_isLeft 29 = .ok (.invokestatic 213, 3) := by decide +kernel
theorem dX9_isLeft_32 : decode cX9_isLeft 32 = .ok (.aload_n 0, 1) := by decide +kernel
theorem dX9_isLeft_33 : decode cX9_isLeft 33 = .ok (.getfield 69, 3) := by decide +kernel
theorem dX9_isLeft_36 : decode cX9_isLeft 36 = .ok (.iload_n 3, 1) := by decide +kernel
theorem dX9_isLeft_37 : decode cX9_isLeft 37 = .ok (.iaload, 1) := by decide +kernel
theorem dX9_isLeft_38 : decode cX9_isLeft 38 = .ok (.if_icmp .ne 7, 3) := by decide +kernel
theorem dX9_isLeft_41 : decode cX9_isLeft 41 = .ok (.iconst 1, 1) := by decide +kernel
theorem dX9_isLeft_42 : decode cX9_isLeft 42 = .ok (.goto 4, 3) := by decide +kernel
theorem dX9_isLeft_45 : decode cX9_isLeft 45 = .ok (.iconst 0, 1) := by decide +kernel
theorem dX9_isLeft_46 : decode cX9_isLeft 46 = .ok (.istore_n 2, 1) := by decide +kernel
theorem dX9_isLeft_47 : decode cX9_isLeft 47 = .ok (.iinc 3 1, 3) := by decide +kernel
theorem dX9_isLeft_50 : decode cX9_isLeft 50 = .ok (.goto (-46), 3) := by decide +kernel
theorem dX9_isLeft_53 : decode cX9_isLeft 53 = .ok (.iload_n 2, 1) := by decide +kernel
theorem dX9_isLeft_54 : decode cX9_isLeft 54 = .ok (.ireturn, 1) := by decide +kernel
theorem dX9_leftMany_0 : decode cX9_leftMany 0 = .ok (.iconst 0, 1) := by decide +kernel
theorem dX9_leftMany_1 : decode cX9_leftMany 1 = .ok (.istore_n 1, 1) := by decide +kernel
theorem dX9_leftMany_2 : decode cX9_leftMany 2 = .ok (.iconst 0, 1) := by decide +kernel
theorem dX9_leftMany_3 : decode cX9_leftMany 3 = .ok (.istore_n 2, 1) := by decide +kernel
theorem dX9_leftMany_4 : decode cX9_leftMany 4 = .ok (.iload_n 2, 1) := by decide +kernel
theorem dX9_leftMany_5 : decode cX9_leftMany 5 = .ok (.bipush 18, 2) := by decide +kernel
theorem dX9_leftMany_7 : decode cX9_leftMany 7 = .ok (.if_icmp .ge 25, 3) := by decide +kernel
theorem dX9_leftMany_10 : decode cX9_leftMany 10 = .ok (.iload_n 1, 1) := by decide +kernel
theorem dX9_leftMany_11 : decode cX9_leftMany 11 = .ok (.aload_n 0, 1) := by decide +kernel
theorem dX9_leftMany_12 : decode cX9_leftMany 12 = .ok (.iload_n 2, 1) := by decide +kernel
theorem dX9_leftMany_13 : decode cX9_leftMany 13 = .ok (.invokevirtual 216, 3) := by decide +kernel
theorem dX9_leftMany_16 : decode cX9_leftMany 16 = .ok (.ifCond .eq 7, 3) := by decide +kernel
theorem dX9_leftMany_19 : decode cX9_leftMany 19 = .ok (.iconst 1, 1) := by decide +kernel
theorem dX9_leftMany_20 : decode cX9_leftMany 20 = .ok (.goto 4, 3) := by decide +kernel
theorem dX9_leftMany_23 : decode cX9_leftMany 23 = .ok (.iconst 0, 1) := by decide +kernel
theorem dX9_leftMany_24 : decode cX9_leftMany 24 = .ok (.iadd, 1) := by decide +kernel
theorem dX9_leftMany_25 : decode cX9_leftMany 25 = .ok (.istore_n 1, 1) := by decide +kernel
theorem dX9_leftMany_26 : decode cX9_leftMany 26 = .ok (.iinc 2 1, 3) := by decide +kernel
theorem dX9_leftMany_29 : decode cX9_leftMany 29 = .ok (.goto (-25), 3) := by decide +kernel
theorem dX9_leftMany_32 : decode cX9_leftMany 32 = .ok (.iload_n 1, 1) := by decide +kernel
theorem dX9_leftMany_33 : decode cX9_leftMany 33 = .ok (.ireturn, 1) := by decide +kernel
theorem dX9_isWeighing_0 : decode cX9_isWeighing 0 = .ok (.iload_n 0, 1) := by decide +kernel
theorem dX9_isWeighing_1 : decode cX9_isWeighing 1 = .ok (.iconst 1, 1) := by decide +kernel
theorem dX9_isWeighing_2 : decode cX9_isWeighing 2 = .ok (.sipush 511, 3) := by decide +kernel
theorem dX9_isWeighing_5 : decode cX9_isWeighing 5 = .ok (.invokestatic 97, 3) := by decide +kernel
theorem dX9_isWeighing_8 : decode cX9_isWeighing 8 = .ok (.ifCond .eq 35, 3) := by decide +kernel
theorem dX9_isWeighing_11 : decode cX9_isWeighing 11 = .ok (.iload_n 1, 1) := by decide +kernel
theorem dX9_isWeighing_12 : decode cX9_isWeighing 12 = .ok (.iconst 1, 1) := by decide +kernel
theorem dX9_isWeighing_13 : decode cX9_isWeighing 13 = .ok (.sipush 511, 3) := by decide +kernel
theorem dX9_isWeighing_16 : decode cX9_isWeighing 16 = .ok (.invokestatic 97, 3) := by decide +kernel
theorem dX9_isWeighing_19 : decode cX9_isWeighing 19 = .ok (.ifCond .eq 24, 3) := by decide +kernel
theorem dX9_isWeighing_22 : decode cX9_isWeighing 22 = .ok (.iload_n 0, 1) := by decide +kernel
theorem dX9_isWeighing_23 : decode cX9_isWeighing 23 = .ok (.iload_n 1, 1) := by decide +kernel
theorem dX9_isWeighing_24 : decode cX9_isWeighing 24 = .ok (.iand, 1) := by decide +kernel
theorem dX9_isWeighing_25 : decode cX9_isWeighing 25 = .ok (.ifCond .ne 18, 3) := by decide +kernel
theorem dX9_isWeighing_28 : decode cX9_isWeighing 28 = .ok (.iload_n 0, 1) := by decide +kernel
theorem dX9_isWeighing_29 : decode cX9_isWeighing 29 = .ok (.invokestatic 219, 3) := by decide +kernel
theorem dX9_isWeighing_32 : decode cX9_isWeighing 32 = .ok (.iload_n 1, 1) := by decide +kernel
theorem dX9_isWeighing_33 : decode cX9_isWeighing 33 = .ok (.invokestatic 219, 3) := by decide +kernel
theorem dX9_isWeighing_36 : decode cX9_isWeighing 36 = .ok (.if_icmp .ne 7, 3) := by decide +kernel
theorem dX9_isWeighing_39 : decode cX9_isWeighing 39 = .ok (.iconst 1, 1) := by decide +kernel
theorem dX9_isWeighing_40 : decode cX9_isWeighing 40 = .ok (.goto 4, 3) := by decide +kernel
theorem dX9_isWeighing_43 : decode cX9_isWeighing 43 = .ok (.iconst 0, 1) := by decide +kernel
theorem dX9_isWeighing_44 : decode cX9_isWeighing 44 = .ok (.ireturn, 1) := by decide +kernel
theorem dX9_weigh_0 : decode cX9_weigh 0 = .ok (.iload_n 1, 1) := by decide +kernel
theorem dX9_weigh_1 : decode cX9_weigh 1 = .ok (.iload_n 2, 1) := by decide +kernel
theorem dX9_weigh_2 : decode cX9_weigh 2 = .ok (.invokestatic 222, 3) := by decide +kernel
theorem dX9_weigh_5 : decode cX9_weigh 5 = .ok (.ifCond .eq 12, 3) := by decide +kernel
theorem dX9_weigh_8 : decode cX9_weigh 8 = .ok (.iload_n 3, 1) := by decide +kernel
theorem dX9_weigh_9 : decode cX9_weigh 9 = .ok (.iconst (-1), 1) := by decide +kernel
theorem dX9_weigh_10 : decode cX9_weigh 10 = .ok (.iconst 1, 1) := by decide +kernel
theorem dX9_weigh_11 : decode cX9_weigh 11 = .ok (.invokestatic 97, 3) := by decide +kernel
theorem dX9_weigh_14 : decode cX9_weigh 14 = .ok (.ifCond .ne 5, 3) := by decide +kernel
theorem dX9_weigh_17 : decode cX9_weigh 17 = .ok (.iconst (-1), 1) := by decide +kernel
theorem dX9_weigh_18 : decode cX9_weigh 18 = .ok (.ireturn, 1) := by decide +kernel
theorem dX9_weigh_19 : decode cX9_weigh 19 = .ok (.aload_n 0, 1) := by decide +kernel
theorem dX9_weigh_20 : decode cX9_weigh 20 = .ok (.getfield 210, 3) := by decide +kernel
theorem dX9_weigh_23 : decode cX9_weigh 23 = .ok (.bipush 6, 2) := by decide +kernel
theorem dX9_weigh_25 : decode cX9_weigh 25 = .ok (.if_icmp .ne 6, 3) := by decide +kernel
theorem dX9_weigh_28 : decode cX9_weigh 28 = .ok (.bipush (-3), 2) := by decide +kernel
theorem dX9_weigh_30 : decode cX9_weigh 30 = .ok (.ireturn, 1) := by decide +kernel
theorem dX9_weigh_31 : decode cX9_weigh 31 = .ok (.aload_n 0, 1) := by decide +kernel
theorem dX9_weigh_32 : decode cX9_weigh 32 = .ok (.getfield 63, 3) := by decide +kernel
theorem dX9_weigh_35 : decode cX9_weigh 35 = .ok (.aload_n 0, 1) := by decide +kernel
theorem dX9_weigh_36 : decode cX9_weigh 36 = .ok (.getfield 210, 3) := by decide +kernel
theorem dX9_weigh_39 : decode cX9_weigh 39 = .ok (.iload_n 1, 1) := by decide +kernel
theorem dX9_weigh_40 : decode cX9_weigh 40 = .ok (.iastore, 1) := by decide +kernel
theorem dX9_weigh_41 : decode cX9_weigh 41 = .ok (.aload_n 0, 1) := by decide +kernel
theorem dX9_weigh_42 : decode cX9_weigh 42 = .ok (.getfield 66, 3) := by decide +kernel
theorem dX9_weigh_45 : decode cX9_weigh 45 = .ok (.aload_n 0, 1) := by decide +kernel
theorem dX9_weigh_46 : decode cX9_weigh 46 = .ok (.getfield 210, 3) := by decide +kernel
theorem dX9_weigh_49 : decode cX9_weigh 49 = .ok (.iload_n 2, 1) := by decide +kernel
theorem dX9_weigh_50 : decode cX9_weigh 50 = .ok (.iastore, 1) := by decide +kernel
theorem dX9_weigh_51 : decode cX9_weigh 51 = .ok (.aload_n 0, 1) := by decide +kernel
theorem dX9_weigh_52 : decode cX9_weigh 52 = .ok (.getfield 69, 3) := by decide +kernel
theorem dX9_weigh_55 : decode cX9_weigh 55 = .ok (.aload_n 0, 1) := by decide +kernel
theorem dX9_weigh_56 : decode cX9_weigh 56 = .ok (.getfield 210, 3) := by decide +kernel
theorem dX9_weigh_59 : decode cX9_weigh 59 = .ok (.iload_n 3, 1) := by decide +kernel
theorem dX9_weigh_60 : decode cX9_weigh 60 = .ok (.iastore, 1) := by decide +kernel
theorem dX9_weigh_61 : decode cX9_weigh 61 = .ok (.aload_n 0, 1) := by decide +kernel
theorem dX9_weigh_62 : decode cX9_weigh 62 = .ok (.dup, 1) := by decide +kernel
theorem dX9_weigh_63 : decode cX9_weigh 63 = .ok (.getfield 210, 3) := by decide +kernel
theorem dX9_weigh_66 : decode cX9_weigh 66 = .ok (.iconst 1, 1) := by decide +kernel
theorem dX9_weigh_67 : decode cX9_weigh 67 = .ok (.iadd, 1) := by decide +kernel
theorem dX9_weigh_68 : decode cX9_weigh 68 = .ok (.putfield 210, 3) := by decide +kernel
theorem dX9_weigh_71 : decode cX9_weigh 71 = .ok (.aload_n 0, 1) := by decide +kernel
theorem dX9_weigh_72 : decode cX9_weigh 72 = .ok (.invokevirtual 225, 3) := by decide +kernel
theorem dX9_weigh_75 : decode cX9_weigh 75 = .ok (.ireturn, 1) := by decide +kernel
theorem dX9_anew_0 : decode cX9_anew 0 = .ok (.aload_n 0, 1) := by decide +kernel
theorem dX9_anew_1 : decode cX9_anew 1 = .ok (.getfield 210, 3) := by decide +kernel
theorem dX9_anew_4 : decode cX9_anew 4 = .ok (.istore_n 1, 1) := by decide +kernel
theorem dX9_anew_5 : decode cX9_anew 5 = .ok (.aload_n 0, 1) := by decide +kernel
theorem dX9_anew_6 : decode cX9_anew 6 = .ok (.iconst 0, 1) := by decide +kernel
theorem dX9_anew_7 : decode cX9_anew 7 = .ok (.putfield 210, 3) := by decide +kernel
theorem dX9_anew_10 : decode cX9_anew 10 = .ok (.iload_n 1, 1) := by decide +kernel
theorem dX9_anew_11 : decode cX9_anew 11 = .ok (.ireturn, 1) := by decide +kernel
theorem dX9_bad_0 : decode cX9_bad 0 = .ok (.iload_n 1, 1) := by decide +kernel
theorem dX9_bad_1 : decode cX9_bad 1 = .ok (.iconst 0, 1) := by decide +kernel
theorem dX9_bad_2 : decode cX9_bad 2 = .ok (.iconst 2, 1) := by decide +kernel
theorem dX9_bad_3 : decode cX9_bad 3 = .ok (.invokestatic 97, 3) := by decide +kernel
theorem dX9_bad_6 : decode cX9_bad 6 = .ok (.ifCond .ne 5, 3) := by decide +kernel
theorem dX9_bad_9 : decode cX9_bad 9 = .ok (.iconst (-1), 1) := by decide +kernel
theorem dX9_bad_10 : decode cX9_bad 10 = .ok (.ireturn, 1) := by decide +kernel
theorem dX9_bad_11 : decode cX9_bad 11 = .ok (.iload_n 1, 1) := by decide +kernel
theorem dX9_bad_12 : decode cX9_bad 12 = .ok (.ifCond .ne 8, 3) := by decide +kernel
theorem dX9_bad_15 : decode cX9_bad 15 = .ok (.aload_n 0, 1) := by decide +kernel
theorem dX9_bad_16 : decode cX9_bad 16 = .ok (.invokevirtual 225, 3) := by decide +kernel
theorem dX9_bad_19 : decode cX9_bad 19 = .ok (.ireturn, 1) := by decide +kernel
theorem dX9_bad_20 : decode cX9_bad 20 = .ok (.iconst 0, 1) := by decide +kernel
theorem dX9_bad_21 : decode cX9_bad 21 = .ok (.istore_n 2, 1) := by decide +kernel
theorem dX9_bad_22 : decode cX9_bad 22 = .ok (.iload_n 1, 1) := by decide +kernel
theorem dX9_bad_23 : decode cX9_bad 23 = .ok (.iconst 1, 1) := by decide +kernel
theorem dX9_bad_24 : decode cX9_bad 24 = .ok (.isub, 1) := by decide +kernel
theorem dX9_bad_25 : decode cX9_bad 25 = .ok (.istore_n 3, 1) := by decide +kernel
theorem dX9_bad_26 : decode cX9_bad 26 = .ok (.iload_n 3, 1) := by decide +kernel
theorem dX9_bad_27 : decode cX9_bad 27 = .ok (.bipush 18, 2) := by decide +kernel
theorem dX9_bad_29 : decode cX9_bad 29 = .ok (.if_icmp .ge 29, 3) := by decide +kernel
theorem dX9_bad_32 : decode cX9_bad 32 = .ok (.iload_n 2, 1) := by decide +kernel
theorem dX9_bad_33 : decode cX9_bad 33 = .ok (.aload_n 0, 1) := by decide +kernel
theorem dX9_bad_34 : decode cX9_bad 34 = .ok (.iload_n 3, 1) := by decide +kernel
theorem dX9_bad_35 : decode cX9_bad 35 = .ok (.invokevirtual 216, 3) := by decide +kernel
theorem dX9_bad_38 : decode cX9_bad 38 = .ok (.ifCond .eq 11, 3) := by decide +kernel
theorem dX9_bad_41 : decode cX9_bad 41 = .ok (.iconst 1, 1) := by decide +kernel
theorem dX9_bad_42 : decode cX9_bad 42 = .ok (.iload_n 3, 1) := by decide +kernel
theorem dX9_bad_43 : decode cX9_bad 43 = .ok (.iconst 2, 1) := by decide +kernel
theorem dX9_bad_44 : decode cX9_bad 44 = .ok (.idiv, 1) := by decide +kernel
theorem dX9_bad_45 : decode cX9_bad 45 = .ok (.ishl, 1) := by decide +kernel
theorem dX9_bad_46 : decode cX9_bad 46 = .ok (.goto 4, 3) := by decide +kernel
theorem dX9_bad_49 : decode cX9_bad 49 = .ok (.iconst 0, 1) := by decide +kernel
theorem dX9_bad_50 : decode cX9_bad 50 = .ok (.ior, 1) := by decide +kernel
theorem dX9_bad_51 : decode cX9_bad 51 = .ok (.istore_n 2, 1) := by decide +kernel
theorem dX9_bad_52 : decode cX9_bad 52 = .ok (.iinc 3 2, 3) := by decide +kernel
theorem dX9_bad_55 : decode cX9_bad 55 = .ok (.goto (-29), 3) := by decide +kernel
theorem dX9_bad_58 : decode cX9_bad 58 = .ok (.iload_n 2, 1) := by decide +kernel
theorem dX9_bad_59 : decode cX9_bad 59 = .ok (.ireturn, 1) := by decide +kernel
theorem dX9_worst_0 : decode cX9_worst 0 = .ok (.iconst 0, 1) := by decide +kernel
theorem dX9_worst_1 : decode cX9_worst 1 = .ok (.istore_n 3, 1) := by decide +kernel
theorem dX9_worst_2 : decode cX9_worst 2 = .ok (.iconst 0, 1) := by decide +kernel
theorem dX9_worst_3 : decode cX9_worst 3 = .ok (.istore 4, 2) := by decide +kernel
theorem dX9_worst_5 : decode cX9_worst 5 = .ok (.iconst 0, 1) := by decide +kernel
theorem dX9_worst_6 : decode cX9_worst 6 = .ok (.istore 5, 2) := by decide +kernel
theorem dX9_worst_8 : decode cX9_worst 8 = .ok (.iconst 0, 1) := by decide +kernel
theorem dX9_worst_9 : decode cX9_worst 9 = .ok (.istore 6, 2) := by decide +kernel
theorem dX9_worst_11 : decode cX9_worst 11 = .ok (.iload 6, 2) := by decide +kernel
theorem dX9_worst_13 : decode cX9_worst 13 = .ok (.bipush 18, 2) := by decide +kernel
theorem dX9_worst_15 : decode cX9_worst 15 = .ok (.if_icmp .ge 71, 3) := by decide +kernel
theorem dX9_worst_18 : decode cX9_worst 18 = .ok (.aload_n 0, 1) := by decide +kernel
theorem dX9_worst_19 : decode cX9_worst 19 = .ok (.getfield 94, 3) := by decide +kernel
theorem dX9_worst_22 : decode cX9_worst 22 = .ok (.iload 6, 2) := by decide +kernel
theorem dX9_worst_24 : decode cX9_worst 24 = .ok (.baload, 1) := by decide +kernel
theorem dX9_worst_25 : decode cX9_worst 25 = .ok (.ifCond .eq 55, 3) := by decide +kernel
theorem dX9_worst_28 : decode cX9_worst 28 = .ok (.iload 6, 2) := by decide +kernel
theorem dX9_worst_30 : decode cX9_worst 30 = .ok (.iload_n 1, 1) := by decide +kernel
theorem dX9_worst_31 : decode cX9_worst 31 = .ok (.iload_n 2, 1) := by decide +kernel
theorem dX9_worst_32 : decode cX9_worst 32 = .ok (.invokestatic 213, 3) := by decide +kernel
theorem dX9_worst_35 : decode cX9_worst 35 = .ok (.istore 7, 2) := by decide +kernel
theorem dX9_worst_37 : decode cX9_worst 37 = .ok (.iload_n 3, 1) := by decide +kernel
theorem dX9_worst_38 : decode cX9_worst 38 = .ok (.iload 7, 2) := by decide +kernel
theorem dX9_worst_40 : decode cX9_worst 40 = .ok (.ifCond .ge 7, 3) := by decide +kernel
theorem dX9_worst_43 : decode cX9_worst 43 = .ok (.iconst 1, 1) := by decide +kernel
theorem dX9_worst_44 : decode cX9_worst 44 = .ok (.goto 4, 3) := by decide +kernel
theorem dX9_worst_47 : decode cX9_worst 47 = .ok (.iconst 0, 1) := by decide +kernel
theorem dX9_worst_48 : decode cX9_worst 48 = .ok (.iadd, 1) := by decide +kernel
theorem dX9_worst_49 : decode cX9_worst 49 = .ok (.istore_n 3, 1) := by decide +kernel
theorem dX9_worst_50 : decode cX9_worst 50 = .ok (.iload 4, 2) := by decide +kernel
theorem dX9_worst_52 : decode cX9_worst 52 = .ok (.iload 7, 2) := by decide +kernel
theorem dX9_worst_54 : decode cX9_worst 54 = .ok (.ifCond .ne 7, 3) := by decide +kernel
theorem dX9_worst_57 : decode cX9_worst 57 = .ok (.iconst 1, 1) := by decide +kernel
theorem dX9_worst_58 : decode cX9_worst 58 = .ok (.goto 4, 3) := by decide +kernel
theorem dX9_worst_61 : decode cX9_worst 61 = .ok (.iconst 0, 1) := by decide +kernel
theorem dX9_worst_62 : decode cX9_worst 62 = .ok (.iadd, 1) := by decide +kernel
theorem dX9_worst_63 : decode cX9_worst 63 = .ok (.istore 4, 2) := by decide +kernel
theorem dX9_worst_65 : decode cX9_worst 65 = .ok (.iload 5, 2) := by decide +kernel
theorem dX9_worst_67 : decode cX9_worst 67 = .ok (.iload 7, 2) := by decide +kernel
theorem dX9_worst_69 : decode cX9_worst 69 = .ok (.ifCond .le 7, 3) := by decide +kernel
theorem dX9_worst_72 : decode cX9_worst 72 = .ok (.iconst 1, 1) := by decide +kernel
theorem dX9_worst_73 : decode cX9_worst 73 = .ok (.goto 4, 3) := by decide +kernel
theorem dX9_worst_76 : decode cX9_worst 76 = .ok (.iconst 0, 1) := by decide +kernel
theorem dX9_worst_77 : decode cX9_worst 77 = .ok (.iadd, 1) := by decide +kernel
theorem dX9_worst_78 : decode cX9_worst 78 = .ok (.istore 5, 2) := by decide +kernel
theorem dX9_worst_80 : decode cX9_worst 80 = .ok (.iinc 6 1, 3) := by decide +kernel
theorem dX9_worst_83 : decode cX9_worst 83 = .ok (.goto (-72), 3) := by decide +kernel
theorem dX9_worst_86 : decode cX9_worst 86 = .ok (.iload_n 3, 1) := by decide +kernel
theorem dX9_worst_87 : decode cX9_worst 87 = .ok (.iload 5, 2) := by decide +kernel
theorem dX9_worst_89 : decode cX9_worst 89 = .ok (.if_icmp .le 7, 3) := by decide +kernel
theorem dX9_worst_92 : decode cX9_worst 92 = .ok (.iload_n 3, 1) := by decide +kernel
theorem dX9_worst_93 : decode cX9_worst 93 = .ok (.goto 5, 3) := by decide +kernel
theorem dX9_worst_96 : decode cX9_worst 96 = .ok (.iload 5, 2) := by decide +kernel
theorem dX9_worst_98 : decode cX9_worst 98 = .ok (.istore 6, 2) := by decide +kernel
theorem dX9_worst_100 : decode cX9_worst 100 = .ok (.iload 4, 2) := by decide +kernel
theorem dX9_worst_102 : decode cX9_worst 102 = .ok (.iload 6, 2) := by decide +kernel
theorem dX9_worst_104 : decode cX9_worst 104 = .ok (.if_icmp .le 8, 3) := by decide +kernel
theorem dX9_worst_107 : decode cX9_worst 107 = .ok (.iload 4, 2) := by decide +kernel
theorem dX9_worst_109 : decode cX9_worst 109 = .ok (.goto 5, 3) := by decide +kernel
theorem dX9_worst_112 : decode cX9_worst 112 = .ok (.iload 6, 2) := by decide +kernel
theorem dX9_worst_114 : decode cX9_worst 114 = .ok (.ireturn, 1) := by decide +kernel
theorem dX9_next_0 : decode cX9_next 0 = .ok (.iload_n 1, 1) := by decide +kernel
theorem dX9_next_1 : decode cX9_next 1 = .ok (.iconst 0, 1) := by decide +kernel
theorem dX9_next_2 : decode cX9_next 2 = .ok (.iconst 2, 1) := by decide +kernel
theorem dX9_next_3 : decode cX9_next 3 = .ok (.invokestatic 97, 3) := by decide +kernel
theorem dX9_next_6 : decode cX9_next 6 = .ok (.ifCond .ne 5, 3) := by decide +kernel
theorem dX9_next_9 : decode cX9_next 9 = .ok (.iconst (-1), 1) := by decide +kernel
theorem dX9_next_10 : decode cX9_next 10 = .ok (.ireturn, 1) := by decide +kernel
theorem dX9_next_11 : decode cX9_next 11 = .ok (.iconst 0, 1) := by decide +kernel
theorem dX9_next_12 : decode cX9_next 12 = .ok (.istore_n 2, 1) := by decide +kernel
theorem dX9_next_13 : decode cX9_next 13 = .ok (.iconst 0, 1) := by decide +kernel
theorem dX9_next_14 : decode cX9_next 14 = .ok (.istore_n 3, 1) := by decide +kernel
theorem dX9_next_15 : decode cX9_next 15 = .ok (.iload_n 3, 1) := by decide +kernel
theorem dX9_next_16 : decode cX9_next 16 = .ok (.bipush 18, 2) := by decide +kernel
theorem dX9_next_18 : decode cX9_next 18 = .ok (.if_icmp .ge 37, 3) := by decide +kernel
theorem dX9_next_21 : decode cX9_next 21 = .ok (.aload_n 0, 1) := by decide +kernel
theorem dX9_next_22 : decode cX9_next 22 = .ok (.getfield 94, 3) := by decide +kernel
theorem dX9_next_25 : decode cX9_next 25 = .ok (.iload_n 3, 1) := by decide +kernel
theorem dX9_next_26 : decode cX9_next 26 = .ok (.aload_n 0, 1) := by decide +kernel
theorem dX9_next_27 : decode cX9_next 27 = .ok (.iload_n 3, 1) := by decide +kernel
theorem dX9_next_28 : decode cX9_next 28 = .ok (.invokevirtual 216, 3) := by decide +kernel
theorem dX9_next_31 : decode cX9_next 31 = .ok (.bastore, 1) := by decide +kernel
theorem dX9_next_32 : decode cX9_next 32 = .ok (.iload_n 2, 1) := by decide +kernel
theorem dX9_next_33 : decode cX9_next 33 = .ok (.aload_n 0, 1) := by decide +kernel
theorem dX9_next_34 : decode cX9_next 34 = .ok (.getfield 94, 3) := by decide +kernel
theorem dX9_next_37 : decode cX9_next 37 = .ok (.iload_n 3, 1) := by decide +kernel
theorem dX9_next_38 : decode cX9_next 38 = .ok (.baload, 1) := by decide +kernel
theorem dX9_next_39 : decode cX9_next 39 = .ok (.ifCond .eq 7, 3) := by decide +kernel
theorem dX9_next_42 : decode cX9_next 42 = .ok (.iconst 1, 1) := by decide +kernel
theorem dX9_next_43 : decode cX9_next 43 = .ok (.goto 4, 3) := by decide +kernel
theorem dX9_next_46 : decode cX9_next 46 = .ok (.iconst 0, 1) := by decide +kernel
theorem dX9_next_47 : decode cX9_next 47 = .ok (.iadd, 1) := by decide +kernel
theorem dX9_next_48 : decode cX9_next 48 = .ok (.istore_n 2, 1) := by decide +kernel
theorem dX9_next_49 : decode cX9_next 49 = .ok (.iinc 3 1, 3) := by decide +kernel
theorem dX9_next_52 : decode cX9_next 52 = .ok (.goto (-37), 3) := by decide +kernel
theorem dX9_next_55 : decode cX9_next 55 = .ok (.iload_n 2, 1) := by decide +kernel
theorem dX9_next_56 : decode cX9_next 56 = .ok (.ifCond .ne 6, 3) := by decide +kernel
theorem dX9_next_59 : decode cX9_next 59 = .ok (.bipush (-2), 2) := by decide +kernel
theorem dX9_next_61 : decode cX9_next 61 = .ok (.ireturn, 1) := by decide +kernel
theorem dX9_next_62 : decode cX9_next 62 = .ok (.bipush (-9), 2) := by decide +kernel
theorem dX9_next_64 : decode cX9_next 64 = .ok (.istore_n 3, 1) := by decide +kernel
theorem dX9_next_65 : decode cX9_next 65 = .ok (.bipush (-9), 2) := by decide +kernel
theorem dX9_next_67 : decode cX9_next 67 = .ok (.istore 4, 2) := by decide +kernel
theorem dX9_next_69 : decode cX9_next 69 = .ok (.bipush (-9), 2) := by decide +kernel
theorem dX9_next_71 : decode cX9_next 71 = .ok (.istore 5, 2) := by decide +kernel
theorem dX9_next_73 : decode cX9_next 73 = .ok (.iconst 1, 1) := by decide +kernel
theorem dX9_next_74 : decode cX9_next 74 = .ok (.istore 6, 2) := by decide +kernel
theorem dX9_next_76 : decode cX9_next 76 = .ok (.iload 6, 2) := by decide +kernel
theorem dX9_next_78 : decode cX9_next 78 = .ok (.sipush 512, 3) := by decide +kernel
theorem dX9_next_81 : decode cX9_next 81 = .ok (.if_icmp .ge 113, 3) := by decide +kernel
theorem dX9_next_84 : decode cX9_next 84 = .ok (.sipush 511, 3) := by decide +kernel
theorem dX9_next_87 : decode cX9_next 87 = .ok (.iload 6, 2) := by decide +kernel
theorem dX9_next_89 : decode cX9_next 89 = .ok (.iconst (-1), 1) := by decide +kernel
theorem dX9_next_90 : decode cX9_next 90 = .ok (.ixor, 1) := by decide +kernel
theorem dX9_next_91 : decode cX9_next 91 = .ok (.iand, 1) := by decide +kernel
theorem dX9_next_92 : decode cX9_next 92 = .ok (.istore 7, 2) := by decide +kernel
theorem dX9_next_94 : decode cX9_next 94 = .ok (.iconst 1, 1) := by decide +kernel
theorem dX9_next_95 : decode cX9_next 95 = .ok (.istore 8, 2) := by decide +kernel
theorem dX9_next_97 : decode cX9_next 97 = .ok (.iload 8, 2) := by decide +kernel
theorem dX9_next_99 : decode cX9_next 99 = .ok (.sipush 512, 3) := by decide +kernel
theorem dX9_next_102 : decode cX9_next 102 = .ok (.if_icmp .ge 86, 3) := by decide +kernel
theorem dX9_next_105 : decode cX9_next 105 = .ok (.iload 8, 2) := by decide +kernel
theorem dX9_next_107 : decode cX9_next 107 = .ok (.iload 7, 2) := by decide +kernel
theorem dX9_next_109 : decode cX9_next 109 = .ok (.iconst (-1), 1) := by decide +kernel
theorem dX9_next_110 : decode cX9_next 110 = .ok (.ixor, 1) := by decide +kernel
theorem dX9_next_111 : decode cX9_next 111 = .ok (.iand, 1) := by decide +kernel
theorem dX9_next_112 : decode cX9_next 112 = .ok (.ifCond .ne 70, 3) := by decide +kernel
theorem dX9_next_115 : decode cX9_next 115 = .ok (.iload 6, 2) := by decide +kernel
theorem dX9_next_117 : decode cX9_next 117 = .ok (.invokestatic 219, 3) := by decide +kernel
theorem dX9_next_120 : decode cX9_next 120 = .ok (.iload 8, 2) := by decide +kernel
theorem dX9_next_122 : decode cX9_next 122 = .ok (.invokestatic 219, 3) := by decide +kernel
theorem dX9_next_125 : decode cX9_next 125 = .ok (.if_icmp .ne 57, 3) := by decide +kernel
theorem dX9_next_128 : decode cX9_next 128 = .ok (.aload_n 0, 1) := by decide +kernel
theorem dX9_next_129 : decode cX9_next 129 = .ok (.iload 6, 2) := by decide +kernel
theorem dX9_next_131 : decode cX9_next 131 = .ok (.iload 8, 2) := by decide +kernel
theorem dX9_next_133 : decode cX9_next 133 = .ok (.invokevirtual 229, 3) := by decide +kernel
theorem dX9_next_136 : decode cX9_next 136 = .ok (.istore 9, 2) := by decide +kernel
theorem dX9_next_138 : decode cX9_next 138 = .ok (.iload 5, 2) := by decide +kernel
theorem dX9_next_140 : decode cX9_next 140 = .ok (.bipush (-9), 2) := by decide +kernel
theorem dX9_next_142 : decode cX9_next 142 = .ok (.if_icmp .eq 29, 3) := by decide +kernel
theorem dX9_next_145 : decode cX9_next 145 = .ok (.iload 9, 2) := by decide +kernel
theorem dX9_next_147 : decode cX9_next 147 = .ok (.iload 5, 2) := by decide +kernel
theorem dX9_next_149 : decode cX9_next 149 = .ok (.if_icmp .lt 22, 3) := by decide +kernel
theorem dX9_next_152 : decode cX9_next 152 = .ok (.iload 9, 2) := by decide +kernel
theorem dX9_next_154 : decode cX9_next 154 = .ok (.iload 5, 2) := by decide +kernel
theorem dX9_next_156 : decode cX9_next 156 = .ok (.if_icmp .ne 26, 3) := by decide +kernel
theorem dX9_next_159 : decode cX9_next 159 = .ok (.iload 6, 2) := by decide +kernel
theorem dX9_next_161 : decode cX9_next 161 = .ok (.invokestatic 219, 3) := by decide +kernel
theorem dX9_next_164 : decode cX9_next 164 = .ok (.iload_n 3, 1) := by decide +kernel
theorem dX9_next_165 : decode cX9_next 165 = .ok (.invokestatic 219, 3) := by decide +kernel
theorem dX9_next_168 : decode cX9_next 168 = .ok (.if_icmp .ge 14, 3) := by decide +kernel
theorem dX9_next_171 : decode cX9_next 171 = .ok (.iload 9, 2) := by decide +kernel
theorem dX9_next_173 : decode cX9_next 173 = .ok (.istore 5, 2) := by decide +kernel
theorem dX9_next_175 : decode cX9_next 175 = .ok (.iload 6, 2) := by decide +kernel
theorem dX9_next_177 : decode cX9_next 177 = .ok (.istore_n 3, 1) := by decide +kernel
theorem dX9_next_178 : decode cX9_next 178 = .ok (.iload 8, 2) := by decide +kernel
theorem dX9_next_180 : decode cX9_next 180 = .ok (.istore 4, 2) := by decide +kernel
theorem dX9_next_182 : decode cX9_next 182 = .ok (.iinc 8 1, 3) := by decide +kernel
theorem dX9_next_185 : decode cX9_next 185 = .ok (.goto (-88), 3) := by decide +kernel
theorem dX9_next_188 : decode cX9_next 188 = .ok (.iinc 6 1, 3) := by decide +kernel
theorem dX9_next_191 : decode cX9_next 191 = .ok (.goto (-115), 3) := by decide +kernel
theorem dX9_next_194 : decode cX9_next 194 = .ok (.iload_n 1, 1) := by decide +kernel
theorem dX9_next_195 : decode cX9_next 195 = .ok (.ifCond .ne 7, 3) := by decide +kernel
theorem dX9_next_198 : decode cX9_next 198 = .ok (.iload_n 3, 1) := by decide +kernel
theorem dX9_next_199 : decode cX9_next 199 = .ok (.goto 15, 3) := by decide +kernel
theorem dX9_next_202 : decode cX9_next 202 = .ok (.iload_n 1, 1) := by decide +kernel
theorem dX9_next_203 : decode cX9_next 203 = .ok (.iconst 1, 1) := by decide +kernel
theorem dX9_next_204 : decode cX9_next 204 = .ok (.if_icmp .ne 8, 3) := by decide +kernel
theorem dX9_next_207 : decode cX9_next 207 = .ok (.iload 4, 2) := by decide +kernel
theorem dX9_next_209 : decode cX9_next 209 = .ok (.goto 5, 3) := by decide +kernel
theorem dX9_next_212 : decode cX9_next 212 = .ok (.iload 5, 2) := by decide +kernel
theorem dX9_next_214 : decode cX9_next 214 = .ok (.ireturn, 1) := by decide +kernel
theorem dX9_count_0 : decode cX9_count 0 = .ok (.iconst 0, 1) := by decide +kernel
theorem dX9_count_1 : decode cX9_count 1 = .ok (.istore_n 2, 1) := by decide +kernel
theorem dX9_count_2 : decode cX9_count 2 = .ok (.iload_n 1, 1) := by decide +kernel
theorem dX9_count_3 : decode cX9_count 3 = .ok (.tableswitch 150 0 5 #[37, 42, 77, 82, 140, 145], 37) := by decide +kernel
theorem dX9_count_40 : decode cX9_count 40 = .ok (.aload_n 0, 1) := by decide +kernel
theorem dX9_count_41 : decode cX9_count 41 = .ok (.getfield 101, 3) := by decide +kernel
theorem dX9_count_44 : decode cX9_count 44 = .ok (.ireturn, 1) := by decide +kernel
theorem dX9_count_45 : decode cX9_count 45 = .ok (.iconst 0, 1) := by decide +kernel
theorem dX9_count_46 : decode cX9_count 46 = .ok (.istore_n 3, 1) := by decide +kernel
theorem dX9_count_47 : decode cX9_count 47 = .ok (.iload_n 3, 1) := by decide +kernel
theorem dX9_count_48 : decode cX9_count 48 = .ok (.aload_n 0, 1) := by decide +kernel
theorem dX9_count_49 : decode cX9_count 49 = .ok (.getfield 101, 3) := by decide +kernel
theorem dX9_count_52 : decode cX9_count 52 = .ok (.if_icmp .ge 26, 3) := by decide +kernel
theorem dX9_count_55 : decode cX9_count 55 = .ok (.iload_n 2, 1) := by decide +kernel
theorem dX9_count_56 : decode cX9_count 56 = .ok (.aload_n 0, 1) := by decide +kernel
theorem dX9_count_57 : decode cX9_count 57 = .ok (.getfield 19, 3) := by decide +kernel
theorem dX9_count_60 : decode cX9_count 60 = .ok (.iload_n 3, 1) := by decide +kernel
theorem dX9_count_61 : decode cX9_count 61 = .ok (.iaload, 1) := by decide +kernel
theorem dX9_count_62 : decode cX9_count 62 = .ok (.ifCond .le 7, 3) := by decide +kernel
theorem dX9_count_65 : decode cX9_count 65 = .ok (.iconst 1, 1) := by decide +kernel
theorem dX9_count_66 : decode cX9_count 66 = .ok (.goto 4, 3) := by decide +kernel
theorem dX9_count_69 : decode cX9_count 69 = .ok (.iconst 0, 1) := by decide +kernel
theorem dX9_count_70 : decode cX9_count 70 = .ok (.iadd, 1) := by decide +kernel
theorem dX9_count_71 : decode cX9_count 71 = .ok (.istore_n 2, 1) := by decide +kernel
theorem dX9_count_72 : decode cX9_count 72 = .ok (.iinc 3 1, 3) := by decide +kernel
theorem dX9_count_75 : decode cX9_count 75 = .ok (.goto (-28), 3) := by decide +kernel
theorem dX9_count_78 : decode cX9_count 78 = .ok (.iload_n 2, 1) := by decide +kernel
theorem dX9_count_79 : decode cX9_count 79 = .ok (.ireturn, 1) := by decide +kernel
theorem dX9_count_80 : decode cX9_count 80 = .ok (.aload_n 0, 1) := by decide +kernel
theorem dX9_count_81 : decode cX9_count 81 = .ok (.getfield 38, 3) := by decide +kernel
theorem dX9_count_84 : decode cX9_count 84 = .ok (.ireturn, 1) := by decide +kernel
theorem dX9_count_85 : decode cX9_count 85 = .ok (.iconst 0, 1) := by decide +kernel
theorem dX9_count_86 : decode cX9_count 86 = .ok (.istore_n 3, 1) := by decide +kernel
theorem dX9_count_87 : decode cX9_count 87 = .ok (.iload_n 3, 1) := by decide +kernel
theorem dX9_count_88 : decode cX9_count 88 = .ok (.aload_n 0, 1) := by decide +kernel
theorem dX9_count_89 : decode cX9_count 89 = .ok (.getfield 35, 3) := by decide +kernel
theorem dX9_count_92 : decode cX9_count 92 = .ok (.if_icmp .ge 49, 3) := by decide +kernel
theorem dX9_count_95 : decode cX9_count 95 = .ok (.iconst 0, 1) := by decide +kernel
theorem dX9_count_96 : decode cX9_count 96 = .ok (.istore 4, 2) := by decide +kernel
theorem dX9_count_98 : decode cX9_count 98 = .ok (.iload 4, 2) := by decide +kernel
theorem dX9_count_100 : decode cX9_count 100 = .ok (.aload_n 0, 1) := by decide +kernel
theorem dX9_count_101 : decode cX9_count 101 = .ok (.getfield 35, 3) := by decide +kernel
theorem dX9_count_104 : decode cX9_count 104 = .ok (.if_icmp .ge 31, 3) := by decide +kernel
theorem dX9_count_107 : decode cX9_count 107 = .ok (.iload_n 2, 1) := by decide +kernel
theorem dX9_count_108 : decode cX9_count 108 = .ok (.aload_n 0, 1) := by decide +kernel
theorem dX9_count_109 : decode cX9_count 109 = .ok (.bipush 17, 2) := by decide +kernel
theorem dX9_count_111 : decode cX9_count 111 = .ok (.iload 4, 2) := by decide +kernel
theorem dX9_count_113 : decode cX9_count 113 = .ok (.iload_n 3, 1) := by decide +kernel
theorem dX9_count_114 : decode cX9_count 114 = .ok (.invokevirtual 121, 3) := by decide +kernel
theorem dX9_count_117 : decode cX9_count 117 = .ok (.bipush (-9), 2) := by decide +kernel
theorem dX9_count_119 : decode cX9_count 119 = .ok (.if_icmp .ne 7, 3) := by decide +kernel
theorem dX9_count_122 : decode cX9_count 122 = .ok (.iconst 0, 1) := by decide +kernel
theorem dX9_count_123 : decode cX9_count 123 = .ok (.goto 4, 3) := by decide +kernel
theorem dX9_count_126 : decode cX9_count 126 = .ok (.iconst 1, 1) := by decide +kernel
theorem dX9_count_127 : decode cX9_count 127 = .ok (.iadd, 1) := by decide +kernel
theorem dX9_count_128 : decode cX9_count 128 = .ok (.istore_n 2, 1) := by decide +kernel
theorem dX9_count_129 : decode cX9_count 129 = .ok (.iinc 4 1, 3) := by decide +kernel
theorem dX9_count_132 : decode cX9_count 132 = .ok (.goto (-34), 3) := by decide +kernel
theorem dX9_count_135 : decode cX9_count 135 = .ok (.iinc 3 1, 3) := by decide +kernel
theorem dX9_count_138 : decode cX9_count 138 = .ok (.goto (-51), 3) := by decide +kernel
theorem dX9_count_141 : decode cX9_count 141 = .ok (.iload_n 2, 1) := by decide +kernel
theorem dX9_count_142 : decode cX9_count 142 = .ok (.ireturn, 1) := by decide +kernel
theorem dX9_count_143 : decode cX9_count 143 = .ok (.aload_n 0, 1) := by decide +kernel
theorem dX9_count_144 : decode cX9_count 144 = .ok (.getfield 204, 3) := by decide +kernel
theorem dX9_count_147 : decode cX9_count 147 = .ok (.ireturn, 1) := by decide +kernel
theorem dX9_count_148 : decode cX9_count 148 = .ok (.aload_n 0, 1) := by decide +kernel
theorem dX9_count_149 : decode cX9_count 149 = .ok (.getfield 210, 3) := by decide +kernel
theorem dX9_count_152 : decode cX9_count 152 = .ok (.ireturn, 1) := by decide +kernel
theorem dX9_count_153 : decode cX9_count 153 = .ok (.iconst (-1), 1) := by decide +kernel
theorem dX9_count_154 : decode cX9_count 154 = .ok (.ireturn, 1) := by decide +kernel
theorem dX9_trace_0 : decode cX9_trace 0 = .ok (.aload_n 0, 1) := by decide +kernel
theorem dX9_trace_1 : decode cX9_trace 1 = .ok (.getfield 139, 3) := by decide +kernel
theorem dX9_trace_4 : decode cX9_trace 4 = .ok (.lreturn, 1) := by decide +kernel
theorem dJ6_numberOfTrailingZeros_0f7a4_0 : decode cJ6_numberOfTrailingZeros_0f7a4 0 = .ok (.iload_n 0, 1) := by decide +kernel
theorem dJ6_numberOfTrailingZeros_0f7a4_1 : decode cJ6_numberOfTrailingZeros_0f7a4 1 = .ok (.iconst (-1), 1) := by decide +kernel
theorem dJ6_numberOfTrailingZeros_0f7a4_2 : decode cJ6_numberOfTrailingZeros_0f7a4 2 = .ok (.ixor, 1) := by decide +kernel
theorem dJ6_numberOfTrailingZeros_0f7a4_3 : decode cJ6_numberOfTrailingZeros_0f7a4 3 = .ok (.iload_n 0, 1) := by decide +kernel
theorem dJ6_numberOfTrailingZeros_0f7a4_4 : decode cJ6_numberOfTrailingZeros_0f7a4 4 = .ok (.iconst 1, 1) := by decide +kernel
theorem dJ6_numberOfTrailingZeros_0f7a4_5 : decode cJ6_numberOfTrailingZeros_0f7a4 5 = .ok (.isub, 1) := by decide +kernel
theorem dJ6_numberOfTrailingZeros_0f7a4_6 : decode cJ6_numberOfTrailingZeros_0f7a4 6 = .ok (.iand, 1) := by decide +kernel
theorem dJ6_numberOfTrailingZeros_0f7a4_7 : decode cJ6_numberOfTrailingZeros_0f7a4 7 = .ok (.istore_n 0, 1) := by decide +kernel
theorem dJ6_numberOfTrailingZeros_0f7a4_8 : decode cJ6_numberOfTrailingZeros_0f7a4 8 = .ok (.iload_n 0, 1) := by decide +kernel
theorem dJ6_numberOfTrailingZeros_0f7a4_9 : decode cJ6_numberOfTrailingZeros_0f7a4 9 = .ok (.ifCond .gt 8, 3) := by decide +kernel
theorem dJ6_numberOfTrailingZeros_0f7a4_12 : decode cJ6_numberOfTrailingZeros_0f7a4 12 = .ok (.iload_n 0, 1) := by decide +kernel
theorem dJ6_numberOfTrailingZeros_0f7a4_13 : decode cJ6_numberOfTrailingZeros_0f7a4 13 = .ok (.bipush 32, 2) := by decide +kernel
theorem dJ6_numberOfTrailingZeros_0f7a4_15 : decode cJ6_numberOfTrailingZeros_0f7a4 15 = .ok (.iand, 1) := by decide +kernel
theorem dJ6_numberOfTrailingZeros_0f7a4_16 : decode cJ6_numberOfTrailingZeros_0f7a4 16 = .ok (.ireturn, 1) := by decide +kernel
theorem dJ6_numberOfTrailingZeros_0f7a4_17 : decode cJ6_numberOfTrailingZeros_0f7a4 17 = .ok (.iconst 1, 1) := by decide +kernel
theorem dJ6_numberOfTrailingZeros_0f7a4_18 : decode cJ6_numberOfTrailingZeros_0f7a4 18 = .ok (.istore_n 1, 1) := by decide +kernel
theorem dJ6_numberOfTrailingZeros_0f7a4_19 : decode cJ6_numberOfTrailingZeros_0f7a4 19 = .ok (.iload_n 0, 1) := by decide +kernel
theorem dJ6_numberOfTrailingZeros_0f7a4_20 : decode cJ6_numberOfTrailingZeros_0f7a4 20 = .ok (.ldc_w 264, 3) := by decide +kernel
theorem dJ6_numberOfTrailingZeros_0f7a4_23 : decode cJ6_numberOfTrailingZeros_0f7a4 23 = .ok (.if_icmp .le 11, 3) := by decide +kernel
theorem dJ6_numberOfTrailingZeros_0f7a4_26 : decode cJ6_numberOfTrailingZeros_0f7a4 26 = .ok (.iinc 1 16, 3) := by decide +kernel
theorem dJ6_numberOfTrailingZeros_0f7a4_29 : decode cJ6_numberOfTrailingZeros_0f7a4 29 = .ok (.iload_n 0, 1) := by decide +kernel
theorem dJ6_numberOfTrailingZeros_0f7a4_30 : decode cJ6_numberOfTrailingZeros_0f7a4 30 = .ok (.bipush 16, 2) := by decide +kernel
theorem dJ6_numberOfTrailingZeros_0f7a4_32 : decode cJ6_numberOfTrailingZeros_0f7a4 32 = .ok (.iushr, 1) := by decide +kernel
theorem dJ6_numberOfTrailingZeros_0f7a4_33 : decode cJ6_numberOfTrailingZeros_0f7a4 33 = .ok (.istore_n 0, 1) := by decide +kernel
theorem dJ6_numberOfTrailingZeros_0f7a4_34 : decode cJ6_numberOfTrailingZeros_0f7a4 34 = .ok (.iload_n 0, 1) := by decide +kernel
theorem dJ6_numberOfTrailingZeros_0f7a4_35 : decode cJ6_numberOfTrailingZeros_0f7a4 35 = .ok (.sipush 256, 3) := by decide +kernel
theorem dJ6_numberOfTrailingZeros_0f7a4_38 : decode cJ6_numberOfTrailingZeros_0f7a4 38 = .ok (.if_icmp .le 11, 3) := by decide +kernel
theorem dJ6_numberOfTrailingZeros_0f7a4_41 : decode cJ6_numberOfTrailingZeros_0f7a4 41 = .ok (.iinc 1 8, 3) := by decide +kernel
theorem dJ6_numberOfTrailingZeros_0f7a4_44 : decode cJ6_numberOfTrailingZeros_0f7a4 44 = .ok (.iload_n 0, 1) := by decide +kernel
theorem dJ6_numberOfTrailingZeros_0f7a4_45 : decode cJ6_numberOfTrailingZeros_0f7a4 45 = .ok (.bipush 8, 2) := by decide +kernel
theorem dJ6_numberOfTrailingZeros_0f7a4_47 : decode cJ6_numberOfTrailingZeros_0f7a4 47 = .ok (.iushr, 1) := by decide +kernel
theorem dJ6_numberOfTrailingZeros_0f7a4_48 : decode cJ6_numberOfTrailingZeros_0f7a4 48 = .ok (.istore_n 0, 1) := by decide +kernel
theorem dJ6_numberOfTrailingZeros_0f7a4_49 : decode cJ6_numberOfTrailingZeros_0f7a4 49 = .ok (.iload_n 0, 1) := by decide +kernel
theorem dJ6_numberOfTrailingZeros_0f7a4_50 : decode cJ6_numberOfTrailingZeros_0f7a4 50 = .ok (.bipush 16, 2) := by decide +kernel
theorem dJ6_numberOfTrailingZeros_0f7a4_52 : decode cJ6_numberOfTrailingZeros_0f7a4 52 = .ok (.if_icmp .le 10, 3) := by decide +kernel
theorem dJ6_numberOfTrailingZeros_0f7a4_55 : decode cJ6_numberOfTrailingZeros_0f7a4 55 = .ok (.iinc 1 4, 3) := by decide +kernel
theorem dJ6_numberOfTrailingZeros_0f7a4_58 : decode cJ6_numberOfTrailingZeros_0f7a4 58 = .ok (.iload_n 0, 1) := by decide +kernel
theorem dJ6_numberOfTrailingZeros_0f7a4_59 : decode cJ6_numberOfTrailingZeros_0f7a4 59 = .ok (.iconst 4, 1) := by decide +kernel
theorem dJ6_numberOfTrailingZeros_0f7a4_60 : decode cJ6_numberOfTrailingZeros_0f7a4 60 = .ok (.iushr, 1) := by decide +kernel
theorem dJ6_numberOfTrailingZeros_0f7a4_61 : decode cJ6_numberOfTrailingZeros_0f7a4 61 = .ok (.istore_n 0, 1) := by decide +kernel
theorem dJ6_numberOfTrailingZeros_0f7a4_62 : decode cJ6_numberOfTrailingZeros_0f7a4 62 = .ok (.iload_n 0, 1) := by decide +kernel
theorem dJ6_numberOfTrailingZeros_0f7a4_63 : decode cJ6_numberOfTrailingZeros_0f7a4 63 = .ok (.iconst 4, 1) := by decide +kernel
theorem dJ6_numberOfTrailingZeros_0f7a4_64 : decode cJ6_numberOfTrailingZeros_0f7a4 64 = .ok (.if_icmp .le 10, 3) := by decide +kernel
theorem dJ6_numberOfTrailingZeros_0f7a4_67 : decode cJ6_numberOfTrailingZeros_0f7a4 67 = .ok (.iinc 1 2, 3) := by decide +kernel
theorem dJ6_numberOfTrailingZeros_0f7a4_70 : decode cJ6_numberOfTrailingZeros_0f7a4 70 = .ok (.iload_n 0, 1) := by decide +kernel
theorem dJ6_numberOfTrailingZeros_0f7a4_71 : decode cJ6_numberOfTrailingZeros_0f7a4 71 = .ok (.iconst 2, 1) := by decide +kernel
theorem dJ6_numberOfTrailingZeros_0f7a4_72 : decode cJ6_numberOfTrailingZeros_0f7a4 72 = .ok (.iushr, 1) := by decide +kernel
theorem dJ6_numberOfTrailingZeros_0f7a4_73 : decode cJ6_numberOfTrailingZeros_0f7a4 73 = .ok (.istore_n 0, 1) := by decide +kernel
theorem dJ6_numberOfTrailingZeros_0f7a4_74 : decode cJ6_numberOfTrailingZeros_0f7a4 74 = .ok (.iload_n 1, 1) := by decide +kernel
theorem dJ6_numberOfTrailingZeros_0f7a4_75 : decode cJ6_numberOfTrailingZeros_0f7a4 75 = .ok (.iload_n 0, 1) := by decide +kernel
theorem dJ6_numberOfTrailingZeros_0f7a4_76 : decode cJ6_numberOfTrailingZeros_0f7a4 76 = .ok (.iconst 1, 1) := by decide +kernel
theorem dJ6_numberOfTrailingZeros_0f7a4_77 : decode cJ6_numberOfTrailingZeros_0f7a4 77 = .ok (.iushr, 1) := by decide +kernel
theorem dJ6_numberOfTrailingZeros_0f7a4_78 : decode cJ6_numberOfTrailingZeros_0f7a4 78 = .ok (.iadd, 1) := by decide +kernel
theorem dJ6_numberOfTrailingZeros_0f7a4_79 : decode cJ6_numberOfTrailingZeros_0f7a4 79 = .ok (.ireturn, 1) := by decide +kernel
theorem dJ6_bitCount_0f7a4_0 : decode cJ6_bitCount_0f7a4 0 = .ok (.iload_n 0, 1) := by decide +kernel
theorem dJ6_bitCount_0f7a4_1 : decode cJ6_bitCount_0f7a4 1 = .ok (.iload_n 0, 1) := by decide +kernel
theorem dJ6_bitCount_0f7a4_2 : decode cJ6_bitCount_0f7a4 2 = .ok (.iconst 1, 1) := by decide +kernel
theorem dJ6_bitCount_0f7a4_3 : decode cJ6_bitCount_0f7a4 3 = .ok (.iushr, 1) := by decide +kernel
theorem dJ6_bitCount_0f7a4_4 : decode cJ6_bitCount_0f7a4 4 = .ok (.ldc_w 265, 3) := by decide +kernel
theorem dJ6_bitCount_0f7a4_7 : decode cJ6_bitCount_0f7a4 7 = .ok (.iand, 1) := by decide +kernel
theorem dJ6_bitCount_0f7a4_8 : decode cJ6_bitCount_0f7a4 8 = .ok (.isub, 1) := by decide +kernel
theorem dJ6_bitCount_0f7a4_9 : decode cJ6_bitCount_0f7a4 9 = .ok (.istore_n 0, 1) := by decide +kernel
theorem dJ6_bitCount_0f7a4_10 : decode cJ6_bitCount_0f7a4 10 = .ok (.iload_n 0, 1) := by decide +kernel
theorem dJ6_bitCount_0f7a4_11 : decode cJ6_bitCount_0f7a4 11 = .ok (.ldc_w 266, 3) := by decide +kernel
theorem dJ6_bitCount_0f7a4_14 : decode cJ6_bitCount_0f7a4 14 = .ok (.iand, 1) := by decide +kernel
theorem dJ6_bitCount_0f7a4_15 : decode cJ6_bitCount_0f7a4 15 = .ok (.iload_n 0, 1) := by decide +kernel
theorem dJ6_bitCount_0f7a4_16 : decode cJ6_bitCount_0f7a4 16 = .ok (.iconst 2, 1) := by decide +kernel
theorem dJ6_bitCount_0f7a4_17 : decode cJ6_bitCount_0f7a4 17 = .ok (.iushr, 1) := by decide +kernel
theorem dJ6_bitCount_0f7a4_18 : decode cJ6_bitCount_0f7a4 18 = .ok (.ldc_w 266, 3) := by decide +kernel
theorem dJ6_bitCount_0f7a4_21 : decode cJ6_bitCount_0f7a4 21 = .ok (.iand, 1) := by decide +kernel
theorem dJ6_bitCount_0f7a4_22 : decode cJ6_bitCount_0f7a4 22 = .ok (.iadd, 1) := by decide +kernel
theorem dJ6_bitCount_0f7a4_23 : decode cJ6_bitCount_0f7a4 23 = .ok (.istore_n 0, 1) := by decide +kernel
theorem dJ6_bitCount_0f7a4_24 : decode cJ6_bitCount_0f7a4 24 = .ok (.iload_n 0, 1) := by decide +kernel
theorem dJ6_bitCount_0f7a4_25 : decode cJ6_bitCount_0f7a4 25 = .ok (.iload_n 0, 1) := by decide +kernel
theorem dJ6_bitCount_0f7a4_26 : decode cJ6_bitCount_0f7a4 26 = .ok (.iconst 4, 1) := by decide +kernel
theorem dJ6_bitCount_0f7a4_27 : decode cJ6_bitCount_0f7a4 27 = .ok (.iushr, 1) := by decide +kernel
theorem dJ6_bitCount_0f7a4_28 : decode cJ6_bitCount_0f7a4 28 = .ok (.iadd, 1) := by decide +kernel
theorem dJ6_bitCount_0f7a4_29 : decode cJ6_bitCount_0f7a4 29 = .ok (.ldc_w 267, 3) := by decide +kernel
theorem dJ6_bitCount_0f7a4_32 : decode cJ6_bitCount_0f7a4 32 = .ok (.iand, 1) := by decide +kernel
theorem dJ6_bitCount_0f7a4_33 : decode cJ6_bitCount_0f7a4 33 = .ok (.istore_n 0, 1) := by decide +kernel
theorem dJ6_bitCount_0f7a4_34 : decode cJ6_bitCount_0f7a4 34 = .ok (.iload_n 0, 1) := by decide +kernel
theorem dJ6_bitCount_0f7a4_35 : decode cJ6_bitCount_0f7a4 35 = .ok (.iload_n 0, 1) := by decide +kernel
theorem dJ6_bitCount_0f7a4_36 : decode cJ6_bitCount_0f7a4 36 = .ok (.bipush 8, 2) := by decide +kernel
theorem dJ6_bitCount_0f7a4_38 : decode cJ6_bitCount_0f7a4 38 = .ok (.iushr, 1) := by decide +kernel
theorem dJ6_bitCount_0f7a4_39 : decode cJ6_bitCount_0f7a4 39 = .ok (.iadd, 1) := by decide +kernel
theorem dJ6_bitCount_0f7a4_40 : decode cJ6_bitCount_0f7a4 40 = .ok (.istore_n 0, 1) := by decide +kernel
theorem dJ6_bitCount_0f7a4_41 : decode cJ6_bitCount_0f7a4 41 = .ok (.iload_n 0, 1) := by decide +kernel
theorem dJ6_bitCount_0f7a4_42 : decode cJ6_bitCount_0f7a4 42 = .ok (.iload_n 0, 1) := by decide +kernel
theorem dJ6_bitCount_0f7a4_43 : decode cJ6_bitCount_0f7a4 43 = .ok (.bipush 16, 2) := by decide +kernel
theorem dJ6_bitCount_0f7a4_45 : decode cJ6_bitCount_0f7a4 45 = .ok (.iushr, 1) := by decide +kernel
theorem dJ6_bitCount_0f7a4_46 : decode cJ6_bitCount_0f7a4 46 = .ok (.iadd, 1) := by decide +kernel
theorem dJ6_bitCount_0f7a4_47 : decode cJ6_bitCount_0f7a4 47 = .ok (.istore_n 0, 1) := by decide +kernel
theorem dJ6_bitCount_0f7a4_48 : decode cJ6_bitCount_0f7a4 48 = .ok (.iload_n 0, 1) := by decide +kernel
theorem dJ6_bitCount_0f7a4_49 : decode cJ6_bitCount_0f7a4 49 = .ok (.bipush 63, 2) := by decide +kernel
theorem dJ6_bitCount_0f7a4_51 : decode cJ6_bitCount_0f7a4 51 = .ok (.iand, 1) := by decide +kernel
theorem dJ6_bitCount_0f7a4_52 : decode cJ6_bitCount_0f7a4 52 = .ok (.ireturn, 1) := by decide +kernel
theorem dJ9_abs_0f7a4_0 : decode cJ9_abs_0f7a4 0 = .ok (.iload_n 0, 1) := by decide +kernel
theorem dJ9_abs_0f7a4_1 : decode cJ9_abs_0f7a4 1 = .ok (.ifCond .ge 8, 3) := by decide +kernel
theorem dJ9_abs_0f7a4_4 : decode cJ9_abs_0f7a4 4 = .ok (.iload_n 0, 1) := by decide +kernel
theorem dJ9_abs_0f7a4_5 : decode cJ9_abs_0f7a4 5 = .ok (.ineg, 1) := by decide +kernel
theorem dJ9_abs_0f7a4_6 : decode cJ9_abs_0f7a4 6 = .ok (.goto 4, 3) := by decide +kernel
theorem dJ9_abs_0f7a4_9 : decode cJ9_abs_0f7a4 9 = .ok (.iload_n 0, 1) := by decide +kernel
theorem dJ9_abs_0f7a4_10 : decode cJ9_abs_0f7a4 10 = .ok (.ireturn, 1) := by decide +kernel
theorem dJ9_max_7cf53_0 : decode cJ9_max_7cf53 0 = .ok (.iload_n 0, 1) := by decide +kernel
theorem dJ9_max_7cf53_1 : decode cJ9_max_7cf53 1 = .ok (.iload_n 1, 1) := by decide +kernel
theorem dJ9_max_7cf53_2 : decode cJ9_max_7cf53 2 = .ok (.if_icmp .lt 7, 3) := by decide +kernel
theorem dJ9_max_7cf53_5 : decode cJ9_max_7cf53 5 = .ok (.iload_n 0, 1) := by decide +kernel
theorem dJ9_max_7cf53_6 : decode cJ9_max_7cf53 6 = .ok (.goto 4, 3) := by decide +kernel
theorem dJ9_max_7cf53_9 : decode cJ9_max_7cf53 9 = .ok (.iload_n 1, 1) := by decide +kernel
theorem dJ9_max_7cf53_10 : decode cJ9_max_7cf53 10 = .ok (.ireturn, 1) := by decide +kernel
theorem dJ9_min_7cf53_0 : decode cJ9_min_7cf53 0 = .ok (.iload_n 0, 1) := by decide +kernel
theorem dJ9_min_7cf53_1 : decode cJ9_min_7cf53 1 = .ok (.iload_n 1, 1) := by decide +kernel
theorem dJ9_min_7cf53_2 : decode cJ9_min_7cf53 2 = .ok (.if_icmp .gt 7, 3) := by decide +kernel
theorem dJ9_min_7cf53_5 : decode cJ9_min_7cf53 5 = .ok (.iload_n 0, 1) := by decide +kernel
theorem dJ9_min_7cf53_6 : decode cJ9_min_7cf53 6 = .ok (.goto 4, 3) := by decide +kernel
theorem dJ9_min_7cf53_9 : decode cJ9_min_7cf53 9 = .ok (.iload_n 1, 1) := by decide +kernel
theorem dJ9_min_7cf53_10 : decode cJ9_min_7cf53 10 = .ok (.ireturn, 1) := by decide +kernel
theorem dJ7_fill_53178_0 : decode cJ7_fill_53178 0 = .ok (.iconst 0, 1) := by decide +kernel
theorem dJ7_fill_53178_1 : decode cJ7_fill_53178 1 = .ok (.istore_n 2, 1) := by decide +kernel
theorem dJ7_fill_53178_2 : decode cJ7_fill_53178 2 = .ok (.aload_n 0, 1) := by decide +kernel
theorem dJ7_fill_53178_3 : decode cJ7_fill_53178 3 = .ok (.arraylength, 1) := by decide +kernel
theorem dJ7_fill_53178_4 : decode cJ7_fill_53178 4 = .ok (.istore_n 3, 1) := by decide +kernel
theorem dJ7_fill_53178_5 : decode cJ7_fill_53178 5 = .ok (.iload_n 2, 1) := by decide +kernel
theorem dJ7_fill_53178_6 : decode cJ7_fill_53178 6 = .ok (.iload_n 3, 1) := by decide +kernel
theorem dJ7_fill_53178_7 : decode cJ7_fill_53178 7 = .ok (.if_icmp .ge 13, 3) := by decide +kernel
theorem dJ7_fill_53178_10 : decode cJ7_fill_53178 10 = .ok (.aload_n 0, 1) := by decide +kernel
theorem dJ7_fill_53178_11 : decode cJ7_fill_53178 11 = .ok (.iload_n 2, 1) := by decide +kernel
theorem dJ7_fill_53178_12 : decode cJ7_fill_53178 12 = .ok (.iload_n 1, 1) := by decide +kernel
theorem dJ7_fill_53178_13 : decode cJ7_fill_53178 13 = .ok (.iastore, 1) := by decide +kernel
theorem dJ7_fill_53178_14 : decode cJ7_fill_53178 14 = .ok (.iinc 2 1, 3) := by decide +kernel
theorem dJ7_fill_53178_17 : decode cJ7_fill_53178 17 = .ok (.goto (-12), 3) := by decide +kernel
theorem dJ7_fill_53178_20 : decode cJ7_fill_53178 20 = .ok (.return_, 1) := by decide +kernel
