theorem dX8_about_66 : decode cX8_about 66 = .ok (.getfield 114, 3) := by decide +kernel
theorem dX8_about_69 : decode cX8_about 69 = .ok (.ireturn, 1) := by decide +kernel
theorem dX8_about_70 : decode cX8_about 70 = .ok (.aload_n 3, 1) := by decide +kernel
theorem dX8_about_71 : decode cX8_about 71 = .ok (.getfield 124, 3) := by decide +kernel
theorem dX8_about_74 : decode cX8_about 74 = .ok (.ireturn, 1) := by decide +kernel
theorem dX8_about_75 : decode cX8_about 75 = .ok (.aload_n 3, 1) := by decide +kernel
theorem dX8_about_76 : decode cX8_about 76 = .ok (.getfield 117, 3) := by decide +kernel
theorem dX8_about_79 : decode cX8_about 79 = .ok (.invokevirtual 145, 3) := by decide +kernel
theorem dX8_about_82 : decode cX8_about 82 = .ok (.ireturn, 1) := by decide +kernel
theorem dX8_about_83 : decode cX8_about 83 = .ok (.aload_n 0, 1) := by decide +kernel
theorem dX8_about_84 : decode cX8_about 84 = .ok (.getfield 12, 3) := by decide +kernel
theorem dX8_about_87 : decode cX8_about 87 = .ok (.aload_n 3, 1) := by decide +kernel
theorem dX8_about_88 : decode cX8_about 88 = .ok (.getfield 117, 3) := by decide +kernel
theorem dX8_about_91 : decode cX8_about 91 = .ok (.invokevirtual 149, 3) := by decide +kernel
theorem dX8_about_94 : decode cX8_about 94 = .ok (.ireturn, 1) := by decide +kernel
theorem dX8_about_95 : decode cX8_about 95 = .ok (.iconst (-1), 1) := by decide +kernel
theorem dX8_about_96 : decode cX8_about 96 = .ok (.ireturn, 1) := by decide +kernel
theorem dX8_cell_0 : decode cX8_cell 0 = .ok (.aload_n 0, 1) := by decide +kernel
theorem dX8_cell_1 : decode cX8_cell 1 = .ok (.iload_n 1, 1) := by decide +kernel
theorem dX8_cell_2 : decode cX8_cell 2 = .ok (.invokevirtual 142, 3) := by decide +kernel
theorem dX8_cell_5 : decode cX8_cell 5 = .ok (.astore 4, 2) := by decide +kernel
theorem dX8_cell_7 : decode cX8_cell 7 = .ok (.aload 4, 2) := by decide +kernel
theorem dX8_cell_9 : decode cX8_cell 9 = .ok (.ifnull 16, 3) := by decide +kernel
theorem dX8_cell_12 : decode cX8_cell 12 = .ok (.aload 4, 2) := by decide +kernel
theorem dX8_cell_14 : decode cX8_cell 14 = .ok (.getfield 117, 3) := by decide +kernel
theorem dX8_cell_17 : decode cX8_cell 17 = .ok (.iload_n 2, 1) := by decide +kernel
theorem dX8_cell_18 : decode cX8_cell 18 = .ok (.iload_n 3, 1) := by decide +kernel
theorem dX8_cell_19 : decode cX8_cell 19 = .ok (.invokevirtual 153, 3) := by decide +kernel
theorem dX8_cell_22 : decode cX8_cell 22 = .ok (.ifCond .ne 5, 3) := by decide +kernel
theorem dX8_cell_25 : decode cX8_cell 25 = .ok (.iconst (-1), 1) := by decide +kernel
theorem dX8_cell_26 : decode cX8_cell 26 = .ok (.ireturn, 1) := by decide +kernel
theorem dX8_cell_27 : decode cX8_cell 27 = .ok (.aload 4, 2) := by decide +kernel
theorem dX8_cell_29 : decode cX8_cell 29 = .ok (.getfield 117, 3) := by decide +kernel
theorem dX8_cell_32 : decode cX8_cell 32 = .ok (.iload_n 2, 1) := by decide +kernel
theorem dX8_cell_33 : decode cX8_cell 33 = .ok (.iload_n 3, 1) := by decide +kernel
theorem dX8_cell_34 : decode cX8_cell 34 = .ok (.invokevirtual 157, 3) := by decide +kernel
theorem dX8_cell_37 : decode cX8_cell 37 = .ok (.ireturn, 1) := by decide +kernel
theorem dX8_view_0 : decode cX8_view 0 = .ok (.aload_n 0, 1) := by decide +kernel
theorem dX8_view_1 : decode cX8_view 1 = .ok (.iload_n 2, 1) := by decide +kernel
theorem dX8_view_2 : decode cX8_view 2 = .ok (.invokevirtual 107, 3) := by decide +kernel
theorem dX8_view_5 : decode cX8_view 5 = .ok (.astore 6, 2) := by decide +kernel
theorem dX8_view_7 : decode cX8_view 7 = .ok (.aload 6, 2) := by decide +kernel
theorem dX8_view_9 : decode cX8_view 9 = .ok (.ifnull 33, 3) := by decide +kernel
theorem dX8_view_12 : decode cX8_view 12 = .ok (.aload 6, 2) := by decide +kernel
theorem dX8_view_14 : decode cX8_view 14 = .ok (.getfield 117, 3) := by decide +kernel
theorem dX8_view_17 : decode cX8_view 17 = .ok (.iload_n 3, 1) := by decide +kernel
theorem dX8_view_18 : decode cX8_view 18 = .ok (.iload 4, 2) := by decide +kernel
theorem dX8_view_20 : decode cX8_view 20 = .ok (.invokevirtual 153, 3) := by decide +kernel
theorem dX8_view_23 : decode cX8_view 23 = .ok (.ifCond .eq 19, 3) := by decide +kernel
theorem dX8_view_26 : decode cX8_view 26 = .ok (.iload 5, 2) := by decide +kernel
theorem dX8_view_28 : decode cX8_view 28 = .ok (.iconst 0, 1) := by decide +kernel
theorem dX8_view_29 : decode cX8_view 29 = .ok (.aload 6, 2) := by decide +kernel
theorem dX8_view_31 : decode cX8_view 31 = .ok (.getfield 111, 3) := by decide +kernel
theorem dX8_view_34 : decode cX8_view 34 = .ok (.iconst 1, 1) := by decide +kernel
theorem dX8_view_35 : decode cX8_view 35 = .ok (.isub, 1) := by decide +kernel
theorem dX8_view_36 : decode cX8_view 36 = .ok (.invokestatic 81, 3) := by decide +kernel
theorem dX8_view_39 : decode cX8_view 39 = .ok (.ifCond .ne 5, 3) := by decide +kernel
theorem dX8_view_42 : decode cX8_view 42 = .ok (.iconst (-1), 1) := by decide +kernel
theorem dX8_view_43 : decode cX8_view 43 = .ok (.ireturn, 1) := by decide +kernel
theorem dX8_view_44 : decode cX8_view 44 = .ok (.iload_n 1, 1) := by decide +kernel
theorem dX8_view_45 : decode cX8_view 45 = .ok (.tableswitch 61 0 2 #[27, 37, 49], 27) := by decide +kernel
theorem dX8_view_72 : decode cX8_view 72 = .ok (.aload_n 0, 1) := by decide +kernel
theorem dX8_view_73 : decode cX8_view 73 = .ok (.aload 6, 2) := by decide +kernel
theorem dX8_view_75 : decode cX8_view 75 = .ok (.iload_n 3, 1) := by decide +kernel
theorem dX8_view_76 : decode cX8_view 76 = .ok (.iload 4, 2) := by decide +kernel
theorem dX8_view_78 : decode cX8_view 78 = .ok (.invokevirtual 160, 3) := by decide +kernel
theorem dX8_view_81 : decode cX8_view 81 = .ok (.ireturn, 1) := by decide +kernel
theorem dX8_view_82 : decode cX8_view 82 = .ok (.aload_n 0, 1) := by decide +kernel
theorem dX8_view_83 : decode cX8_view 83 = .ok (.aload 6, 2) := by decide +kernel
theorem dX8_view_85 : decode cX8_view 85 = .ok (.iload_n 3, 1) := by decide +kernel
theorem dX8_view_86 : decode cX8_view 86 = .ok (.iload 4, 2) := by decide +kernel
theorem dX8_view_88 : decode cX8_view 88 = .ok (.iload 5, 2) := by decide +kernel
theorem dX8_view_90 : decode cX8_view 90 = .ok (.invokevirtual 164, 3) := by decide +kernel
theorem dX8_view_93 : decode cX8_view 93 = .ok (.ireturn, 1) := by decide +kernel
theorem dX8_view_94 : decode cX8_view 94 = .ok (.aload_n 0, 1) := by decide +kernel
theorem dX8_view_95 : decode cX8_view 95 = .ok (.aload 6, 2) := by decide +kernel
theorem dX8_view_97 : decode cX8_view 97 = .ok (.iload_n 3, 1) := by decide +kernel
theorem dX8_view_98 : decode cX8_view 98 = .ok (.iload 4, 2) := by decide +kernel
theorem dX8_view_100 : decode cX8_view 100 = .ok (.iload 5, 2) := by decide +kernel
theorem dX8_view_102 : decode cX8_view 102 = .ok (.invokevirtual 168, 3) := by decide +kernel
theorem dX8_view_105 : decode cX8_view 105 = .ok (.ireturn, 1) := by decide +kernel
theorem dX8_view_106 : decode cX8_view 106 = .ok (.iconst (-1), 1) := by decide +kernel
theorem dX8_view_107 : decode cX8_view 107 = .ok (.ireturn, 1) := by decide +kernel
theorem dX8_viewStraight_0 : decode cX8_viewStraight 0 = .ok (.aload_n 0, 1) := by decide +kernel
theorem dX8_viewStraight_1 : decode cX8_viewStraight 1 = .ok (.dup, 1) := by decide +kernel
theorem dX8_viewStraight_2 : decode cX8_viewStraight 2 = .ok (.getfield 73, 3) := by decide +kernel
theorem dX8_viewStraight_5 : decode cX8_viewStraight 5 = .ok (.lconst 1, 1) := by decide +kernel
theorem dX8_viewStraight_6 : decode cX8_viewStraight 6 = .ok (.ladd, 1) := by decide +kernel
theorem dX8_viewStraight_7 : decode cX8_viewStraight 7 = .ok (.putfield 73, 3) := by decide +kernel
theorem dX8_viewStraight_10 : decode cX8_viewStraight 10 = .ok (.aload_n 1, 1) := by decide +kernel
theorem dX8_viewStraight_11 : decode cX8_viewStraight 11 = .ok (.getfield 117, 3) := by decide +kernel
theorem dX8_viewStraight_14 : decode cX8_viewStraight 14 = .ok (.iload_n 2, 1) := by decide +kernel
theorem dX8_viewStraight_15 : decode cX8_viewStraight 15 = .ok (.iload_n 3, 1) := by decide +kernel
theorem dX8_viewStraight_16 : decode cX8_viewStraight 16 = .ok (.invokevirtual 157, 3) := by decide +kernel
theorem dX8_viewStraight_19 : decode cX8_viewStraight 19 = .ok (.ireturn, 1) := by decide +kernel
theorem dX8_viewTwisted_0 : decode cX8_viewTwisted 0 = .ok (.aload_n 0, 1) := by decide +kernel
theorem dX8_viewTwisted_1 : decode cX8_viewTwisted 1 = .ok (.dup, 1) := by decide +kernel
theorem dX8_viewTwisted_2 : decode cX8_viewTwisted 2 = .ok (.getfield 73, 3) := by decide +kernel
theorem dX8_viewTwisted_5 : decode cX8_viewTwisted 5 = .ok (.ldc2_w 171, 3) := by decide +kernel
theorem dX8_viewTwisted_8 : decode cX8_viewTwisted 8 = .ok (.ladd, 1) := by decide +kernel
theorem dX8_viewTwisted_9 : decode cX8_viewTwisted 9 = .ok (.putfield 73, 3) := by decide +kernel
theorem dX8_viewTwisted_12 : decode cX8_viewTwisted 12 = .ok (.aload_n 1, 1) := by decide +kernel
theorem dX8_viewTwisted_13 : decode cX8_viewTwisted 13 = .ok (.iload 4, 2) := by decide +kernel
theorem dX8_viewTwisted_15 : decode cX8_viewTwisted 15 = .ok (.invokevirtual 131, 3) := by decide +kernel
theorem dX8_viewTwisted_18 : decode cX8_viewTwisted 18 = .ok (.iconst 4, 1) := by decide +kernel
theorem dX8_viewTwisted_19 : decode cX8_viewTwisted 19 = .ok (.irem, 1) := by decide +kernel
theorem dX8_viewTwisted_20 : decode cX8_viewTwisted 20 = .ok (.istore 5, 2) := by decide +kernel
theorem dX8_viewTwisted_22 : decode cX8_viewTwisted 22 = .ok (.aload_n 1, 1) := by decide +kernel
theorem dX8_viewTwisted_23 : decode cX8_viewTwisted 23 = .ok (.getfield 117, 3) := by decide +kernel
theorem dX8_viewTwisted_26 : decode cX8_viewTwisted 26 = .ok (.getfield 135, 3) := by decide +kernel
theorem dX8_viewTwisted_29 : decode cX8_viewTwisted 29 = .ok (.istore 6, 2) := by decide +kernel
theorem dX8_viewTwisted_31 : decode cX8_viewTwisted 31 = .ok (.aload_n 0, 1) := by decide +kernel
theorem dX8_viewTwisted_32 : decode cX8_viewTwisted 32 = .ok (.aload_n 1, 1) := by decide +kernel
theorem dX8_viewTwisted_33 : decode cX8_viewTwisted 33 = .ok (.iload_n 2, 1) := by decide +kernel
theorem dX8_viewTwisted_34 : decode cX8_viewTwisted 34 = .ok (.iload_n 3, 1) := by decide +kernel
theorem dX8_viewTwisted_35 : decode cX8_viewTwisted 35 = .ok (.iload 5, 2) := by decide +kernel
theorem dX8_viewTwisted_37 : decode cX8_viewTwisted 37 = .ok (.iload 6, 2) := by decide +kernel
theorem dX8_viewTwisted_39 : decode cX8_viewTwisted 39 = .ok (.invokestatic 173, 3) := by decide +kernel
theorem dX8_viewTwisted_42 : decode cX8_viewTwisted 42 = .ok (.iload_n 2, 1) := by decide +kernel
theorem dX8_viewTwisted_43 : decode cX8_viewTwisted 43 = .ok (.iload_n 3, 1) := by decide +kernel
theorem dX8_viewTwisted_44 : decode cX8_viewTwisted 44 = .ok (.iload 5, 2) := by decide +kernel
theorem dX8_viewTwisted_46 : decode cX8_viewTwisted 46 = .ok (.iload 6, 2) := by decide +kernel
theorem dX8_viewTwisted_48 : decode cX8_viewTwisted 48 = .ok (.invokestatic 177, 3) := by decide +kernel
theorem dX8_viewTwisted_51 : decode cX8_viewTwisted 51 = .ok (.invokevirtual 160, 3) := by decide +kernel
theorem dX8_viewTwisted_54 : decode cX8_viewTwisted 54 = .ok (.ireturn, 1) := by decide +kernel
theorem dX8_viewMirrored_0 : decode cX8_viewMirrored 0 = .ok (.aload_n 0, 1) := by decide +kernel
theorem dX8_viewMirrored_1 : decode cX8_viewMirrored 1 = .ok (.dup, 1) := by decide +kernel
theorem dX8_viewMirrored_2 : decode cX8_viewMirrored 2 = .ok (.getfield 73, 3) := by decide +kernel
theorem dX8_viewMirrored_5 : decode cX8_viewMirrored 5 = .ok (.ldc2_w 180, 3) := by decide +kernel
theorem dX8_viewMirrored_8 : decode cX8_viewMirrored 8 = .ok (.ladd, 1) := by decide +kernel
theorem dX8_viewMirrored_9 : decode cX8_viewMirrored 9 = .ok (.putfield 73, 3) := by decide +kernel
theorem dX8_viewMirrored_12 : decode cX8_viewMirrored 12 = .ok (.aload_n 0, 1) := by decide +kernel
theorem dX8_viewMirrored_13 : decode cX8_viewMirrored 13 = .ok (.aload_n 1, 1) := by decide +kernel
theorem dX8_viewMirrored_14 : decode cX8_viewMirrored 14 = .ok (.aload_n 1, 1) := by decide +kernel
theorem dX8_viewMirrored_15 : decode cX8_viewMirrored 15 = .ok (.getfield 117, 3) := by decide +kernel
theorem dX8_viewMirrored_18 : decode cX8_viewMirrored 18 = .ok (.getfield 135, 3) := by decide +kernel
theorem dX8_viewMirrored_21 : decode cX8_viewMirrored 21 = .ok (.iconst 1, 1) := by decide +kernel
theorem dX8_viewMirrored_22 : decode cX8_viewMirrored 22 = .ok (.isub, 1) := by decide +kernel
theorem dX8_viewMirrored_23 : decode cX8_viewMirrored 23 = .ok (.iload_n 2, 1) := by decide +kernel
theorem dX8_viewMirrored_24 : decode cX8_viewMirrored 24 = .ok (.isub, 1) := by decide +kernel
theorem dX8_viewMirrored_25 : decode cX8_viewMirrored 25 = .ok (.iload_n 3, 1) := by decide +kernel
theorem dX8_viewMirrored_26 : decode cX8_viewMirrored 26 = .ok (.iload 4, 2) := by decide +kernel
theorem dX8_viewMirrored_28 : decode cX8_viewMirrored 28 = .ok (.invokevirtual 164, 3) := by decide +kernel
theorem dX8_viewMirrored_31 : decode cX8_viewMirrored 31 = .ok (.ireturn, 1) := by decide +kernel
theorem dX8_table_0 : decode cX8_table 0 = .ok (.iload_n 1, 1) := by decide +kernel
theorem dX8_table_1 : decode cX8_table 1 = .ok (.iconst 2, 1) := by decide +kernel
theorem dX8_table_2 : decode cX8_table 2 = .ok (.iconst 4, 1) := by decide +kernel
theorem dX8_table_3 : decode cX8_table 3 = .ok (.invokestatic 81, 3) := by decide +kernel
theorem dX8_table_6 : decode cX8_table 6 = .ok (.ifCond .ne 5, 3) := by decide +kernel
theorem dX8_table_9 : decode cX8_table 9 = .ok (.iconst (-1), 1) := by decide +kernel
theorem dX8_table_10 : decode cX8_table 10 = .ok (.ireturn, 1) := by decide +kernel
theorem dX8_table_11 : decode cX8_table 11 = .ok (.aload_n 0, 1) := by decide +kernel
theorem dX8_table_12 : decode cX8_table 12 = .ok (.getfield 29, 3) := by decide +kernel
theorem dX8_table_15 : decode cX8_table 15 = .ok (.iload_n 1, 1) := by decide +kernel
theorem dX8_table_16 : decode cX8_table 16 = .ok (.invokevirtual 182, 3) := by decide +kernel
theorem dX8_table_19 : decode cX8_table 19 = .ok (.iload_n 1, 1) := by decide +kernel
theorem dX8_table_20 : decode cX8_table 20 = .ok (.iload_n 1, 1) := by decide +kernel
theorem dX8_table_21 : decode cX8_table 21 = .ok (.imul, 1) := by decide +kernel
theorem dX8_table_22 : decode cX8_table 22 = .ok (.ireturn, 1) := by decide +kernel
theorem dX8_lay_0 : decode cX8_lay 0 = .ok (.aload_n 0, 1) := by decide +kernel
theorem dX8_lay_1 : decode cX8_lay 1 = .ok (.getfield 29, 3) := by decide +kernel
theorem dX8_lay_4 : decode cX8_lay 4 = .ok (.iload_n 1, 1) := by decide +kernel
theorem dX8_lay_5 : decode cX8_lay 5 = .ok (.iload_n 2, 1) := by decide +kernel
theorem dX8_lay_6 : decode cX8_lay 6 = .ok (.invokevirtual 185, 3) := by decide +kernel
theorem dX8_lay_9 : decode cX8_lay 9 = .ok (.ifCond .eq 13, 3) := by decide +kernel
theorem dX8_lay_12 : decode cX8_lay 12 = .ok (.iload 4, 2) := by decide +kernel
theorem dX8_lay_14 : decode cX8_lay 14 = .ok (.iconst 0, 1) := by decide +kernel
theorem dX8_lay_15 : decode cX8_lay 15 = .ok (.iconst 3, 1) := by decide +kernel
theorem dX8_lay_16 : decode cX8_lay 16 = .ok (.invokestatic 81, 3) := by decide +kernel
theorem dX8_lay_19 : decode cX8_lay 19 = .ok (.ifCond .ne 6, 3) := by decide +kernel
theorem dX8_lay_22 : decode cX8_lay 22 = .ok (.bipush (-2), 2) := by decide +kernel
theorem dX8_lay_24 : decode cX8_lay 24 = .ok (.ireturn, 1) := by decide +kernel
theorem dX8_lay_25 : decode cX8_lay 25 = .ok (.iload_n 3, 1) := by decide +kernel
theorem dX8_lay_26 : decode cX8_lay 26 = .ok (.bipush (-9), 2) := by decide +kernel
theorem dX8_lay_28 : decode cX8_lay 28 = .ok (.if_icmp .eq 14, 3) := by decide +kernel
theorem dX8_lay_31 : decode cX8_lay 31 = .ok (.aload_n 0, 1) := by decide +kernel
theorem dX8_lay_32 : decode cX8_lay 32 = .ok (.iload_n 3, 1) := by decide +kernel
theorem dX8_lay_33 : decode cX8_lay 33 = .ok (.invokevirtual 142, 3) := by decide +kernel
theorem dX8_lay_36 : decode cX8_lay 36 = .ok (.ifnonnull 6, 3) := by decide +kernel
theorem dX8_lay_39 : decode cX8_lay 39 = .ok (.bipush (-2), 2) := by decide +kernel
theorem dX8_lay_41 : decode cX8_lay 41 = .ok (.ireturn, 1) := by decide +kernel
theorem dX8_lay_42 : decode cX8_lay 42 = .ok (.aload_n 0, 1) := by decide +kernel
theorem dX8_lay_43 : decode cX8_lay 43 = .ok (.getfield 29, 3) := by decide +kernel
theorem dX8_lay_46 : decode cX8_lay 46 = .ok (.iload_n 1, 1) := by decide +kernel
theorem dX8_lay_47 : decode cX8_lay 47 = .ok (.iload_n 2, 1) := by decide +kernel
theorem dX8_lay_48 : decode cX8_lay 48 = .ok (.iload_n 3, 1) := by decide +kernel
theorem dX8_lay_49 : decode cX8_lay 49 = .ok (.iload 4, 2) := by decide +kernel
theorem dX8_lay_51 : decode cX8_lay 51 = .ok (.invokevirtual 186, 3) := by decide +kernel
theorem dX8_lay_54 : decode cX8_lay 54 = .ok (.ireturn, 1) := by decide +kernel
theorem dX8_bundle_0 : decode cX8_bundle 0 = .ok (.iload_n 1, 1) := by decide +kernel
theorem dX8_bundle_1 : decode cX8_bundle 1 = .ok (.iconst 1, 1) := by decide +kernel
theorem dX8_bundle_2 : decode cX8_bundle 2 = .ok (.sipush 9999, 3) := by decide +kernel
theorem dX8_bundle_5 : decode cX8_bundle 5 = .ok (.invokestatic 81, 3) := by decide +kernel
theorem dX8_bundle_8 : decode cX8_bundle 8 = .ok (.ifCond .ne 5, 3) := by decide +kernel
theorem dX8_bundle_11 : decode cX8_bundle 11 = .ok (.iconst (-1), 1) := by decide +kernel
theorem dX8_bundle_12 : decode cX8_bundle 12 = .ok (.ireturn, 1) := by decide +kernel
theorem dX8_bundle_13 : decode cX8_bundle 13 = .ok (.aload_n 0, 1) := by decide +kernel
theorem dX8_bundle_14 : decode cX8_bundle 14 = .ok (.aload_n 0, 1) := by decide +kernel
theorem dX8_bundle_15 : decode cX8_bundle 15 = .ok (.getfield 29, 3) := by decide +kernel
theorem dX8_bundle_18 : decode cX8_bundle 18 = .ok (.iconst 0, 1) := by decide +kernel
theorem dX8_bundle_19 : decode cX8_bundle 19 = .ok (.iconst 0, 1) := by decide +kernel
theorem dX8_bundle_20 : decode cX8_bundle 20 = .ok (.invokevirtual 189, 3) := by decide +kernel
theorem dX8_bundle_23 : decode cX8_bundle 23 = .ok (.invokevirtual 142, 3) := by decide +kernel
theorem dX8_bundle_26 : decode cX8_bundle 26 = .ok (.astore_n 2, 1) := by decide +kernel
theorem dX8_bundle_27 : decode cX8_bundle 27 = .ok (.aload_n 2, 1) := by decide +kernel
theorem dX8_bundle_28 : decode cX8_bundle 28 = .ok (.ifnull 19, 3) := by decide +kernel
theorem dX8_bundle_31 : decode cX8_bundle 31 = .ok (.aload_n 0, 1) := by decide +kernel
theorem dX8_bundle_32 : decode cX8_bundle 32 = .ok (.aload_n 2, 1) := by decide +kernel
theorem dX8_bundle_33 : decode cX8_bundle 33 = .ok (.invokevirtual 192, 3) := by decide +kernel
theorem dX8_bundle_36 : decode cX8_bundle 36 = .ok (.ifCond .eq 11, 3) := by decide +kernel
theorem dX8_bundle_39 : decode cX8_bundle 39 = .ok (.aload_n 0, 1) := by decide +kernel
theorem dX8_bundle_40 : decode cX8_bundle 40 = .ok (.iload_n 1, 1) := by decide +kernel
theorem dX8_bundle_41 : decode cX8_bundle 41 = .ok (.invokevirtual 196, 3) := by decide +kernel
theorem dX8_bundle_44 : decode cX8_bundle 44 = .ok (.ifCond .ne 6, 3) := by decide +kernel
theorem dX8_bundle_47 : decode cX8_bundle 47 = .ok (.bipush (-2), 2) := by decide +kernel
theorem dX8_bundle_49 : decode cX8_bundle 49 = .ok (.ireturn, 1) := by decide +kernel
theorem dX8_bundle_50 : decode cX8_bundle 50 = .ok (.aload_n 0, 1) := by decide +kernel
theorem dX8_bundle_51 : decode cX8_bundle 51 = .ok (.getfield 22, 3) := by decide +kernel
theorem dX8_bundle_54 : decode cX8_bundle 54 = .ok (.bipush 16, 2) := by decide +kernel
theorem dX8_bundle_56 : decode cX8_bundle 56 = .ok (.if_icmp .lt 6, 3) := by decide +kernel
theorem dX8_bundle_59 : decode cX8_bundle 59 = .ok (.bipush (-3), 2) := by decide +kernel
theorem dX8_bundle_61 : decode cX8_bundle 61 = .ok (.ireturn, 1) := by decide +kernel
theorem dX8_bundle_62 : decode cX8_bundle 62 = .ok (.new 16, 3) := by decide +kernel
theorem dX8_bundle_65 : decode cX8_bundle 65 = .ok (.dup, 1) := by decide +kernel
theorem dX8_bundle_66 : decode cX8_bundle 66 = .ok (.aload_n 0, 1) := by decide +kernel
theorem dX8_bundle_67 : decode cX8_bundle 67 = .ok (.aload_n 2, 1) := by decide +kernel
theorem dX8_bundle_68 : decode cX8_bundle 68 = .ok (.getfield 117, 3) := by decide +kernel
theorem dX8_bundle_71 : decode cX8_bundle 71 = .ok (.getfield 135, 3) := by decide +kernel
theorem dX8_bundle_74 : decode cX8_bundle 74 = .ok (.invokevirtual 199, 3) := by decide +kernel
theorem dX8_bundle_77 : decode cX8_bundle 77 = .ok (.iload_n 1, 1) := by decide +kernel
theorem dX8_bundle_78 : decode cX8_bundle 78 = .ok (.aload_n 2, 1) := by decide +kernel
theorem dX8_bundle_79 : decode cX8_bundle 79 = .ok (.getfield 114, 3) := by decide +kernel
theorem dX8_bundle_82 : decode cX8_bundle 82 = .ok (.invokespecial 92, 3) := by decide +kernel
theorem dX8_bundle_85 : decode cX8_bundle 85 = .ok (.astore_n 3, 1) := by decide +kernel
theorem dX8_bundle_86 : decode cX8_bundle 86 = .ok (.iconst 0, 1) := by decide +kernel
theorem dX8_bundle_87 : decode cX8_bundle 87 = .ok (.istore 4, 2) := by decide +kernel
theorem dX8_bundle_89 : decode cX8_bundle 89 = .ok (.iload 4, 2) := by decide +kernel
theorem dX8_bundle_91 : decode cX8_bundle 91 = .ok (.aload_n 0, 1) := by decide +kernel
theorem dX8_bundle_92 : decode cX8_bundle 92 = .ok (.getfield 22, 3) := by decide +kernel
theorem dX8_bundle_95 : decode cX8_bundle 95 = .ok (.if_icmp .ge 43, 3) := by decide +kernel
theorem dX8_bundle_98 : decode cX8_bundle 98 = .ok (.aload_n 0, 1) := by decide +kernel
theorem dX8_bundle_99 : decode cX8_bundle 99 = .ok (.iload 4, 2) := by decide +kernel
theorem dX8_bundle_101 : decode cX8_bundle 101 = .ok (.invokevirtual 142, 3) := by decide +kernel
theorem dX8_bundle_104 : decode cX8_bundle 104 = .ok (.astore 5, 2) := by decide +kernel
theorem dX8_bundle_106 : decode cX8_bundle 106 = .ok (.aload 5, 2) := by decide +kernel
theorem dX8_bundle_108 : decode cX8_bundle 108 = .ok (.ifnull 24, 3) := by decide +kernel
theorem dX8_bundle_111 : decode cX8_bundle 111 = .ok (.aload 5, 2) := by decide +kernel
theorem dX8_bundle_113 : decode cX8_bundle 113 = .ok (.dup, 1) := by decide +kernel
theorem dX8_bundle_114 : decode cX8_bundle 114 = .ok (.getfield 111, 3) := by decide +kernel
theorem dX8_bundle_117 : decode cX8_bundle 117 = .ok (.iload_n 1, 1) := by decide +kernel
theorem dX8_bundle_118 : decode cX8_bundle 118 = .ok (.aload_n 0, 1) := by decide +kernel
theorem dX8_bundle_119 : decode cX8_bundle 119 = .ok (.getfield 29, 3) := by decide +kernel
theorem dX8_bundle_122 : decode cX8_bundle 122 = .ok (.iload 4, 2) := by decide +kernel
theorem dX8_bundle_124 : decode cX8_bundle 124 = .ok (.invokevirtual 203, 3) := by decide +kernel
theorem dX8_bundle_127 : decode cX8_bundle 127 = .ok (.imul, 1) := by decide +kernel
theorem dX8_bundle_128 : decode cX8_bundle 128 = .ok (.isub, 1) := by decide +kernel
theorem dX8_bundle_129 : decode cX8_bundle 129 = .ok (.putfield 111, 3) := by decide +kernel
theorem dX8_bundle_132 : decode cX8_bundle 132 = .ok (.iinc 4 1, 3) := by decide +kernel
theorem dX8_bundle_135 : decode cX8_bundle 135 = .ok (.goto (-46), 3) := by decide +kernel
theorem dX8_bundle_138 : decode cX8_bundle 138 = .ok (.aload_n 0, 1) := by decide +kernel
theorem dX8_bundle_139 : decode cX8_bundle 139 = .ok (.aload_n 3, 1) := by decide +kernel
theorem dX8_bundle_140 : decode cX8_bundle 140 = .ok (.invokevirtual 103, 3) := by decide +kernel
theorem dX8_bundle_143 : decode cX8_bundle 143 = .ok (.ireturn, 1) := by decide +kernel
theorem dX8_allAlike_0 : decode cX8_allAlike 0 = .ok (.aload_n 0, 1) := by decide +kernel
theorem dX8_allAlike_1 : decode cX8_allAlike 1 = .ok (.getfield 29, 3) := by decide +kernel
theorem dX8_allAlike_4 : decode cX8_allAlike 4 = .ok (.getfield 206, 3) := by decide +kernel
theorem dX8_allAlike_7 : decode cX8_allAlike 7 = .ok (.aload_n 1, 1) := by decide +kernel
theorem dX8_allAlike_8 : decode cX8_allAlike 8 = .ok (.getfield 117, 3) := by decide +kernel
theorem dX8_allAlike_11 : decode cX8_allAlike 11 = .ok (.getfield 135, 3) := by decide +kernel
theorem dX8_allAlike_14 : decode cX8_allAlike 14 = .ok (.imul, 1) := by decide +kernel
theorem dX8_allAlike_15 : decode cX8_allAlike 15 = .ok (.bipush 8, 2) := by decide +kernel
theorem dX8_allAlike_17 : decode cX8_allAlike 17 = .ok (.if_icmp .le 5, 3) := by decide +kernel
theorem dX8_allAlike_20 : decode cX8_allAlike 20 = .ok (.iconst 0, 1) := by decide +kernel
theorem dX8_allAlike_21 : decode cX8_allAlike 21 = .ok (.ireturn, 1) := by decide +kernel
theorem dX8_allAlike_22 : decode cX8_allAlike 22 = .ok (.iconst 0, 1) := by decide +kernel
theorem dX8_allAlike_23 : decode cX8_allAlike 23 = .ok (.istore_n 2, 1) := by decide +kernel
theorem dX8_allAlike_24 : decode cX8_allAlike 24 = .ok (.iload_n 2, 1) := by decide +kernel
theorem dX8_allAlike_25 : decode cX8_allAlike 25 = .ok (.aload_n 0, 1) := by decide +kernel
theorem dX8_allAlike_26 : decode cX8_allAlike 26 = .ok (.getfield 29, 3) := by decide +kernel
theorem dX8_allAlike_29 : decode cX8_allAlike 29 = .ok (.getfield 206, 3) := by decide +kernel
theorem dX8_allAlike_32 : decode cX8_allAlike 32 = .ok (.if_icmp .ge 88, 3) := by decide +kernel
theorem dX8_allAlike_35 : decode cX8_allAlike 35 = .ok (.iconst 0, 1) := by decide +kernel
theorem dX8_allAlike_36 : decode cX8_allAlike 36 = .ok (.istore_n 3, 1) := by decide +kernel
theorem dX8_allAlike_37 : decode cX8_allAlike 37 = .ok (.iload_n 3, 1) := by decide +kernel
theorem dX8_allAlike_38 : decode cX8_allAlike 38 = .ok (.aload_n 0, 1) := by decide +kernel
theorem dX8_allAlike_39 : decode cX8_allAlike 39 = .ok (.getfield 29, 3) := by decide +kernel
theorem dX8_allAlike_42 : decode cX8_allAlike 42 = .ok (.getfield 206, 3) := by decide +kernel
theorem dX8_allAlike_45 : decode cX8_allAlike 45 = .ok (.if_icmp .ge 69, 3) := by decide +kernel
theorem dX8_allAlike_48 : decode cX8_allAlike 48 = .ok (.aload_n 0, 1) := by decide +kernel
theorem dX8_allAlike_49 : decode cX8_allAlike 49 = .ok (.aload_n 0, 1) := by decide +kernel
theorem dX8_allAlike_50 : decode cX8_allAlike 50 = .ok (.getfield 29, 3) := by decide +kernel
theorem dX8_allAlike_53 : decode cX8_allAlike 53 = .ok (.iload_n 3, 1) := by decide +kernel
theorem dX8_allAlike_54 : decode cX8_allAlike 54 = .ok (.iload_n 2, 1) := by decide +kernel
theorem dX8_allAlike_55 : decode cX8_allAlike 55 = .ok (.invokevirtual 189, 3) := by decide +kernel
theorem dX8_allAlike_58 : decode cX8_allAlike 58 = .ok (.invokevirtual 142, 3) := by decide +kernel
theorem dX8_allAlike_61 : decode cX8_allAlike 61 = .ok (.astore 4, 2) := by decide +kernel
theorem dX8_allAlike_63 : decode cX8_allAlike 63 = .ok (.aload 4, 2) := by decide +kernel
theorem dX8_allAlike_65 : decode cX8_allAlike 65 = .ok (.ifnull 41, 3) := by decide +kernel
theorem dX8_allAlike_68 : decode cX8_allAlike 68 = .ok (.aload 4, 2) := by decide +kernel
theorem dX8_allAlike_70 : decode cX8_allAlike 70 = .ok (.getfield 124, 3) := by decide +kernel
theorem dX8_allAlike_73 : decode cX8_allAlike 73 = .ok (.ifCond .ne 33, 3) := by decide +kernel
theorem dX8_allAlike_76 : decode cX8_allAlike 76 = .ok (.aload 4, 2) := by decide +kernel
theorem dX8_allAlike_78 : decode cX8_allAlike 78 = .ok (.getfield 117, 3) := by decide +kernel
theorem dX8_allAlike_81 : decode cX8_allAlike 81 = .ok (.getfield 135, 3) := by decide +kernel
theorem dX8_allAlike_84 : decode cX8_allAlike 84 = .ok (.aload_n 1, 1) := by decide +kernel
theorem dX8_allAlike_85 : decode cX8_allAlike 85 = .ok (.getfield 117, 3) := by decide +kernel
theorem dX8_allAlike_88 : decode cX8_allAlike 88 = .ok (.getfield 135, 3) := by decide +kernel
theorem dX8_allAlike_91 : decode cX8_allAlike 91 = .ok (.if_icmp .ne 15, 3) := by decide +kernel
theorem dX8_allAlike_94 : decode cX8_allAlike 94 = .ok (.aload 4, 2) := by decide +kernel
theorem dX8_allAlike_96 : decode cX8_allAlike 96 = .ok (.getfield 114, 3) := by decide +kernel
theorem dX8_allAlike_99 : decode cX8_allAlike 99 = .ok (.aload_n 1, 1) := by decide +kernel
theorem dX8_allAlike_100 : decode cX8_allAlike 100 = .ok (.getfield 114, 3) := by decide +kernel
theorem dX8_allAlike_103 : decode cX8_allAlike 103 = .ok (.if_icmp .eq 5, 3) := by decide +kernel
theorem dX8_allAlike_106 : decode cX8_allAlike 106 = .ok (.iconst 0, 1) := by decide +kernel
theorem dX8_allAlike_107 : decode cX8_allAlike 107 = .ok (.ireturn, 1) := by decide +kernel
theorem dX8_allAlike_108 : decode cX8_allAlike 108 = .ok (.iinc 3 1, 3) := by decide +kernel
theorem dX8_allAlike_111 : decode cX8_allAlike 111 = .ok (.goto (-74), 3) := by decide +kernel
theorem dX8_allAlike_114 : decode cX8_allAlike 114 = .ok (.iinc 2 1, 3) := by decide +kernel
theorem dX8_allAlike_117 : decode cX8_allAlike 117 = .ok (.goto (-93), 3) := by decide +kernel
theorem dX8_allAlike_120 : decode cX8_allAlike 120 = .ok (.iconst 1, 1) := by decide +kernel
theorem dX8_allAlike_121 : decode cX8_allAlike 121 = .ok (.ireturn, 1) := by decide +kernel
theorem dX8_allLongEnough_0 : decode cX8_allLongEnough 0 = .ok (.iconst 0, 1) := by decide +kernel
theorem dX8_allLongEnough_1 : decode cX8_allLongEnough 1 = .ok (.istore_n 2, 1) := by decide +kernel
theorem dX8_allLongEnough_2 : decode cX8_allLongEnough 2 = .ok (.iload_n 2, 1) := by decide +kernel
theorem dX8_allLongEnough_3 : decode cX8_allLongEnough 3 = .ok (.aload_n 0, 1) := by decide +kernel
theorem dX8_allLongEnough_4 : decode cX8_allLongEnough 4 = .ok (.getfield 22, 3) := by decide +kernel
theorem dX8_allLongEnough_7 : decode cX8_allLongEnough 7 = .ok (.if_icmp .ge 38, 3) := by decide +kernel
theorem dX8_allLongEnough_10 : decode cX8_allLongEnough 10 = .ok (.aload_n 0, 1) := by decide +kernel
theorem dX8_allLongEnough_11 : decode cX8_allLongEnough 11 = .ok (.iload_n 2, 1) := by decide +kernel
theorem dX8_allLongEnough_12 : decode cX8_allLongEnough 12 = .ok (.invokevirtual 142, 3) := by decide +kernel
theorem dX8_allLongEnough_15 : decode cX8_allLongEnough 15 = .ok (.astore_n 3, 1) := by decide +kernel
theorem dX8_allLongEnough_16 : decode cX8_allLongEnough 16 = .ok (.aload_n 3, 1) := by decide +kernel
theorem dX8_allLongEnough_17 : decode cX8_allLongEnough 17 = .ok (.ifnull 22, 3) := by decide +kernel
theorem dX8_allLongEnough_20 : decode cX8_allLongEnough 20 = .ok (.aload_n 3, 1) := by decide +kernel
theorem dX8_allLongEnough_21 : decode cX8_allLongEnough 21 = .ok (.getfield 111, 3) := by decide +kernel
theorem dX8_allLongEnough_24 : decode cX8_allLongEnough 24 = .ok (.iload_n 1, 1) := by decide +kernel
theorem dX8_allLongEnough_25 : decode cX8_allLongEnough 25 = .ok (.aload_n 0, 1) := by decide +kernel
theorem dX8_allLongEnough_26 : decode cX8_allLongEnough 26 = .ok (.getfield 29, 3) := by decide +kernel
theorem dX8_allLongEnough_29 : decode cX8_allLongEnough 29 = .ok (.iload_n 2, 1) := by decide +kernel
theorem dX8_allLongEnough_30 : decode cX8_allLongEnough 30 = .ok (.invokevirtual 203, 3) := by decide +kernel
theorem dX8_allLongEnough_33 : decode cX8_allLongEnough 33 = .ok (.imul, 1) := by decide +kernel
theorem dX8_allLongEnough_34 : decode cX8_allLongEnough 34 = .ok (.if_icmp .ge 5, 3) := by decide +kernel
theorem dX8_allLongEnough_37 : decode cX8_allLongEnough 37 = .ok (.iconst 0, 1) := by decide +kernel
theorem dX8_allLongEnough_38 : decode cX8_allLongEnough 38 = .ok (.ireturn, 1) := by decide +kernel
theorem dX8_allLongEnough_39 : decode cX8_allLongEnough 39 = .ok (.iinc 2 1, 3) := by decide +kernel
theorem dX8_allLongEnough_42 : decode cX8_allLongEnough 42 = .ok (.goto (-40), 3) := by decide +kernel
theorem dX8_allLongEnough_45 : decode cX8_allLongEnough 45 = .ok (.iconst 1, 1) := by decide +kernel
theorem dX8_allLongEnough_46 : decode cX8_allLongEnough 46 = .ok (.ireturn, 1) := by decide +kernel
theorem dX8_laidPicture_0 : decode cX8_laidPicture 0 = .ok (.new 40, 3) := by decide +kernel
theorem dX8_laidPicture_3 : decode cX8_laidPicture 3 = .ok (.dup, 1) := by decide +kernel
theorem dX8_laidPicture_4 : decode cX8_laidPicture 4 = .ok (.aload_n 0, 1) := by decide +kernel
theorem dX8_laidPicture_5 : decode cX8_laidPicture 5 = .ok (.getfield 29, 3) := by decide +kernel
theorem dX8_laidPicture_8 : decode cX8_laidPicture 8 = .ok (.getfield 206, 3) := by decide +kernel
theorem dX8_laidPicture_11 : decode cX8_laidPicture 11 = .ok (.iload_n 1, 1) := by decide +kernel
theorem dX8_laidPicture_12 : decode cX8_laidPicture 12 = .ok (.imul, 1) := by decide +kernel
theorem dX8_laidPicture_13 : decode cX8_laidPicture 13 = .ok (.iconst 0, 1) := by decide +kernel
theorem dX8_laidPicture_14 : decode cX8_laidPicture 14 = .ok (.invokespecial 42, 3) := by decide +kernel
theorem dX8_laidPicture_17 : decode cX8_laidPicture 17 = .ok (.astore_n 2, 1) := by decide +kernel
theorem dX8_laidPicture_18 : decode cX8_laidPicture 18 = .ok (.iconst 0, 1) := by decide +kernel
theorem dX8_laidPicture_19 : decode cX8_laidPicture 19 = .ok (.istore_n 3, 1) := by decide +kernel
theorem dX8_laidPicture_20 : decode cX8_laidPicture 20 = .ok (.iload_n 3, 1) := by decide +kernel
theorem dX8_laidPicture_21 : decode cX8_laidPicture 21 = .ok (.aload_n 0, 1) := by decide +kernel
theorem dX8_laidPicture_22 : decode cX8_laidPicture 22 = .ok (.getfield 29, 3) := by decide +kernel
theorem dX8_laidPicture_25 : decode cX8_laidPicture 25 = .ok (.getfield 206, 3) := by decide +kernel
theorem dX8_laidPicture_28 : decode cX8_laidPicture 28 = .ok (.if_icmp .ge 77, 3) := by decide +kernel
theorem dX8_laidPicture_31 : decode cX8_laidPicture 31 = .ok (.iconst 0, 1) := by decide +kernel
theorem dX8_laidPicture_32 : decode cX8_laidPicture 32 = .ok (.istore 4, 2) := by decide +kernel
theorem dX8_laidPicture_34 : decode cX8_laidPicture 34 = .ok (.iload 4, 2) := by decide +kernel
theorem dX8_laidPicture_36 : decode cX8_laidPicture 36 = .ok (.aload_n 0, 1) := by decide +kernel
theorem dX8_laidPicture_37 : decode cX8_laidPicture 37 = .ok (.getfield 29, 3) := by decide +kernel
theorem dX8_laidPicture_40 : decode cX8_laidPicture 40 = .ok (.getfield 206, 3) := by decide +kernel
theorem dX8_laidPicture_43 : decode cX8_laidPicture 43 = .ok (.if_icmp .ge 56, 3) := by decide +kernel
theorem dX8_laidPicture_46 : decode cX8_laidPicture 46 = .ok (.aload_n 0, 1) := by decide +kernel
theorem dX8_laidPicture_47 : decode cX8_laidPicture 47 = .ok (.aload_n 0, 1) := by decide +kernel
theorem dX8_laidPicture_48 : decode cX8_laidPicture 48 = .ok (.getfield 29, 3) := by decide +kernel
theorem dX8_laidPicture_51 : decode cX8_laidPicture 51 = .ok (.iload 4, 2) := by decide +kernel
theorem dX8_laidPicture_53 : decode cX8_laidPicture 53 = .ok (.iload_n 3, 1) := by decide +kernel
theorem dX8_laidPicture_54 : decode cX8_laidPicture 54 = .ok (.invokevirtual 189, 3) := by decide +kernel
theorem dX8_laidPicture_57 : decode cX8_laidPicture 57 = .ok (.invokevirtual 142, 3) := by decide +kernel
theorem dX8_laidPicture_60 : decode cX8_laidPicture 60 = .ok (.astore 5, 2) := by decide +kernel
theorem dX8_laidPicture_62 : decode cX8_laidPicture 62 = .ok (.aload 5, 2) := by decide +kernel
theorem dX8_laidPicture_64 : decode cX8_laidPicture 64 = .ok (.ifnull 29, 3) := by decide +kernel
theorem dX8_laidPicture_67 : decode cX8_laidPicture 67 = .ok (.aload_n 2, 1) := by decide +kernel
theorem dX8_laidPicture_68 : decode cX8_laidPicture 68 = .ok (.iload 4, 2) := by decide +kernel
theorem dX8_laidPicture_70 : decode cX8_laidPicture 70 = .ok (.iload_n 1, 1) := by decide +kernel
theorem dX8_laidPicture_71 : decode cX8_laidPicture 71 = .ok (.imul, 1) := by decide +kernel
theorem dX8_laidPicture_72 : decode cX8_laidPicture 72 = .ok (.iload_n 3, 1) := by decide +kernel
theorem dX8_laidPicture_73 : decode cX8_laidPicture 73 = .ok (.iload_n 1, 1) := by decide +kernel
theorem dX8_laidPicture_74 : decode cX8_laidPicture 74 = .ok (.imul, 1) := by decide +kernel
theorem dX8_laidPicture_75 : decode cX8_laidPicture 75 = .ok (.aload 5, 2) := by decide +kernel
theorem dX8_laidPicture_77 : decode cX8_laidPicture 77 = .ok (.getfield 117, 3) := by decide +kernel
theorem dX8_laidPicture_80 : decode cX8_laidPicture 80 = .ok (.aload_n 0, 1) := by decide +kernel
theorem dX8_laidPicture_81 : decode cX8_laidPicture 81 = .ok (.getfield 29, 3) := by decide +kernel
theorem dX8_laidPicture_84 : decode cX8_laidPicture 84 = .ok (.iload 4, 2) := by decide +kernel
theorem dX8_laidPicture_86 : decode cX8_laidPicture 86 = .ok (.iload_n 3, 1) := by decide +kernel
theorem dX8_laidPicture_87 : decode cX8_laidPicture 87 = .ok (.invokevirtual 209, 3) := by decide +kernel
theorem dX8_laidPicture_90 : decode cX8_laidPicture 90 = .ok (.invokevirtual 212, 3) := by decide +kernel
theorem dX8_laidPicture_93 : decode cX8_laidPicture 93 = .ok (.iinc 4 1, 3) := by decide +kernel
theorem dX8_laidPicture_96 : decode cX8_laidPicture 96 = .ok (.goto (-62), 3) := by decide +kernel
theorem dX8_laidPicture_99 : decode cX8_laidPicture 99 = .ok (.iinc 3 1, 3) := by decide +kernel
theorem dX8_laidPicture_102 : decode cX8_laidPicture 102 = .ok (.goto (-82), 3) := by decide +kernel
theorem dX8_laidPicture_105 : decode cX8_laidPicture 105 = .ok (.aload_n 2, 1) := by decide +kernel
theorem dX8_laidPicture_106 : decode cX8_laidPicture 106 = .ok (.areturn, 1) := by decide +kernel
theorem dX8_book_0 : decode cX8_book 0 = .ok (.iload_n 1, 1) := by decide +kernel
theorem dX8_book_1 : decode cX8_book 1 = .ok (.invokestatic 77, 3) := by decide +kernel
theorem dX8_book_4 : decode cX8_book 4 = .ok (.ifCond .ne 7, 3) := by decide +kernel
theorem dX8_book_7 : decode cX8_book 7 = .ok (.ldc2_w 216, 3) := by decide +kernel
theorem dX8_book_10 : decode cX8_book 10 = .ok (.lreturn, 1) := by decide +kernel
theorem dX8_book_11 : decode cX8_book 11 = .ok (.iload_n 2, 1) := by decide +kernel
theorem dX8_book_12 : decode cX8_book 12 = .ok (.tableswitch 52 0 2 #[28, 37, 43], 28) := by decide +kernel
theorem dX8_book_40 : decode cX8_book 40 = .ok (.aload_n 0, 1) := by decide +kernel
theorem dX8_book_41 : decode cX8_book 41 = .ok (.getfield 12, 3) := by decide +kernel
theorem dX8_book_44 : decode cX8_book 44 = .ok (.iload_n 1, 1) := by decide +kernel
theorem dX8_book_45 : decode cX8_book 45 = .ok (.invokevirtual 218, 3) := by decide +kernel
theorem dX8_book_48 : decode cX8_book 48 = .ok (.lreturn, 1) := by decide +kernel
theorem dX8_book_49 : decode cX8_book 49 = .ok (.aload_n 0, 1) := by decide +kernel
theorem dX8_book_50 : decode cX8_book 50 = .ok (.iload_n 1, 1) := by decide +kernel
theorem dX8_book_51 : decode cX8_book 51 = .ok (.invokevirtual 221, 3) := by decide +kernel
theorem dX8_book_54 : decode cX8_book 54 = .ok (.lreturn, 1) := by decide +kernel
theorem dX8_book_55 : decode cX8_book 55 = .ok (.aload_n 0, 1) := by decide +kernel
theorem dX8_book_56 : decode cX8_book 56 = .ok (.getfield 12, 3) := by decide +kernel
theorem dX8_book_59 : decode cX8_book 59 = .ok (.iload_n 1, 1) := by decide +kernel
theorem dX8_book_60 : decode cX8_book 60 = .ok (.invokevirtual 224, 3) := by decide +kernel
theorem dX8_book_63 : decode cX8_book 63 = .ok (.lreturn, 1) := by decide +kernel
theorem dX8_book_64 : decode cX8_book 64 = .ok (.ldc2_w 216, 3) := by decide +kernel
theorem dX8_book_67 : decode cX8_book 67 = .ok (.lreturn, 1) := by decide +kernel
theorem dX8_volumeInCanes_0 : decode cX8_volumeInCanes 0 = .ok (.lconst 0, 1) := by decide +kernel
theorem dX8_volumeInCanes_1 : decode cX8_volumeInCanes 1 = .ok (.lstore_n 2, 1) := by decide +kernel
theorem dX8_volumeInCanes_2 : decode cX8_volumeInCanes 2 = .ok (.iconst 0, 1) := by decide +kernel
theorem dX8_volumeInCanes_3 : decode cX8_volumeInCanes 3 = .ok (.istore 4, 2) := by decide +kernel
theorem dX8_volumeInCanes_5 : decode cX8_volumeInCanes 5 = .ok (.iload 4, 2) := by decide +kernel
theorem dX8_volumeInCanes_7 : decode cX8_volumeInCanes 7 = .ok (.aload_n 0, 1) := by decide +kernel
theorem dX8_volumeInCanes_8 : decode cX8_volumeInCanes 8 = .ok (.getfield 22, 3) := by decide +kernel
theorem dX8_volumeInCanes_11 : decode cX8_volumeInCanes 11 = .ok (.if_icmp .ge 46, 3) := by decide +kernel
theorem dX8_volumeInCanes_14 : decode cX8_volumeInCanes 14 = .ok (.aload_n 0, 1) := by decide +kernel
theorem dX8_volumeInCanes_15 : decode cX8_volumeInCanes 15 = .ok (.iload 4, 2) := by decide +kernel
theorem dX8_volumeInCanes_17 : decode cX8_volumeInCanes 17 = .ok (.invokevirtual 142, 3) := by decide +kernel
theorem dX8_volumeInCanes_20 : decode cX8_volumeInCanes 20 = .ok (.astore 5, 2) := by decide +kernel
theorem dX8_volumeInCanes_22 : decode cX8_volumeInCanes 22 = .ok (.aload 5, 2) := by decide +kernel
theorem dX8_volumeInCanes_24 : decode cX8_volumeInCanes 24 = .ok (.ifnull 27, 3) := by decide +kernel
theorem dX8_volumeInCanes_27 : decode cX8_volumeInCanes 27 = .ok (.lload_n 2, 1) := by decide +kernel
theorem dX8_volumeInCanes_28 : decode cX8_volumeInCanes 28 = .ok (.aload 5, 2) := by decide +kernel
theorem dX8_volumeInCanes_30 : decode cX8_volumeInCanes 30 = .ok (.getfield 117, 3) := by decide +kernel
theorem dX8_volumeInCanes_33 : decode cX8_volumeInCanes 33 = .ok (.iload_n 1, 1) := by decide +kernel
theorem dX8_volumeInCanes_34 : decode cX8_volumeInCanes 34 = .ok (.invokevirtual 227, 3) := by decide +kernel
theorem dX8_volumeInCanes_37 : decode cX8_volumeInCanes 37 = .ok (.i2l, 1) := by decide +kernel
theorem dX8_volumeInCanes_38 : decode cX8_volumeInCanes 38 = .ok (.aload 5, 2) := by decide +kernel
theorem dX8_volumeInCanes_40 : decode cX8_volumeInCanes 40 = .ok (.aload 5, 2) := by decide +kernel
theorem dX8_volumeInCanes_42 : decode cX8_volumeInCanes 42 = .ok (.getfield 111, 3) := by decide +kernel
theorem dX8_volumeInCanes_45 : decode cX8_volumeInCanes 45 = .ok (.invokevirtual 95, 3) := by decide +kernel
theorem dX8_volumeInCanes_48 : decode cX8_volumeInCanes 48 = .ok (.lmul, 1) := by decide +kernel
theorem dX8_volumeInCanes_49 : decode cX8_volumeInCanes 49 = .ok (.ladd, 1) := by decide +kernel
theorem dX8_volumeInCanes_50 : decode cX8_volumeInCanes 50 = .ok (.lstore_n 2, 1) := by decide +kernel
theorem dX8_volumeInCanes_51 : decode cX8_volumeInCanes 51 = .ok (.iinc 4 1, 3) := by decide +kernel
theorem dX8_volumeInCanes_54 : decode cX8_volumeInCanes 54 = .ok (.goto (-49), 3) := by decide +kernel
theorem dX8_volumeInCanes_57 : decode cX8_volumeInCanes 57 = .ok (.lload_n 2, 1) := by decide +kernel
theorem dX8_volumeInCanes_58 : decode cX8_volumeInCanes 58 = .ok (.lreturn, 1) := by decide +kernel
theorem dX8_tolerance_0 : decode cX8_tolerance 0 = .ok (.iload_n 1, 1) := by decide +kernel
theorem dX8_tolerance_1 : decode cX8_tolerance 1 = .ok (.iconst 0, 1) := by decide +kernel
theorem dX8_tolerance_2 : decode cX8_tolerance 2 = .ok (.bipush 99, 2) := by decide +kernel
theorem dX8_tolerance_4 : decode cX8_tolerance 4 = .ok (.invokestatic 81, 3) := by decide +kernel
theorem dX8_tolerance_7 : decode cX8_tolerance 7 = .ok (.ifCond .ne 5, 3) := by decide +kernel
theorem dX8_tolerance_10 : decode cX8_tolerance 10 = .ok (.iconst (-1), 1) := by decide +kernel
theorem dX8_tolerance_11 : decode cX8_tolerance 11 = .ok (.ireturn, 1) := by decide +kernel
theorem dX8_tolerance_12 : decode cX8_tolerance 12 = .ok (.aload_n 0, 1) := by decide +kernel
theorem dX8_tolerance_13 : decode cX8_tolerance 13 = .ok (.getfield 12, 3) := by decide +kernel
theorem dX8_tolerance_16 : decode cX8_tolerance 16 = .ok (.iload_n 1, 1) := by decide +kernel
theorem dX8_tolerance_17 : decode cX8_tolerance 17 = .ok (.invokevirtual 230, 3) := by decide +kernel
theorem dX8_tolerance_20 : decode cX8_tolerance 20 = .ok (.ireturn, 1) := by decide +kernel
theorem dX8_cracks_0 : decode cX8_cracks 0 = .ok (.aload_n 0, 1) := by decide +kernel
theorem dX8_cracks_1 : decode cX8_cracks 1 = .ok (.iload_n 1, 1) := by decide +kernel
theorem dX8_cracks_2 : decode cX8_cracks 2 = .ok (.invokevirtual 142, 3) := by decide +kernel
theorem dX8_cracks_5 : decode cX8_cracks 5 = .ok (.astore_n 3, 1) := by decide +kernel
theorem dX8_cracks_6 : decode cX8_cracks 6 = .ok (.aload_n 3, 1) := by decide +kernel
theorem dX8_cracks_7 : decode cX8_cracks 7 = .ok (.ifnull 12, 3) := by decide +kernel
theorem dX8_cracks_10 : decode cX8_cracks 10 = .ok (.iload_n 2, 1) := by decide +kernel
theorem dX8_cracks_11 : decode cX8_cracks 11 = .ok (.iconst 0, 1) := by decide +kernel
theorem dX8_cracks_12 : decode cX8_cracks 12 = .ok (.iconst 1, 1) := by decide +kernel
theorem dX8_cracks_13 : decode cX8_cracks 13 = .ok (.invokestatic 81, 3) := by decide +kernel
theorem dX8_cracks_16 : decode cX8_cracks 16 = .ok (.ifCond .ne 5, 3) := by decide +kernel
theorem dX8_cracks_19 : decode cX8_cracks 19 = .ok (.iconst (-1), 1) := by decide +kernel
theorem dX8_cracks_20 : decode cX8_cracks 20 = .ok (.ireturn, 1) := by decide +kernel
theorem dX8_cracks_21 : decode cX8_cracks 21 = .ok (.iload_n 2, 1) := by decide +kernel
theorem dX8_cracks_22 : decode cX8_cracks 22 = .ok (.ifCond .ne 21, 3) := by decide +kernel
theorem dX8_cracks_25 : decode cX8_cracks 25 = .ok (.aload_n 0, 1) := by decide +kernel
theorem dX8_cracks_26 : decode cX8_cracks 26 = .ok (.getfield 36, 3) := by decide +kernel
theorem dX8_cracks_29 : decode cX8_cracks 29 = .ok (.aload_n 3, 1) := by decide +kernel
theorem dX8_cracks_30 : decode cX8_cracks 30 = .ok (.getfield 117, 3) := by decide +kernel
theorem dX8_cracks_33 : decode cX8_cracks 33 = .ok (.aload_n 0, 1) := by decide +kernel
theorem dX8_cracks_34 : decode cX8_cracks 34 = .ok (.getfield 12, 3) := by decide +kernel
theorem dX8_cracks_37 : decode cX8_cracks 37 = .ok (.invokevirtual 233, 3) := by decide +kernel
theorem dX8_cracks_40 : decode cX8_cracks 40 = .ok (.goto 18, 3) := by decide +kernel
theorem dX8_cracks_43 : decode cX8_cracks 43 = .ok (.aload_n 0, 1) := by decide +kernel
theorem dX8_cracks_44 : decode cX8_cracks 44 = .ok (.getfield 36, 3) := by decide +kernel
theorem dX8_cracks_47 : decode cX8_cracks 47 = .ok (.aload_n 3, 1) := by decide +kernel
theorem dX8_cracks_48 : decode cX8_cracks 48 = .ok (.getfield 117, 3) := by decide +kernel
theorem dX8_cracks_51 : decode cX8_cracks 51 = .ok (.aload_n 0, 1) := by decide +kernel
theorem dX8_cracks_52 : decode cX8_cracks 52 = .ok (.getfield 12, 3) := by decide +kernel
theorem dX8_cracks_55 : decode cX8_cracks 55 = .ok (.invokevirtual 237, 3) := by decide +kernel
theorem dX8_cracks_58 : decode cX8_cracks 58 = .ok (.ireturn, 1) := by decide +kernel
theorem dX8_wish_0 : decode cX8_wish 0 = .ok (.iload_n 1, 1) := by decide +kernel
theorem dX8_wish_1 : decode cX8_wish 1 = .ok (.invokestatic 240, 3) := by decide +kernel
theorem dX8_wish_4 : decode cX8_wish 4 = .ok (.ifCond .ne 5, 3) := by decide +kernel
theorem dX8_wish_7 : decode cX8_wish 7 = .ok (.iconst (-1), 1) := by decide +kernel
theorem dX8_wish_8 : decode cX8_wish 8 = .ok (.ireturn, 1) := by decide +kernel
theorem dX8_wish_9 : decode cX8_wish 9 = .ok (.aload_n 0, 1) := by decide +kernel
theorem dX8_wish_10 : decode cX8_wish 10 = .ok (.getfield 45, 3) := by decide +kernel
theorem dX8_wish_13 : decode cX8_wish 13 = .ok (.iload_n 1, 1) := by decide +kernel
theorem dX8_wish_14 : decode cX8_wish 14 = .ok (.iconst 0, 1) := by decide +kernel
theorem dX8_wish_15 : decode cX8_wish 15 = .ok (.invokevirtual 243, 3) := by decide +kernel
theorem dX8_wish_18 : decode cX8_wish 18 = .ok (.iload_n 1, 1) := by decide +kernel
theorem dX8_wish_19 : decode cX8_wish 19 = .ok (.ireturn, 1) := by decide +kernel
theorem dX8_want_0 : decode cX8_want 0 = .ok (.aload_n 0, 1) := by decide +kernel
theorem dX8_want_1 : decode cX8_want 1 = .ok (.getfield 45, 3) := by decide +kernel
theorem dX8_want_4 : decode cX8_want 4 = .ok (.iload_n 1, 1) := by decide +kernel
theorem dX8_want_5 : decode cX8_want 5 = .ok (.iload_n 2, 1) := by decide +kernel
theorem dX8_want_6 : decode cX8_want 6 = .ok (.invokevirtual 153, 3) := by decide +kernel
theorem dX8_want_9 : decode cX8_want 9 = .ok (.ifCond .eq 13, 3) := by decide +kernel
theorem dX8_want_12 : decode cX8_want 12 = .ok (.iload_n 3, 1) := by decide +kernel
theorem dX8_want_13 : decode cX8_want 13 = .ok (.iconst 0, 1) := by decide +kernel
theorem dX8_want_14 : decode cX8_want 14 = .ok (.bipush 8, 2) := by decide +kernel
theorem dX8_want_16 : decode cX8_want 16 = .ok (.invokestatic 81, 3) := by decide +kernel
theorem dX8_want_19 : decode cX8_want 19 = .ok (.ifCond .ne 5, 3) := by decide +kernel
theorem dX8_want_22 : decode cX8_want 22 = .ok (.iconst (-1), 1) := by decide +kernel
theorem dX8_want_23 : decode cX8_want 23 = .ok (.ireturn, 1) := by decide +kernel
theorem dX8_want_24 : decode cX8_want 24 = .ok (.aload_n 0, 1) := by decide +kernel
theorem dX8_want_25 : decode cX8_want 25 = .ok (.getfield 45, 3) := by decide +kernel
theorem dX8_want_28 : decode cX8_want 28 = .ok (.iload_n 1, 1) := by decide +kernel
theorem dX8_want_29 : decode cX8_want 29 = .ok (.iload_n 2, 1) := by decide +kernel
theorem dX8_want_30 : decode cX8_want 30 = .ok (.iload_n 3, 1) := by decide +kernel
theorem dX8_want_31 : decode cX8_want 31 = .ok (.invokevirtual 246, 3) := by decide +kernel
theorem dX8_want_34 : decode cX8_want 34 = .ok (.ireturn, 1) := by decide +kernel
theorem dX8_unlike_0 : decode cX8_unlike 0 = .ok (.iload_n 1, 1) := by decide +kernel
theorem dX8_unlike_1 : decode cX8_unlike 1 = .ok (.invokestatic 240, 3) := by decide +kernel
theorem dX8_unlike_4 : decode cX8_unlike 4 = .ok (.ifCond .eq 14, 3) := by decide +kernel
theorem dX8_unlike_7 : decode cX8_unlike 7 = .ok (.iload_n 1, 1) := by decide +kernel
theorem dX8_unlike_8 : decode cX8_unlike 8 = .ok (.aload_n 0, 1) := by decide +kernel
theorem dX8_unlike_9 : decode cX8_unlike 9 = .ok (.getfield 45, 3) := by decide +kernel
theorem dX8_unlike_12 : decode cX8_unlike 12 = .ok (.getfield 135, 3) := by decide +kernel
theorem dX8_unlike_15 : decode cX8_unlike 15 = .ok (.if_icmp .le 5, 3) := by decide +kernel
theorem dX8_unlike_18 : decode cX8_unlike 18 = .ok (.iconst (-1), 1) := by decide +kernel
theorem dX8_unlike_19 : decode cX8_unlike 19 = .ok (.ireturn, 1) := by decide +kernel
theorem dX8_unlike_20 : decode cX8_unlike 20 = .ok (.aload_n 0, 1) := by decide +kernel
theorem dX8_unlike_21 : decode cX8_unlike 21 = .ok (.getfield 45, 3) := by decide +kernel
theorem dX8_unlike_24 : decode cX8_unlike 24 = .ok (.iload_n 1, 1) := by decide +kernel
theorem dX8_unlike_25 : decode cX8_unlike 25 = .ok (.invokevirtual 249, 3) := by decide +kernel
theorem dX8_unlike_28 : decode cX8_unlike 28 = .ok (.ireturn, 1) := by decide +kernel
theorem dX8_plan_0 : decode cX8_plan 0 = .ok (.iload_n 1, 1) := by decide +kernel
theorem dX8_plan_1 : decode cX8_plan 1 = .ok (.iconst 1, 1) := by decide +kernel
theorem dX8_plan_2 : decode cX8_plan 2 = .ok (.iconst 3, 1) := by decide +kernel
theorem dX8_plan_3 : decode cX8_plan 3 = .ok (.invokestatic 81, 3) := by decide +kernel
theorem dX8_plan_6 : decode cX8_plan 6 = .ok (.ifCond .eq 12, 3) := by decide +kernel
theorem dX8_plan_9 : decode cX8_plan 9 = .ok (.iload_n 2, 1) := by decide +kernel
theorem dX8_plan_10 : decode cX8_plan 10 = .ok (.iconst 0, 1) := by decide +kernel
theorem dX8_plan_11 : decode cX8_plan 11 = .ok (.iconst 1, 1) := by decide +kernel
theorem dX8_plan_12 : decode cX8_plan 12 = .ok (.invokestatic 81, 3) := by decide +kernel
theorem dX8_plan_15 : decode cX8_plan 15 = .ok (.ifCond .ne 5, 3) := by decide +kernel
theorem dX8_plan_18 : decode cX8_plan 18 = .ok (.iconst (-1), 1) := by decide +kernel
theorem dX8_plan_19 : decode cX8_plan 19 = .ok (.ireturn, 1) := by decide +kernel
theorem dX8_plan_20 : decode cX8_plan 20 = .ok (.aload_n 0, 1) := by decide +kernel
theorem dX8_plan_21 : decode cX8_plan 21 = .ok (.getfield 45, 3) := by decide +kernel
theorem dX8_plan_24 : decode cX8_plan 24 = .ok (.getfield 135, 3) := by decide +kernel
theorem dX8_plan_27 : decode cX8_plan 27 = .ok (.iconst 1, 1) := by decide +kernel
theorem dX8_plan_28 : decode cX8_plan 28 = .ok (.ior, 1) := by decide +kernel
theorem dX8_plan_29 : decode cX8_plan 29 = .ok (.istore_n 3, 1) := by decide +kernel
theorem dX8_plan_30 : decode cX8_plan 30 = .ok (.aload_n 0, 1) := by decide +kernel
theorem dX8_plan_31 : decode cX8_plan 31 = .ok (.iload_n 3, 1) := by decide +kernel
theorem dX8_plan_32 : decode cX8_plan 32 = .ok (.invokevirtual 252, 3) := by decide +kernel
theorem dX8_plan_35 : decode cX8_plan 35 = .ok (.istore 4, 2) := by decide +kernel
theorem dX8_plan_37 : decode cX8_plan 37 = .ok (.iconst 2, 1) := by decide +kernel
theorem dX8_plan_38 : decode cX8_plan 38 = .ok (.aload_n 0, 1) := by decide +kernel
theorem dX8_plan_39 : decode cX8_plan 39 = .ok (.getfield 45, 3) := by decide +kernel
theorem dX8_plan_42 : decode cX8_plan 42 = .ok (.getfield 135, 3) := by decide +kernel
theorem dX8_plan_45 : decode cX8_plan 45 = .ok (.imul, 1) := by decide +kernel
theorem dX8_plan_46 : decode cX8_plan 46 = .ok (.iconst 1, 1) := by decide +kernel
theorem dX8_plan_47 : decode cX8_plan 47 = .ok (.isub, 1) := by decide +kernel
theorem dX8_plan_48 : decode cX8_plan 48 = .ok (.istore 5, 2) := by decide +kernel
theorem dX8_plan_50 : decode cX8_plan 50 = .ok (.iload 5, 2) := by decide +kernel
theorem dX8_plan_52 : decode cX8_plan 52 = .ok (.iconst 1, 1) := by decide +kernel
theorem dX8_plan_53 : decode cX8_plan 53 = .ok (.if_icmp .lt 54, 3) := by decide +kernel
theorem dX8_plan_56 : decode cX8_plan 56 = .ok (.aload_n 0, 1) := by decide +kernel
theorem dX8_plan_57 : decode cX8_plan 57 = .ok (.iload 5, 2) := by decide +kernel
theorem dX8_plan_59 : decode cX8_plan 59 = .ok (.iload_n 1, 1) := by decide +kernel
theorem dX8_plan_60 : decode cX8_plan 60 = .ok (.invokevirtual 255, 3) := by decide +kernel
theorem dX8_plan_63 : decode cX8_plan 63 = .ok (.ifCond .eq 38, 3) := by decide +kernel
theorem dX8_plan_66 : decode cX8_plan 66 = .ok (.aload_n 0, 1) := by decide +kernel
theorem dX8_plan_67 : decode cX8_plan 67 = .ok (.iload 5, 2) := by decide +kernel
theorem dX8_plan_69 : decode cX8_plan 69 = .ok (.invokevirtual 252, 3) := by decide +kernel
theorem dX8_plan_72 : decode cX8_plan 72 = .ok (.istore 6, 2) := by decide +kernel
theorem dX8_plan_74 : decode cX8_plan 74 = .ok (.iload 6, 2) := by decide +kernel
theorem dX8_plan_76 : decode cX8_plan 76 = .ok (.iload 4, 2) := by decide +kernel
theorem dX8_plan_78 : decode cX8_plan 78 = .ok (.if_icmp .lt 16, 3) := by decide +kernel
theorem dX8_plan_81 : decode cX8_plan 81 = .ok (.iload 6, 2) := by decide +kernel
theorem dX8_plan_83 : decode cX8_plan 83 = .ok (.iload 4, 2) := by decide +kernel
theorem dX8_plan_85 : decode cX8_plan 85 = .ok (.if_icmp .ne 16, 3) := by decide +kernel
theorem dX8_plan_88 : decode cX8_plan 88 = .ok (.iload 5, 2) := by decide +kernel
theorem dX8_plan_90 : decode cX8_plan 90 = .ok (.iload_n 3, 1) := by decide +kernel
theorem dX8_plan_91 : decode cX8_plan 91 = .ok (.if_icmp .le 10, 3) := by decide +kernel
theorem dX8_plan_94 : decode cX8_plan 94 = .ok (.iload 6, 2) := by decide +kernel
theorem dX8_plan_96 : decode cX8_plan 96 = .ok (.istore 4, 2) := by decide +kernel
theorem dX8_plan_98 : decode cX8_plan 98 = .ok (.iload 5, 2) := by decide +kernel
theorem dX8_plan_100 : decode cX8_plan 100 = .ok (.istore_n 3, 1) := by decide +kernel
theorem dX8_plan_101 : decode cX8_plan 101 = .ok (.iinc 5 (-1), 3) := by decide +kernel
theorem dX8_plan_104 : decode cX8_plan 104 = .ok (.goto (-54), 3) := by decide +kernel
theorem dX8_plan_107 : decode cX8_plan 107 = .ok (.iload_n 2, 1) := by decide +kernel
theorem dX8_plan_108 : decode cX8_plan 108 = .ok (.ifCond .ne 8, 3) := by decide +kernel
theorem dX8_plan_111 : decode cX8_plan 111 = .ok (.iload 4, 2) := by decide +kernel
theorem dX8_plan_113 : decode cX8_plan 113 = .ok (.goto 4, 3) := by decide +kernel
theorem dX8_plan_116 : decode cX8_plan 116 = .ok (.iload_n 3, 1) := by decide +kernel
theorem dX8_plan_117 : decode cX8_plan 117 = .ok (.ireturn, 1) := by decide +kernel
theorem dX8_isPlan_0 : decode cX8_isPlan 0 = .ok (.iload_n 1, 1) := by decide +kernel
theorem dX8_isPlan_1 : decode cX8_isPlan 1 = .ok (.aload_n 0, 1) := by decide +kernel
theorem dX8_isPlan_2 : decode cX8_isPlan 2 = .ok (.getfield 45, 3) := by decide +kernel
theorem dX8_isPlan_5 : decode cX8_isPlan 5 = .ok (.getfield 135, 3) := by decide +kernel
theorem dX8_isPlan_8 : decode cX8_isPlan 8 = .ok (.iand, 1) := by decide +kernel
theorem dX8_isPlan_9 : decode cX8_isPlan 9 = .ok (.ifCond .eq 23, 3) := by decide +kernel
theorem dX8_isPlan_12 : decode cX8_isPlan 12 = .ok (.iload_n 1, 1) := by decide +kernel
theorem dX8_isPlan_13 : decode cX8_isPlan 13 = .ok (.iconst 1, 1) := by decide +kernel
theorem dX8_isPlan_14 : decode cX8_isPlan 14 = .ok (.iand, 1) := by decide +kernel
theorem dX8_isPlan_15 : decode cX8_isPlan 15 = .ok (.ifCond .eq 17, 3) := by decide +kernel
theorem dX8_isPlan_18 : decode cX8_isPlan 18 = .ok (.iload_n 1, 1) := by decide +kernel
theorem dX8_isPlan_19 : decode cX8_isPlan 19 = .ok (.invokestatic 258, 3) := by decide +kernel
theorem dX8_isPlan_22 : decode cX8_isPlan 22 = .ok (.iconst 1, 1) := by decide +kernel
theorem dX8_isPlan_23 : decode cX8_isPlan 23 = .ok (.isub, 1) := by decide +kernel
theorem dX8_isPlan_24 : decode cX8_isPlan 24 = .ok (.iload_n 2, 1) := by decide +kernel
theorem dX8_isPlan_25 : decode cX8_isPlan 25 = .ok (.if_icmp .gt 7, 3) := by decide +kernel
theorem dX8_isPlan_28 : decode cX8_isPlan 28 = .ok (.iconst 1, 1) := by decide +kernel
theorem dX8_isPlan_29 : decode cX8_isPlan 29 = .ok (.goto 4, 3) := by decide +kernel
theorem dX8_isPlan_32 : decode cX8_isPlan 32 = .ok (.iconst 0, 1) := by decide +kernel
theorem dX8_isPlan_33 : decode cX8_isPlan 33 = .ok (.ireturn, 1) := by decide +kernel
theorem dX8_bundlesOf_0 : decode cX8_bundlesOf 0 = .ok (.iconst 0, 1) := by decide +kernel
theorem dX8_bundlesOf_1 : decode cX8_bundlesOf 1 = .ok (.istore_n 2, 1) := by decide +kernel
theorem dX8_bundlesOf_2 : decode cX8_bundlesOf 2 = .ok (.iconst 2, 1) := by decide +kernel
theorem dX8_bundlesOf_3 : decode cX8_bundlesOf 3 = .ok (.istore_n 3, 1) := by decide +kernel
theorem dX8_bundlesOf_4 : decode cX8_bundlesOf 4 = .ok (.iload_n 3, 1) := by decide +kernel
theorem dX8_bundlesOf_5 : decode cX8_bundlesOf 5 = .ok (.aload_n 0, 1) := by decide +kernel
theorem dX8_bundlesOf_6 : decode cX8_bundlesOf 6 = .ok (.getfield 45, 3) := by decide +kernel
theorem dX8_bundlesOf_9 : decode cX8_bundlesOf 9 = .ok (.getfield 135, 3) := by decide +kernel
theorem dX8_bundlesOf_12 : decode cX8_bundlesOf 12 = .ok (.if_icmp .gt 27, 3) := by decide +kernel
theorem dX8_bundlesOf_15 : decode cX8_bundlesOf 15 = .ok (.iload_n 1, 1) := by decide +kernel
theorem dX8_bundlesOf_16 : decode cX8_bundlesOf 16 = .ok (.iload_n 3, 1) := by decide +kernel
theorem dX8_bundlesOf_17 : decode cX8_bundlesOf 17 = .ok (.iand, 1) := by decide +kernel
theorem dX8_bundlesOf_18 : decode cX8_bundlesOf 18 = .ok (.ifCond .eq 14, 3) := by decide +kernel
theorem dX8_bundlesOf_21 : decode cX8_bundlesOf 21 = .ok (.iload_n 2, 1) := by decide +kernel
theorem dX8_bundlesOf_22 : decode cX8_bundlesOf 22 = .ok (.aload_n 0, 1) := by decide +kernel
theorem dX8_bundlesOf_23 : decode cX8_bundlesOf 23 = .ok (.getfield 45, 3) := by decide +kernel
theorem dX8_bundlesOf_26 : decode cX8_bundlesOf 26 = .ok (.iload_n 3, 1) := by decide +kernel
theorem dX8_bundlesOf_27 : decode cX8_bundlesOf 27 = .ok (.invokevirtual 249, 3) := by decide +kernel
theorem dX8_bundlesOf_30 : decode cX8_bundlesOf 30 = .ok (.iadd, 1) := by decide +kernel
theorem dX8_bundlesOf_31 : decode cX8_bundlesOf 31 = .ok (.istore_n 2, 1) := by decide +kernel
theorem dX8_bundlesOf_32 : decode cX8_bundlesOf 32 = .ok (.iload_n 3, 1) := by decide +kernel
theorem dX8_bundlesOf_33 : decode cX8_bundlesOf 33 = .ok (.iconst 2, 1) := by decide +kernel
theorem dX8_bundlesOf_34 : decode cX8_bundlesOf 34 = .ok (.imul, 1) := by decide +kernel
theorem dX8_bundlesOf_35 : decode cX8_bundlesOf 35 = .ok (.istore_n 3, 1) := by decide +kernel
theorem dX8_bundlesOf_36 : decode cX8_bundlesOf 36 = .ok (.goto (-32), 3) := by decide +kernel
theorem dX8_bundlesOf_39 : decode cX8_bundlesOf 39 = .ok (.iload_n 2, 1) := by decide +kernel
theorem dX8_bundlesOf_40 : decode cX8_bundlesOf 40 = .ok (.ireturn, 1) := by decide +kernel
theorem dX8_made_0 : decode cX8_made 0 = .ok (.aload_n 0, 1) := by decide +kernel
theorem dX8_made_1 : decode cX8_made 1 = .ok (.iload_n 1, 1) := by decide +kernel
theorem dX8_made_2 : decode cX8_made 2 = .ok (.invokevirtual 142, 3) := by decide +kernel
theorem dX8_made_5 : decode cX8_made 5 = .ok (.astore_n 2, 1) := by decide +kernel
theorem dX8_made_6 : decode cX8_made 6 = .ok (.aload_n 2, 1) := by decide +kernel
theorem dX8_made_7 : decode cX8_made 7 = .ok (.ifnonnull 7, 3) := by decide +kernel
theorem dX8_made_10 : decode cX8_made 10 = .ok (.iconst (-1), 1) := by decide +kernel
theorem dX8_made_11 : decode cX8_made 11 = .ok (.goto 14, 3) := by decide +kernel
theorem dX8_made_14 : decode cX8_made 14 = .ok (.aload_n 2, 1) := by decide +kernel
theorem dX8_made_15 : decode cX8_made 15 = .ok (.getfield 117, 3) := by decide +kernel
theorem dX8_made_18 : decode cX8_made 18 = .ok (.aload_n 0, 1) := by decide +kernel
theorem dX8_made_19 : decode cX8_made 19 = .ok (.getfield 45, 3) := by decide +kernel
theorem dX8_made_22 : decode cX8_made 22 = .ok (.invokevirtual 263, 3) := by decide +kernel
theorem dX8_made_25 : decode cX8_made 25 = .ok (.ireturn, 1) := by decide +kernel
theorem dX8_slice_0 : decode cX8_slice 0 = .ok (.iload_n 1, 1) := by decide +kernel
theorem dX8_slice_1 : decode cX8_slice 1 = .ok (.iconst 1, 1) := by decide +kernel
theorem dX8_slice_2 : decode cX8_slice 2 = .ok (.bipush 8, 2) := by decide +kernel
theorem dX8_slice_4 : decode cX8_slice 4 = .ok (.invokestatic 81, 3) := by decide +kernel
theorem dX8_slice_7 : decode cX8_slice 7 = .ok (.ifCond .ne 5, 3) := by decide +kernel
theorem dX8_slice_10 : decode cX8_slice 10 = .ok (.iconst (-1), 1) := by decide +kernel
theorem dX8_slice_11 : decode cX8_slice 11 = .ok (.ireturn, 1) := by decide +kernel
theorem dX8_slice_12 : decode cX8_slice 12 = .ok (.aload_n 0, 1) := by decide +kernel
theorem dX8_slice_13 : decode cX8_slice 13 = .ok (.getfield 49, 3) := by decide +kernel
theorem dX8_slice_16 : decode cX8_slice 16 = .ok (.iload_n 1, 1) := by decide +kernel
theorem dX8_slice_17 : decode cX8_slice 17 = .ok (.bipush (-9), 2) := by decide +kernel
theorem dX8_slice_19 : decode cX8_slice 19 = .ok (.invokevirtual 243, 3) := by decide +kernel
theorem dX8_slice_22 : decode cX8_slice 22 = .ok (.iload_n 1, 1) := by decide +kernel
theorem dX8_slice_23 : decode cX8_slice 23 = .ok (.ireturn, 1) := by decide +kernel
theorem dX8_see_0 : decode cX8_see 0 = .ok (.aload_n 0, 1) := by decide +kernel
theorem dX8_see_1 : decode cX8_see 1 = .ok (.getfield 49, 3) := by decide +kernel
theorem dX8_see_4 : decode cX8_see 4 = .ok (.iload_n 1, 1) := by decide +kernel
theorem dX8_see_5 : decode cX8_see 5 = .ok (.iload_n 2, 1) := by decide +kernel
theorem dX8_see_6 : decode cX8_see 6 = .ok (.invokevirtual 153, 3) := by decide +kernel
theorem dX8_see_9 : decode cX8_see 9 = .ok (.ifCond .eq 19, 3) := by decide +kernel
theorem dX8_see_12 : decode cX8_see 12 = .ok (.iload_n 3, 1) := by decide +kernel
theorem dX8_see_13 : decode cX8_see 13 = .ok (.bipush (-9), 2) := by decide +kernel
theorem dX8_see_15 : decode cX8_see 15 = .ok (.if_icmp .eq 16, 3) := by decide +kernel
theorem dX8_see_18 : decode cX8_see 18 = .ok (.iload_n 3, 1) := by decide +kernel
theorem dX8_see_19 : decode cX8_see 19 = .ok (.iconst 0, 1) := by decide +kernel
theorem dX8_see_20 : decode cX8_see 20 = .ok (.bipush 8, 2) := by decide +kernel
theorem dX8_see_22 : decode cX8_see 22 = .ok (.invokestatic 81, 3) := by decide +kernel
theorem dX8_see_25 : decode cX8_see 25 = .ok (.ifCond .ne 6, 3) := by decide +kernel
theorem dX8_see_28 : decode cX8_see 28 = .ok (.bipush (-2), 2) := by decide +kernel
theorem dX8_see_30 : decode cX8_see 30 = .ok (.ireturn, 1) := by decide +kernel
theorem dX8_see_31 : decode cX8_see 31 = .ok (.aload_n 0, 1) := by decide +kernel
theorem dX8_see_32 : decode cX8_see 32 = .ok (.getfield 49, 3) := by decide +kernel
theorem dX8_see_35 : decode cX8_see 35 = .ok (.iload_n 1, 1) := by decide +kernel
theorem dX8_see_36 : decode cX8_see 36 = .ok (.iload_n 2, 1) := by decide +kernel
theorem dX8_see_37 : decode cX8_see 37 = .ok (.iload_n 3, 1) := by decide +kernel
theorem dX8_see_38 : decode cX8_see 38 = .ok (.invokevirtual 246, 3) := by decide +kernel
theorem dX8_see_41 : decode cX8_see 41 = .ok (.ireturn, 1) := by decide +kernel
theorem dX8_fits_0 : decode cX8_fits 0 = .ok (.aload_n 0, 1) := by decide +kernel
theorem dX8_fits_1 : decode cX8_fits 1 = .ok (.iload_n 1, 1) := by decide +kernel
theorem dX8_fits_2 : decode cX8_fits 2 = .ok (.invokevirtual 142, 3) := by decide +kernel
theorem dX8_fits_5 : decode cX8_fits 5 = .ok (.astore_n 2, 1) := by decide +kernel
theorem dX8_fits_6 : decode cX8_fits 6 = .ok (.aload_n 2, 1) := by decide +kernel
theorem dX8_fits_7 : decode cX8_fits 7 = .ok (.ifnonnull 7, 3) := by decide +kernel
theorem dX8_fits_10 : decode cX8_fits 10 = .ok (.iconst (-1), 1) := by decide +kernel
theorem dX8_fits_11 : decode cX8_fits 11 = .ok (.goto 14, 3) := by decide +kernel
theorem dX8_fits_14 : decode cX8_fits 14 = .ok (.aload_n 2, 1) := by decide +kernel
theorem dX8_fits_15 : decode cX8_fits 15 = .ok (.getfield 117, 3) := by decide +kernel
theorem dX8_fits_18 : decode cX8_fits 18 = .ok (.aload_n 0, 1) := by decide +kernel
theorem dX8_fits_19 : decode cX8_fits 19 = .ok (.getfield 49, 3) := by decide +kernel
theorem dX8_fits_22 : decode cX8_fits 22 = .ok (.invokevirtual 263, 3) := by decide +kernel
theorem dX8_fits_25 : decode cX8_fits 25 = .ok (.ireturn, 1) := by decide +kernel
theorem dX8_whose_0 : decode cX8_whose 0 = .ok (.iconst 0, 1) := by decide +kernel
theorem dX8_whose_1 : decode cX8_whose 1 = .ok (.istore_n 1, 1) := by decide +kernel
theorem dX8_whose_2 : decode cX8_whose 2 = .ok (.iconst 0, 1) := by decide +kernel
theorem dX8_whose_3 : decode cX8_whose 3 = .ok (.istore_n 2, 1) := by decide +kernel
theorem dX8_whose_4 : decode cX8_whose 4 = .ok (.iload_n 2, 1) := by decide +kernel
theorem dX8_whose_5 : decode cX8_whose 5 = .ok (.aload_n 0, 1) := by decide +kernel
theorem dX8_whose_6 : decode cX8_whose 6 = .ok (.getfield 22, 3) := by decide +kernel
theorem dX8_whose_9 : decode cX8_whose 9 = .ok (.if_icmp .ge 39, 3) := by decide +kernel
theorem dX8_whose_12 : decode cX8_whose 12 = .ok (.aload_n 0, 1) := by decide +kernel
theorem dX8_whose_13 : decode cX8_whose 13 = .ok (.iload_n 2, 1) := by decide +kernel
theorem dX8_whose_14 : decode cX8_whose 14 = .ok (.invokevirtual 142, 3) := by decide +kernel
theorem dX8_whose_17 : decode cX8_whose 17 = .ok (.astore_n 3, 1) := by decide +kernel
theorem dX8_whose_18 : decode cX8_whose 18 = .ok (.aload_n 3, 1) := by decide +kernel
theorem dX8_whose_19 : decode cX8_whose 19 = .ok (.ifnull 23, 3) := by decide +kernel
theorem dX8_whose_22 : decode cX8_whose 22 = .ok (.aload_n 3, 1) := by decide +kernel
theorem dX8_whose_23 : decode cX8_whose 23 = .ok (.getfield 117, 3) := by decide +kernel
theorem dX8_whose_26 : decode cX8_whose 26 = .ok (.aload_n 0, 1) := by decide +kernel
theorem dX8_whose_27 : decode cX8_whose 27 = .ok (.getfield 49, 3) := by decide +kernel
theorem dX8_whose_30 : decode cX8_whose 30 = .ok (.invokevirtual 263, 3) := by decide +kernel
theorem dX8_whose_33 : decode cX8_whose 33 = .ok (.ifCond .eq 9, 3) := by decide +kernel
theorem dX8_whose_36 : decode cX8_whose 36 = .ok (.iload_n 1, 1) := by decide +kernel
theorem dX8_whose_37 : decode cX8_whose 37 = .ok (.iconst 1, 1) := by decide +kernel
theorem dX8_whose_38 : decode cX8_whose 38 = .ok (.iload_n 2, 1) := by decide +kernel
theorem dX8_whose_39 : decode cX8_whose 39 = .ok (.ishl, 1) := by decide +kernel
theorem dX8_whose_40 : decode cX8_whose 40 = .ok (.ior, 1) := by decide +kernel
theorem dX8_whose_41 : decode cX8_whose 41 = .ok (.istore_n 1, 1) := by decide +kernel
theorem dX8_whose_42 : decode cX8_whose 42 = .ok (.iinc 2 1, 3) := by decide +kernel
theorem dX8_whose_45 : decode cX8_whose 45 = .ok (.goto (-41), 3) := by decide +kernel
theorem dX8_whose_48 : decode cX8_whose 48 = .ok (.iload_n 1, 1) := by decide +kernel
theorem dX8_whose_49 : decode cX8_whose 49 = .ok (.ireturn, 1) := by decide +kernel
theorem dX8_two_0 : decode cX8_two 0 = .ok (.aload_n 0, 1) := by decide +kernel
theorem dX8_two_1 : decode cX8_two 1 = .ok (.iload_n 1, 1) := by decide +kernel
theorem dX8_two_2 : decode cX8_two 2 = .ok (.invokevirtual 142, 3) := by decide +kernel
theorem dX8_two_5 : decode cX8_two 5 = .ok (.astore_n 3, 1) := by decide +kernel
theorem dX8_two_6 : decode cX8_two 6 = .ok (.aload_n 0, 1) := by decide +kernel
theorem dX8_two_7 : decode cX8_two 7 = .ok (.iload_n 2, 1) := by decide +kernel
theorem dX8_two_8 : decode cX8_two 8 = .ok (.invokevirtual 142, 3) := by decide +kernel
theorem dX8_two_11 : decode cX8_two 11 = .ok (.astore 4, 2) := by decide +kernel
theorem dX8_two_13 : decode cX8_two 13 = .ok (.aload_n 3, 1) := by decide +kernel
theorem dX8_two_14 : decode cX8_two 14 = .ok (.ifnull 8, 3) := by decide +kernel
theorem dX8_two_17 : decode cX8_two 17 = .ok (.aload 4, 2) := by decide +kernel
theorem dX8_two_19 : decode cX8_two 19 = .ok (.ifnonnull 5, 3) := by decide +kernel
theorem dX8_two_22 : decode cX8_two 22 = .ok (.iconst (-1), 1) := by decide +kernel
theorem dX8_two_23 : decode cX8_two 23 = .ok (.ireturn, 1) := by decide +kernel
theorem dX8_two_24 : decode cX8_two 24 = .ok (.aload_n 3, 1) := by decide +kernel
theorem dX8_two_25 : decode cX8_two 25 = .ok (.getfield 117, 3) := by decide +kernel
theorem dX8_two_28 : decode cX8_two 28 = .ok (.getfield 135, 3) := by decide +kernel
theorem dX8_two_31 : decode cX8_two 31 = .ok (.aload_n 0, 1) := by decide +kernel
theorem dX8_two_32 : decode cX8_two 32 = .ok (.getfield 49, 3) := by decide +kernel
theorem dX8_two_35 : decode cX8_two 35 = .ok (.getfield 135, 3) := by decide +kernel
theorem dX8_two_38 : decode cX8_two 38 = .ok (.if_icmp .ne 21, 3) := by decide +kernel
theorem dX8_two_41 : decode cX8_two 41 = .ok (.aload 4, 2) := by decide +kernel
theorem dX8_two_43 : decode cX8_two 43 = .ok (.getfield 117, 3) := by decide +kernel
theorem dX8_two_46 : decode cX8_two 46 = .ok (.getfield 135, 3) := by decide +kernel
theorem dX8_two_49 : decode cX8_two 49 = .ok (.aload_n 0, 1) := by decide +kernel
theorem dX8_two_50 : decode cX8_two 50 = .ok (.getfield 49, 3) := by decide +kernel
theorem dX8_two_53 : decode cX8_two 53 = .ok (.getfield 135, 3) := by decide +kernel
theorem dX8_two_56 : decode cX8_two 56 = .ok (.if_icmp .eq 5, 3) := by decide +kernel
theorem dX8_two_59 : decode cX8_two 59 = .ok (.iconst 0, 1) := by decide +kernel
theorem dX8_two_60 : decode cX8_two 60 = .ok (.ireturn, 1) := by decide +kernel
theorem dX8_two_61 : decode cX8_two 61 = .ok (.iconst 0, 1) := by decide +kernel
theorem dX8_two_62 : decode cX8_two 62 = .ok (.istore 5, 2) := by decide +kernel
theorem dX8_two_64 : decode cX8_two 64 = .ok (.iconst 0, 1) := by decide +kernel
theorem dX8_two_65 : decode cX8_two 65 = .ok (.istore 6, 2) := by decide +kernel
theorem dX8_two_67 : decode cX8_two 67 = .ok (.iload 6, 2) := by decide +kernel
theorem dX8_two_69 : decode cX8_two 69 = .ok (.iconst 4, 1) := by decide +kernel
theorem dX8_two_70 : decode cX8_two 70 = .ok (.if_icmp .ge 70, 3) := by decide +kernel
theorem dX8_two_73 : decode cX8_two 73 = .ok (.aload_n 3, 1) := by decide +kernel
theorem dX8_two_74 : decode cX8_two 74 = .ok (.getfield 117, 3) := by decide +kernel
theorem dX8_two_77 : decode cX8_two 77 = .ok (.aload_n 0, 1) := by decide +kernel
theorem dX8_two_78 : decode cX8_two 78 = .ok (.getfield 49, 3) := by decide +kernel
theorem dX8_two_81 : decode cX8_two 81 = .ok (.iload 6, 2) := by decide +kernel
theorem dX8_two_83 : decode cX8_two 83 = .ok (.invokevirtual 266, 3) := by decide +kernel
theorem dX8_two_86 : decode cX8_two 86 = .ok (.istore 7, 2) := by decide +kernel
theorem dX8_two_88 : decode cX8_two 88 = .ok (.iconst 0, 1) := by decide +kernel
theorem dX8_two_89 : decode cX8_two 89 = .ok (.istore 8, 2) := by decide +kernel
theorem dX8_two_91 : decode cX8_two 91 = .ok (.iload 8, 2) := by decide +kernel
theorem dX8_two_93 : decode cX8_two 93 = .ok (.iconst 4, 1) := by decide +kernel
theorem dX8_two_94 : decode cX8_two 94 = .ok (.if_icmp .ge 40, 3) := by decide +kernel
theorem dX8_two_97 : decode cX8_two 97 = .ok (.iload 5, 2) := by decide +kernel
theorem dX8_two_99 : decode cX8_two 99 = .ok (.iload 7, 2) := by decide +kernel
theorem dX8_two_101 : decode cX8_two 101 = .ok (.aload 4, 2) := by decide +kernel
theorem dX8_two_103 : decode cX8_two 103 = .ok (.getfield 117, 3) := by decide +kernel
theorem dX8_two_106 : decode cX8_two 106 = .ok (.aload_n 0, 1) := by decide +kernel
theorem dX8_two_107 : decode cX8_two 107 = .ok (.getfield 49, 3) := by decide +kernel
theorem dX8_two_110 : decode cX8_two 110 = .ok (.iload 8, 2) := by decide +kernel
theorem dX8_two_112 : decode cX8_two 112 = .ok (.invokevirtual 266, 3) := by decide +kernel
theorem dX8_two_115 : decode cX8_two 115 = .ok (.aload_n 0, 1) := by decide +kernel
theorem dX8_two_116 : decode cX8_two 116 = .ok (.getfield 49, 3) := by decide +kernel
theorem dX8_two_119 : decode cX8_two 119 = .ok (.getfield 135, 3) := by decide +kernel
theorem dX8_two_122 : decode cX8_two 122 = .ok (.invokestatic 270, 3) := by decide +kernel
theorem dX8_two_125 : decode cX8_two 125 = .ok (.iadd, 1) := by decide +kernel
theorem dX8_two_126 : decode cX8_two 126 = .ok (.istore 5, 2) := by decide +kernel
theorem dX8_two_128 : decode cX8_two 128 = .ok (.iinc 8 1, 3) := by decide +kernel
theorem dX8_two_131 : decode cX8_two 131 = .ok (.goto (-40), 3) := by decide +kernel
theorem dX8_two_134 : decode cX8_two 134 = .ok (.iinc 6 1, 3) := by decide +kernel
theorem dX8_two_137 : decode cX8_two 137 = .ok (.goto (-70), 3) := by decide +kernel
theorem dX8_two_140 : decode cX8_two 140 = .ok (.iload 5, 2) := by decide +kernel
theorem dX8_two_142 : decode cX8_two 142 = .ok (.ireturn, 1) := by decide +kernel
theorem dX8_seams_0 : decode cX8_seams 0 = .ok (.iconst 0, 1) := by decide +kernel
theorem dX8_seams_1 : decode cX8_seams 1 = .ok (.istore_n 3, 1) := by decide +kernel
theorem dX8_seams_2 : decode cX8_seams 2 = .ok (.iconst 1, 1) := by decide +kernel
theorem dX8_seams_3 : decode cX8_seams 3 = .ok (.iload_n 2, 1) := by decide +kernel
theorem dX8_seams_4 : decode cX8_seams 4 = .ok (.ishl, 1) := by decide +kernel
theorem dX8_seams_5 : decode cX8_seams 5 = .ok (.iconst 1, 1) := by decide +kernel
theorem dX8_seams_6 : decode cX8_seams 6 = .ok (.isub, 1) := by decide +kernel
theorem dX8_seams_7 : decode cX8_seams 7 = .ok (.istore 4, 2) := by decide +kernel
theorem dX8_seams_9 : decode cX8_seams 9 = .ok (.iconst 1, 1) := by decide +kernel
theorem dX8_seams_10 : decode cX8_seams 10 = .ok (.istore 5, 2) := by decide +kernel
theorem dX8_seams_12 : decode cX8_seams 12 = .ok (.iload 5, 2) := by decide +kernel
theorem dX8_seams_14 : decode cX8_seams 14 = .ok (.iload_n 2, 1) := by decide +kernel
theorem dX8_seams_15 : decode cX8_seams 15 = .ok (.if_icmp .ge 47, 3) := by decide +kernel
theorem dX8_seams_18 : decode cX8_seams 18 = .ok (.iconst 1, 1) := by decide +kernel
theorem dX8_seams_19 : decode cX8_seams 19 = .ok (.iload 5, 2) := by decide +kernel
theorem dX8_seams_21 : decode cX8_seams 21 = .ok (.ishl, 1) := by decide +kernel
theorem dX8_seams_22 : decode cX8_seams 22 = .ok (.iconst 1, 1) := by decide +kernel
theorem dX8_seams_23 : decode cX8_seams 23 = .ok (.isub, 1) := by decide +kernel
theorem dX8_seams_24 : decode cX8_seams 24 = .ok (.istore 6, 2) := by decide +kernel
theorem dX8_seams_26 : decode cX8_seams 26 = .ok (.iload 4, 2) := by decide +kernel
theorem dX8_seams_28 : decode cX8_seams 28 = .ok (.iload 6, 2) := by decide +kernel
theorem dX8_seams_30 : decode cX8_seams 30 = .ok (.iconst (-1), 1) := by decide +kernel
theorem dX8_seams_31 : decode cX8_seams 31 = .ok (.ixor, 1) := by decide +kernel
theorem dX8_seams_32 : decode cX8_seams 32 = .ok (.iand, 1) := by decide +kernel
theorem dX8_seams_33 : decode cX8_seams 33 = .ok (.istore 7, 2) := by decide +kernel
theorem dX8_seams_35 : decode cX8_seams 35 = .ok (.iload_n 0, 1) := by decide +kernel
theorem dX8_seams_36 : decode cX8_seams 36 = .ok (.iload 6, 2) := by decide +kernel
theorem dX8_seams_38 : decode cX8_seams 38 = .ok (.iand, 1) := by decide +kernel
theorem dX8_seams_39 : decode cX8_seams 39 = .ok (.iload 6, 2) := by decide +kernel
theorem dX8_seams_41 : decode cX8_seams 41 = .ok (.if_icmp .ne 15, 3) := by decide +kernel
theorem dX8_seams_44 : decode cX8_seams 44 = .ok (.iload_n 1, 1) := by decide +kernel
theorem dX8_seams_45 : decode cX8_seams 45 = .ok (.iload 7, 2) := by decide +kernel
theorem dX8_seams_47 : decode cX8_seams 47 = .ok (.iand, 1) := by decide +kernel
theorem dX8_seams_48 : decode cX8_seams 48 = .ok (.iload 7, 2) := by decide +kernel
theorem dX8_seams_50 : decode cX8_seams 50 = .ok (.if_icmp .ne 6, 3) := by decide +kernel
theorem dX8_seams_53 : decode cX8_seams 53 = .ok (.iinc 3 1, 3) := by decide +kernel
theorem dX8_seams_56 : decode cX8_seams 56 = .ok (.iinc 5 1, 3) := by decide +kernel
theorem dX8_seams_59 : decode cX8_seams 59 = .ok (.goto (-47), 3) := by decide +kernel
theorem dX8_seams_62 : decode cX8_seams 62 = .ok (.iload_n 3, 1) := by decide +kernel
theorem dX8_seams_63 : decode cX8_seams 63 = .ok (.ireturn, 1) := by decide +kernel
theorem dX8_bowl_0 : decode cX8_bowl 0 = .ok (.iload_n 1, 1) := by decide +kernel
theorem dX8_bowl_1 : decode cX8_bowl 1 = .ok (.iconst 2, 1) := by decide +kernel
theorem dX8_bowl_2 : decode cX8_bowl 2 = .ok (.bipush 12, 2) := by decide +kernel
theorem dX8_bowl_4 : decode cX8_bowl 4 = .ok (.invokestatic 81, 3) := by decide +kernel
theorem dX8_bowl_7 : decode cX8_bowl 7 = .ok (.ifCond .eq 22, 3) := by decide +kernel
theorem dX8_bowl_10 : decode cX8_bowl 10 = .ok (.iload_n 2, 1) := by decide +kernel
theorem dX8_bowl_11 : decode cX8_bowl 11 = .ok (.iconst 1, 1) := by decide +kernel
theorem dX8_bowl_12 : decode cX8_bowl 12 = .ok (.bipush 8, 2) := by decide +kernel
theorem dX8_bowl_14 : decode cX8_bowl 14 = .ok (.invokestatic 81, 3) := by decide +kernel
theorem dX8_bowl_17 : decode cX8_bowl 17 = .ok (.ifCond .eq 12, 3) := by decide +kernel
theorem dX8_bowl_20 : decode cX8_bowl 20 = .ok (.iload_n 3, 1) := by decide +kernel
theorem dX8_bowl_21 : decode cX8_bowl 21 = .ok (.iconst 0, 1) := by decide +kernel
theorem dX8_bowl_22 : decode cX8_bowl 22 = .ok (.iconst 1, 1) := by decide +kernel
theorem dX8_bowl_23 : decode cX8_bowl 23 = .ok (.invokestatic 81, 3) := by decide +kernel
theorem dX8_bowl_26 : decode cX8_bowl 26 = .ok (.ifCond .ne 5, 3) := by decide +kernel
theorem dX8_bowl_29 : decode cX8_bowl 29 = .ok (.iconst (-1), 1) := by decide +kernel
theorem dX8_bowl_30 : decode cX8_bowl 30 = .ok (.ireturn, 1) := by decide +kernel
theorem dX8_bowl_31 : decode cX8_bowl 31 = .ok (.aload_n 0, 1) := by decide +kernel
theorem dX8_bowl_32 : decode cX8_bowl 32 = .ok (.getfield 55, 3) := by decide +kernel
theorem dX8_bowl_35 : decode cX8_bowl 35 = .ok (.invokevirtual 273, 3) := by decide +kernel
theorem dX8_bowl_38 : decode cX8_bowl 38 = .ok (.iconst 0, 1) := by decide +kernel
theorem dX8_bowl_39 : decode cX8_bowl 39 = .ok (.istore 4, 2) := by decide +kernel
theorem dX8_bowl_41 : decode cX8_bowl 41 = .ok (.iload 4, 2) := by decide +kernel
theorem dX8_bowl_43 : decode cX8_bowl 43 = .ok (.aload_n 0, 1) := by decide +kernel
theorem dX8_bowl_44 : decode cX8_bowl 44 = .ok (.getfield 22, 3) := by decide +kernel
theorem dX8_bowl_47 : decode cX8_bowl 47 = .ok (.if_icmp .ge 58, 3) := by decide +kernel
theorem dX8_bowl_50 : decode cX8_bowl 50 = .ok (.aload_n 0, 1) := by decide +kernel
theorem dX8_bowl_51 : decode cX8_bowl 51 = .ok (.iload 4, 2) := by decide +kernel
theorem dX8_bowl_53 : decode cX8_bowl 53 = .ok (.invokevirtual 107, 3) := by decide +kernel
theorem dX8_bowl_56 : decode cX8_bowl 56 = .ok (.astore 5, 2) := by decide +kernel
theorem dX8_bowl_58 : decode cX8_bowl 58 = .ok (.aload 5, 2) := by decide +kernel
theorem dX8_bowl_60 : decode cX8_bowl 60 = .ok (.ifnull 39, 3) := by decide +kernel
theorem dX8_bowl_63 : decode cX8_bowl 63 = .ok (.aload 5, 2) := by decide +kernel
theorem dX8_bowl_65 : decode cX8_bowl 65 = .ok (.getfield 117, 3) := by decide +kernel
theorem dX8_bowl_68 : decode cX8_bowl 68 = .ok (.getfield 135, 3) := by decide +kernel
theorem dX8_bowl_71 : decode cX8_bowl 71 = .ok (.iload_n 2, 1) := by decide +kernel
theorem dX8_bowl_72 : decode cX8_bowl 72 = .ok (.if_icmp .ne 27, 3) := by decide +kernel
theorem dX8_bowl_75 : decode cX8_bowl 75 = .ok (.aload_n 0, 1) := by decide +kernel
theorem dX8_bowl_76 : decode cX8_bowl 76 = .ok (.getfield 55, 3) := by decide +kernel
theorem dX8_bowl_79 : decode cX8_bowl 79 = .ok (.aload 5, 2) := by decide +kernel
theorem dX8_bowl_81 : decode cX8_bowl 81 = .ok (.getfield 117, 3) := by decide +kernel
theorem dX8_bowl_84 : decode cX8_bowl 84 = .ok (.aload_n 0, 1) := by decide +kernel
theorem dX8_bowl_85 : decode cX8_bowl 85 = .ok (.getfield 12, 3) := by decide +kernel
theorem dX8_bowl_88 : decode cX8_bowl 88 = .ok (.aload 5, 2) := by decide +kernel
theorem dX8_bowl_90 : decode cX8_bowl 90 = .ok (.getfield 117, 3) := by decide +kernel
theorem dX8_bowl_93 : decode cX8_bowl 93 = .ok (.invokevirtual 149, 3) := by decide +kernel
theorem dX8_bowl_96 : decode cX8_bowl 96 = .ok (.invokevirtual 276, 3) := by decide +kernel
theorem dX8_bowl_99 : decode cX8_bowl 99 = .ok (.iinc 4 1, 3) := by decide +kernel
theorem dX8_bowl_102 : decode cX8_bowl 102 = .ok (.goto (-61), 3) := by decide +kernel
theorem dX8_bowl_105 : decode cX8_bowl 105 = .ok (.iload_n 3, 1) := by decide +kernel
theorem dX8_bowl_106 : decode cX8_bowl 106 = .ok (.ifCond .ne 14, 3) := by decide +kernel
theorem dX8_bowl_109 : decode cX8_bowl 109 = .ok (.aload_n 0, 1) := by decide +kernel
theorem dX8_bowl_110 : decode cX8_bowl 110 = .ok (.getfield 55, 3) := by decide +kernel
theorem dX8_bowl_113 : decode cX8_bowl 113 = .ok (.iload_n 1, 1) := by decide +kernel
theorem dX8_bowl_114 : decode cX8_bowl 114 = .ok (.invokevirtual 280, 3) := by decide +kernel
theorem dX8_bowl_117 : decode cX8_bowl 117 = .ok (.goto 11, 3) := by decide +kernel
theorem dX8_bowl_120 : decode cX8_bowl 120 = .ok (.aload_n 0, 1) := by decide +kernel
theorem dX8_bowl_121 : decode cX8_bowl 121 = .ok (.getfield 55, 3) := by decide +kernel
theorem dX8_bowl_124 : decode cX8_bowl 124 = .ok (.iload_n 1, 1) := by decide +kernel
theorem dX8_bowl_125 : decode cX8_bowl 125 = .ok (.invokevirtual 283, 3) := by decide +kernel
theorem dX8_bowl_128 : decode cX8_bowl 128 = .ok (.ireturn, 1) := by decide +kernel
theorem dX8_order_0 : decode cX8_order 0 = .ok (.iload_n 1, 1) := by decide +kernel
theorem dX8_order_1 : decode cX8_order 1 = .ok (.iconst 1, 1) := by decide +kernel
theorem dX8_order_2 : decode cX8_order 2 = .ok (.bipush 99, 2) := by decide +kernel
theorem dX8_order_4 : decode cX8_order 4 = .ok (.invokestatic 81, 3) := by decide +kernel
theorem dX8_order_7 : decode cX8_order 7 = .ok (.ifCond .ne 5, 3) := by decide +kernel
theorem dX8_order_10 : decode cX8_order 10 = .ok (.iconst (-1), 1) := by decide +kernel
theorem dX8_order_11 : decode cX8_order 11 = .ok (.ireturn, 1) := by decide +kernel
theorem dX8_order_12 : decode cX8_order 12 = .ok (.aload_n 0, 1) := by decide +kernel
theorem dX8_order_13 : decode cX8_order 13 = .ok (.getfield 62, 3) := by decide +kernel
theorem dX8_order_16 : decode cX8_order 16 = .ok (.getfield 286, 3) := by decide +kernel
theorem dX8_order_19 : decode cX8_order 19 = .ok (.bipush 8, 2) := by decide +kernel
theorem dX8_order_21 : decode cX8_order 21 = .ok (.if_icmp .lt 6, 3) := by decide +kernel
theorem dX8_order_24 : decode cX8_order 24 = .ok (.bipush (-3), 2) := by decide +kernel
theorem dX8_order_26 : decode cX8_order 26 = .ok (.ireturn, 1) := by decide +kernel
theorem dX8_order_27 : decode cX8_order 27 = .ok (.aload_n 0, 1) := by decide +kernel
theorem dX8_order_28 : decode cX8_order 28 = .ok (.getfield 62, 3) := by decide +kernel
theorem dX8_order_31 : decode cX8_order 31 = .ok (.iload_n 1, 1) := by decide +kernel
theorem dX8_order_32 : decode cX8_order 32 = .ok (.invokevirtual 289, 3) := by decide +kernel
theorem dX8_order_35 : decode cX8_order 35 = .ok (.ireturn, 1) := by decide +kernel
theorem dX8_clear_0 : decode cX8_clear 0 = .ok (.aload_n 0, 1) := by decide +kernel
theorem dX8_clear_1 : decode cX8_clear 1 = .ok (.getfield 62, 3) := by decide +kernel
theorem dX8_clear_4 : decode cX8_clear 4 = .ok (.invokevirtual 292, 3) := by decide +kernel
theorem dX8_clear_7 : decode cX8_clear 7 = .ok (.ireturn, 1) := by decide +kernel
theorem dX8_saw_0 : decode cX8_saw 0 = .ok (.iload_n 1, 1) := by decide +kernel
theorem dX8_saw_1 : decode cX8_saw 1 = .ok (.iconst 0, 1) := by decide +kernel
theorem dX8_saw_2 : decode cX8_saw 2 = .ok (.iconst 3, 1) := by decide +kernel
theorem dX8_saw_3 : decode cX8_saw 3 = .ok (.invokestatic 81, 3) := by decide +kernel
theorem dX8_saw_6 : decode cX8_saw 6 = .ok (.ifCond .ne 5, 3) := by decide +kernel
theorem dX8_saw_9 : decode cX8_saw 9 = .ok (.iconst (-1), 1) := by decide +kernel
theorem dX8_saw_10 : decode cX8_saw 10 = .ok (.ireturn, 1) := by decide +kernel
theorem dX8_saw_11 : decode cX8_saw 11 = .ok (.aload_n 0, 1) := by decide +kernel
theorem dX8_saw_12 : decode cX8_saw 12 = .ok (.getfield 62, 3) := by decide +kernel
theorem dX8_saw_15 : decode cX8_saw 15 = .ok (.iload_n 1, 1) := by decide +kernel
theorem dX8_saw_16 : decode cX8_saw 16 = .ok (.invokevirtual 294, 3) := by decide +kernel
theorem dX8_saw_19 : decode cX8_saw 19 = .ok (.ireturn, 1) := by decide +kernel
theorem dX8_sticks_0 : decode cX8_sticks 0 = .ok (.iload_n 1, 1) := by decide +kernel
theorem dX8_sticks_1 : decode cX8_sticks 1 = .ok (.iconst 1, 1) := by decide +kernel
theorem dX8_sticks_2 : decode cX8_sticks 2 = .ok (.sipush 300, 3) := by decide +kernel
theorem dX8_sticks_5 : decode cX8_sticks 5 = .ok (.invokestatic 81, 3) := by decide +kernel
theorem dX8_sticks_8 : decode cX8_sticks 8 = .ok (.ifCond .ne 5, 3) := by decide +kernel
theorem dX8_sticks_11 : decode cX8_sticks 11 = .ok (.iconst (-1), 1) := by decide +kernel
theorem dX8_sticks_12 : decode cX8_sticks 12 = .ok (.ireturn, 1) := by decide +kernel
theorem dX8_sticks_13 : decode cX8_sticks 13 = .ok (.aload_n 0, 1) := by decide +kernel
theorem dX8_sticks_14 : decode cX8_sticks 14 = .ok (.getfield 62, 3) := by decide +kernel
theorem dX8_sticks_17 : decode cX8_sticks 17 = .ok (.iload_n 1, 1) := by decide +kernel
theorem dX8_sticks_18 : decode cX8_sticks 18 = .ok (.invokevirtual 297, 3) := by decide +kernel
theorem dX8_sticks_21 : decode cX8_sticks 21 = .ok (.ireturn, 1) := by decide +kernel
theorem dX8_weigh_0 : decode cX8_weigh 0 = .ok (.iload_n 1, 1) := by decide +kernel
theorem dX8_weigh_1 : decode cX8_weigh 1 = .ok (.iconst 1, 1) := by decide +kernel
theorem dX8_weigh_2 : decode cX8_weigh 2 = .ok (.sipush 511, 3) := by decide +kernel
theorem dX8_weigh_5 : decode cX8_weigh 5 = .ok (.invokestatic 81, 3) := by decide +kernel
theorem dX8_weigh_8 : decode cX8_weigh 8 = .ok (.ifCond .eq 40, 3) := by decide +kernel
theorem dX8_weigh_11 : decode cX8_weigh 11 = .ok (.iload_n 2, 1) := by decide +kernel
theorem dX8_weigh_12 : decode cX8_weigh 12 = .ok (.iconst 1, 1) := by decide +kernel
theorem dX8_weigh_13 : decode cX8_weigh 13 = .ok (.sipush 511, 3) := by decide +kernel
theorem dX8_weigh_16 : decode cX8_weigh 16 = .ok (.invokestatic 81, 3) := by decide +kernel
theorem dX8_weigh_19 : decode cX8_weigh 19 = .ok (.ifCond .eq 29, 3) := by decide +kernel
theorem dX8_weigh_22 : decode cX8_weigh 22 = .ok (.iload_n 3, 1) := by decide +kernel
theorem dX8_weigh_23 : decode cX8_weigh 23 = .ok (.iconst (-1), 1) := by decide +kernel
theorem dX8_weigh_24 : decode cX8_weigh 24 = .ok (.iconst 1, 1) := by decide +kernel
theorem dX8_weigh_25 : decode cX8_weigh 25 = .ok (.invokestatic 81, 3) := by decide +kernel
theorem dX8_weigh_28 : decode cX8_weigh 28 = .ok (.ifCond .eq 20, 3) := by decide +kernel
theorem dX8_weigh_31 : decode cX8_weigh 31 = .ok (.iload_n 1, 1) := by decide +kernel
theorem dX8_weigh_32 : decode cX8_weigh 32 = .ok (.iload_n 2, 1) := by decide +kernel
theorem dX8_weigh_33 : decode cX8_weigh 33 = .ok (.iand, 1) := by decide +kernel
theorem dX8_weigh_34 : decode cX8_weigh 34 = .ok (.ifCond .ne 14, 3) := by decide +kernel
theorem dX8_weigh_37 : decode cX8_weigh 37 = .ok (.iload_n 1, 1) := by decide +kernel
theorem dX8_weigh_38 : decode cX8_weigh 38 = .ok (.invokestatic 258, 3) := by decide +kernel
theorem dX8_weigh_41 : decode cX8_weigh 41 = .ok (.iload_n 2, 1) := by decide +kernel
theorem dX8_weigh_42 : decode cX8_weigh 42 = .ok (.invokestatic 258, 3) := by decide +kernel
theorem dX8_weigh_45 : decode cX8_weigh 45 = .ok (.if_icmp .eq 5, 3) := by decide +kernel
theorem dX8_weigh_48 : decode cX8_weigh 48 = .ok (.iconst (-1), 1) := by decide +kernel
theorem dX8_weigh_49 : decode cX8_weigh 49 = .ok (.ireturn, 1) := by decide +kernel
theorem dX8_weigh_50 : decode cX8_weigh 50 = .ok (.aload_n 0, 1) := by decide +kernel
theorem dX8_weigh_51 : decode cX8_weigh 51 = .ok (.getfield 69, 3) := by decide +kernel
theorem dX8_weigh_54 : decode cX8_weigh 54 = .ok (.getfield 300, 3) := by decide +kernel
theorem dX8_weigh_57 : decode cX8_weigh 57 = .ok (.bipush 6, 2) := by decide +kernel
theorem dX8_weigh_59 : decode cX8_weigh 59 = .ok (.if_icmp .lt 6, 3) := by decide +kernel
theorem dX8_weigh_62 : decode cX8_weigh 62 = .ok (.bipush (-3), 2) := by decide +kernel
theorem dX8_weigh_64 : decode cX8_weigh 64 = .ok (.ireturn, 1) := by decide +kernel
theorem dX8_weigh_65 : decode cX8_weigh 65 = .ok (.aload_n 0, 1) := by decide +kernel
theorem dX8_weigh_66 : decode cX8_weigh 66 = .ok (.getfield 69, 3) := by decide +kernel
theorem dX8_weigh_69 : decode cX8_weigh 69 = .ok (.iload_n 1, 1) := by decide +kernel
theorem dX8_weigh_70 : decode cX8_weigh 70 = .ok (.iload_n 2, 1) := by decide +kernel
theorem dX8_weigh_71 : decode cX8_weigh 71 = .ok (.iload_n 3, 1) := by decide +kernel
theorem dX8_weigh_72 : decode cX8_weigh 72 = .ok (.invokevirtual 303, 3) := by decide +kernel
theorem dX8_weigh_75 : decode cX8_weigh 75 = .ok (.ireturn, 1) := by decide +kernel
theorem dX8_anew_0 : decode cX8_anew 0 = .ok (.aload_n 0, 1) := by decide +kernel
theorem dX8_anew_1 : decode cX8_anew 1 = .ok (.getfield 69, 3) := by decide +kernel
theorem dX8_anew_4 : decode cX8_anew 4 = .ok (.invokevirtual 306, 3) := by decide +kernel
theorem dX8_anew_7 : decode cX8_anew 7 = .ok (.ireturn, 1) := by decide +kernel
theorem dX8_bad_0 : decode cX8_bad 0 = .ok (.iload_n 1, 1) := by decide +kernel
theorem dX8_bad_1 : decode cX8_bad 1 = .ok (.tableswitch 51 0 2 #[27, 35, 43], 27) := by decide +kernel
theorem dX8_bad_28 : decode cX8_bad 28 = .ok (.aload_n 0, 1) := by decide +kernel
theorem dX8_bad_29 : decode cX8_bad 29 = .ok (.getfield 69, 3) := by decide +kernel
theorem dX8_bad_32 : decode cX8_bad 32 = .ok (.invokevirtual 307, 3) := by decide +kernel
theorem dX8_bad_35 : decode cX8_bad 35 = .ok (.ireturn, 1) := by decide +kernel
theorem dX8_bad_36 : decode cX8_bad 36 = .ok (.aload_n 0, 1) := by decide +kernel
theorem dX8_bad_37 : decode cX8_bad 37 = .ok (.getfield 69, 3) := by decide +kernel
theorem dX8_bad_40 : decode cX8_bad 40 = .ok (.getfield 310, 3) := by decide +kernel
theorem dX8_bad_43 : decode cX8_bad 43 = .ok (.ireturn, 1) := by decide +kernel
theorem dX8_bad_44 : decode cX8_bad 44 = .ok (.aload_n 0, 1) := by decide +kernel
theorem dX8_bad_45 : decode cX8_bad 45 = .ok (.getfield 69, 3) := by decide +kernel
theorem dX8_bad_48 : decode cX8_bad 48 = .ok (.getfield 313, 3) := by decide +kernel
theorem dX8_bad_51 : decode cX8_bad 51 = .ok (.ireturn, 1) := by decide +kernel
theorem dX8_bad_52 : decode cX8_bad 52 = .ok (.iconst (-1), 1) := by decide +kernel
theorem dX8_bad_53 : decode cX8_bad 53 = .ok (.ireturn, 1) := by decide +kernel
theorem dX8_next_0 : decode cX8_next 0 = .ok (.iload_n 1, 1) := by decide +kernel
theorem dX8_next_1 : decode cX8_next 1 = .ok (.iconst 0, 1) := by decide +kernel
theorem dX8_next_2 : decode cX8_next 2 = .ok (.iconst 2, 1) := by decide +kernel
theorem dX8_next_3 : decode cX8_next 3 = .ok (.invokestatic 81, 3) := by decide +kernel
theorem dX8_next_6 : decode cX8_next 6 = .ok (.ifCond .ne 5, 3) := by decide +kernel
theorem dX8_next_9 : decode cX8_next 9 = .ok (.iconst (-1), 1) := by decide +kernel
theorem dX8_next_10 : decode cX8_next 10 = .ok (.ireturn, 1) := by decide +kernel
theorem dX8_next_11 : decode cX8_next 11 = .ok (.aload_n 0, 1) := by decide +kernel
theorem dX8_next_12 : decode cX8_next 12 = .ok (.getfield 69, 3) := by decide +kernel
theorem dX8_next_15 : decode cX8_next 15 = .ok (.invokevirtual 307, 3) := by decide +kernel
theorem dX8_next_18 : decode cX8_next 18 = .ok (.ifCond .ne 6, 3) := by decide +kernel
theorem dX8_next_21 : decode cX8_next 21 = .ok (.bipush (-2), 2) := by decide +kernel
theorem dX8_next_23 : decode cX8_next 23 = .ok (.ireturn, 1) := by decide +kernel
theorem dX8_next_24 : decode cX8_next 24 = .ok (.aload_n 0, 1) := by decide +kernel
theorem dX8_next_25 : decode cX8_next 25 = .ok (.getfield 69, 3) := by decide +kernel
theorem dX8_next_28 : decode cX8_next 28 = .ok (.invokevirtual 316, 3) := by decide +kernel
theorem dX8_next_31 : decode cX8_next 31 = .ok (.iload_n 1, 1) := by decide +kernel
theorem dX8_next_32 : decode cX8_next 32 = .ok (.lookupswitch 44 #[(0, 28), (1, 36)], 28) := by decide +kernel
theorem dX8_next_60 : decode cX8_next 60 = .ok (.aload_n 0, 1) := by decide +kernel
theorem dX8_next_61 : decode cX8_next 61 = .ok (.getfield 69, 3) := by decide +kernel
theorem dX8_next_64 : decode cX8_next 64 = .ok (.getfield 319, 3) := by decide +kernel
theorem dX8_next_67 : decode cX8_next 67 = .ok (.ireturn, 1) := by decide +kernel
theorem dX8_next_68 : decode cX8_next 68 = .ok (.aload_n 0, 1) := by decide +kernel
theorem dX8_next_69 : decode cX8_next 69 = .ok (.getfield 69, 3) := by decide +kernel
theorem dX8_next_72 : decode cX8_next 72 = .ok (.getfield 322, 3) := by decide +kernel
theorem dX8_next_75 : decode cX8_next 75 = .ok (.ireturn, 1) := by decide +kernel
theorem dX8_next_76 : decode cX8_next 76 = .ok (.aload_n 0, 1) := by decide +kernel
theorem dX8_next_77 : decode cX8_next 77 = .ok (.getfield 69, 3) := by decide +kernel
theorem dX8_next_80 : decode cX8_next 80 = .ok (.getfield 325, 3) := by decide +kernel
theorem dX8_next_83 : decode cX8_next 83 = .ok (.ireturn, 1) := by decide +kernel
theorem dX8_count_0 : decode cX8_count 0 = .ok (.iload_n 1, 1) := by decide +kernel
theorem dX8_count_1 : decode cX8_count 1 = .ok (.tableswitch 99 0 5 #[39, 44, 49, 57, 83, 91], 39) := by decide +kernel
theorem dX8_count_40 : decode cX8_count 40 = .ok (.aload_n 0, 1) := by decide +kernel
theorem dX8_count_41 : decode cX8_count 41 = .ok (.getfield 22, 3) := by decide +kernel
theorem dX8_count_44 : decode cX8_count 44 = .ok (.ireturn, 1) := by decide +kernel
theorem dX8_count_45 : decode cX8_count 45 = .ok (.aload_n 0, 1) := by decide +kernel
theorem dX8_count_46 : decode cX8_count 46 = .ok (.invokevirtual 328, 3) := by decide +kernel
theorem dX8_count_49 : decode cX8_count 49 = .ok (.ireturn, 1) := by decide +kernel
theorem dX8_count_50 : decode cX8_count 50 = .ok (.aload_n 0, 1) := by decide +kernel
theorem dX8_count_51 : decode cX8_count 51 = .ok (.getfield 29, 3) := by decide +kernel
theorem dX8_count_54 : decode cX8_count 54 = .ok (.getfield 206, 3) := by decide +kernel
theorem dX8_count_57 : decode cX8_count 57 = .ok (.ireturn, 1) := by decide +kernel
theorem dX8_count_58 : decode cX8_count 58 = .ok (.aload_n 0, 1) := by decide +kernel
theorem dX8_count_59 : decode cX8_count 59 = .ok (.getfield 49, 3) := by decide +kernel
theorem dX8_count_62 : decode cX8_count 62 = .ok (.getfield 135, 3) := by decide +kernel
theorem dX8_count_65 : decode cX8_count 65 = .ok (.aload_n 0, 1) := by decide +kernel
theorem dX8_count_66 : decode cX8_count 66 = .ok (.getfield 49, 3) := by decide +kernel
theorem dX8_count_69 : decode cX8_count 69 = .ok (.getfield 135, 3) := by decide +kernel
theorem dX8_count_72 : decode cX8_count 72 = .ok (.imul, 1) := by decide +kernel
theorem dX8_count_73 : decode cX8_count 73 = .ok (.aload_n 0, 1) := by decide +kernel
theorem dX8_count_74 : decode cX8_count 74 = .ok (.getfield 49, 3) := by decide +kernel
theorem dX8_count_77 : decode cX8_count 77 = .ok (.bipush (-9), 2) := by decide +kernel
theorem dX8_count_79 : decode cX8_count 79 = .ok (.invokevirtual 227, 3) := by decide +kernel
theorem dX8_count_82 : decode cX8_count 82 = .ok (.isub, 1) := by decide +kernel
theorem dX8_count_83 : decode cX8_count 83 = .ok (.ireturn, 1) := by decide +kernel
theorem dX8_count_84 : decode cX8_count 84 = .ok (.aload_n 0, 1) := by decide +kernel
theorem dX8_count_85 : decode cX8_count 85 = .ok (.getfield 62, 3) := by decide +kernel
theorem dX8_count_88 : decode cX8_count 88 = .ok (.getfield 286, 3) := by decide +kernel
theorem dX8_count_91 : decode cX8_count 91 = .ok (.ireturn, 1) := by decide +kernel
theorem dX8_count_92 : decode cX8_count 92 = .ok (.aload_n 0, 1) := by decide +kernel
theorem dX8_count_93 : decode cX8_count 93 = .ok (.getfield 69, 3) := by decide +kernel
theorem dX8_count_96 : decode cX8_count 96 = .ok (.getfield 300, 3) := by decide +kernel
theorem dX8_count_99 : decode cX8_count 99 = .ok (.ireturn, 1) := by decide +kernel
theorem dX8_count_100 : decode cX8_count 100 = .ok (.iconst (-1), 1) := by decide +kernel
theorem dX8_count_101 : decode cX8_count 101 = .ok (.ireturn, 1) := by decide +kernel
theorem dX8_trace_0 : decode cX8_trace 0 = .ok (.aload_n 0, 1) := by decide +kernel
theorem dX8_trace_1 : decode cX8_trace 1 = .ok (.getfield 73, 3) := by decide +kernel
theorem dX8_trace_4 : decode cX8_trace 4 = .ok (.lreturn, 1) := by decide +kernel
theorem dX8_unusedCanes_0 : decode cX8_unusedCanes 0 = .ok (.iconst 0, 1) := by decide +kernel
theorem dX8_unusedCanes_1 : decode cX8_unusedCanes 1 = .ok (.istore_n 1, 1) := by decide +kernel
theorem dX8_unusedCanes_2 : decode cX8_unusedCanes 2 = .ok (.iconst 0, 1) := by decide +kernel
theorem dX8_unusedCanes_3 : decode cX8_unusedCanes 3 = .ok (.istore_n 2, 1) := by decide +kernel
theorem dX8_unusedCanes_4 : decode cX8_unusedCanes 4 = .ok (.iload_n 2, 1) := by decide +kernel
theorem dX8_unusedCanes_5 : decode cX8_unusedCanes 5 = .ok (.aload_n 0, 1) := by decide +kernel
theorem dX8_unusedCanes_6 : decode cX8_unusedCanes 6 = .ok (.getfield 22, 3) := by decide +kernel
theorem dX8_unusedCanes_9 : decode cX8_unusedCanes 9 = .ok (.if_icmp .ge 20, 3) := by decide +kernel
theorem dX8_unusedCanes_12 : decode cX8_unusedCanes 12 = .ok (.aload_n 0, 1) := by decide +kernel
theorem dX8_unusedCanes_13 : decode cX8_unusedCanes 13 = .ok (.iload_n 2, 1) := by decide +kernel
theorem dX8_unusedCanes_14 : decode cX8_unusedCanes 14 = .ok (.invokevirtual 107, 3) := by decide +kernel
theorem dX8_unusedCanes_17 : decode cX8_unusedCanes 17 = .ok (.ifnull 6, 3) := by decide +kernel
theorem dX8_unusedCanes_20 : decode cX8_unusedCanes 20 = .ok (.iinc 1 1, 3) := by decide +kernel
theorem dX8_unusedCanes_23 : decode cX8_unusedCanes 23 = .ok (.iinc 2 1, 3) := by decide +kernel
theorem dX8_unusedCanes_26 : decode cX8_unusedCanes 26 = .ok (.goto (-22), 3) := by decide +kernel
theorem dX8_unusedCanes_29 : decode cX8_unusedCanes 29 = .ok (.iload_n 1, 1) := by decide +kernel
theorem dX8_unusedCanes_30 : decode cX8_unusedCanes 30 = .ok (.ireturn, 1) := by decide +kernel
theorem dX8_find_0 : decode cX8_find 0 = .ok (.iload_n 1, 1) := by decide +kernel
theorem dX8_find_1 : decode cX8_find 1 = .ok (.ifCond .lt 17, 3) := by decide +kernel
theorem dX8_find_4 : decode cX8_find 4 = .ok (.iload_n 1, 1) := by decide +kernel
theorem dX8_find_5 : decode cX8_find 5 = .ok (.aload_n 0, 1) := by decide +kernel
theorem dX8_find_6 : decode cX8_find 6 = .ok (.getfield 22, 3) := by decide +kernel
theorem dX8_find_9 : decode cX8_find 9 = .ok (.if_icmp .ge 9, 3) := by decide +kernel
theorem dX8_find_12 : decode cX8_find 12 = .ok (.iload_n 1, 1) := by decide +kernel
theorem dX8_find_13 : decode cX8_find 13 = .ok (.bipush 16, 2) := by decide +kernel
theorem dX8_find_15 : decode cX8_find 15 = .ok (.if_icmp .lt 5, 3) := by decide +kernel
theorem dX8_find_18 : decode cX8_find 18 = .ok (.aconst_null, 1) := by decide +kernel
theorem dX8_find_19 : decode cX8_find 19 = .ok (.areturn, 1) := by decide +kernel
theorem dX8_find_20 : decode cX8_find 20 = .ok (.aload_n 0, 1) := by decide +kernel
theorem dX8_find_21 : decode cX8_find 21 = .ok (.getfield 18, 3) := by decide +kernel
theorem dX8_find_24 : decode cX8_find 24 = .ok (.iload_n 1, 1) := by decide +kernel
theorem dX8_find_25 : decode cX8_find 25 = .ok (.aaload, 1) := by decide +kernel
theorem dX8_find_26 : decode cX8_find 26 = .ok (.areturn, 1) := by decide +kernel
theorem dX8_unused_0 : decode cX8_unused 0 = .ok (.aload_n 0, 1) := by decide +kernel
theorem dX8_unused_1 : decode cX8_unused 1 = .ok (.iload_n 1, 1) := by decide +kernel
theorem dX8_unused_2 : decode cX8_unused 2 = .ok (.invokevirtual 142, 3) := by decide +kernel
theorem dX8_unused_5 : decode cX8_unused 5 = .ok (.astore_n 2, 1) := by decide +kernel
theorem dX8_unused_6 : decode cX8_unused 6 = .ok (.aload_n 2, 1) := by decide +kernel
theorem dX8_unused_7 : decode cX8_unused 7 = .ok (.ifnull 11, 3) := by decide +kernel
theorem dX8_unused_10 : decode cX8_unused 10 = .ok (.aload_n 2, 1) := by decide +kernel
theorem dX8_unused_11 : decode cX8_unused 11 = .ok (.getfield 111, 3) := by decide +kernel
theorem dX8_unused_14 : decode cX8_unused 14 = .ok (.iconst 1, 1) := by decide +kernel
theorem dX8_unused_15 : decode cX8_unused 15 = .ok (.if_icmp .ge 7, 3) := by decide +kernel
theorem dX8_unused_18 : decode cX8_unused 18 = .ok (.aconst_null, 1) := by decide +kernel
theorem dX8_unused_19 : decode cX8_unused 19 = .ok (.goto 4, 3) := by decide +kernel
theorem dX8_unused_22 : decode cX8_unused 22 = .ok (.aload_n 2, 1) := by decide +kernel
theorem dX8_unused_23 : decode cX8_unused 23 = .ok (.areturn, 1) := by decide +kernel
theorem dX8_keep_0 : decode cX8_keep 0 = .ok (.aload_n 0, 1) := by decide +kernel
theorem dX8_keep_1 : decode cX8_keep 1 = .ok (.getfield 22, 3) := by decide +kernel
theorem dX8_keep_4 : decode cX8_keep 4 = .ok (.ifCond .lt 12, 3) := by decide +kernel
theorem dX8_keep_7 : decode cX8_keep 7 = .ok (.aload_n 0, 1) := by decide +kernel
theorem dX8_keep_8 : decode cX8_keep 8 = .ok (.getfield 22, 3) := by decide +kernel
theorem dX8_keep_11 : decode cX8_keep 11 = .ok (.bipush 16, 2) := by decide +kernel
theorem dX8_keep_13 : decode cX8_keep 13 = .ok (.if_icmp .lt 6, 3) := by decide +kernel
theorem dX8_keep_16 : decode cX8_keep 16 = .ok (.bipush (-3), 2) := by decide +kernel
theorem dX8_keep_18 : decode cX8_keep 18 = .ok (.ireturn, 1) := by decide +kernel
theorem dX8_keep_19 : decode cX8_keep 19 = .ok (.aload_n 0, 1) := by decide +kernel
theorem dX8_keep_20 : decode cX8_keep 20 = .ok (.getfield 18, 3) := by decide +kernel
theorem dX8_keep_23 : decode cX8_keep 23 = .ok (.aload_n 0, 1) := by decide +kernel
theorem dX8_keep_24 : decode cX8_keep 24 = .ok (.getfield 22, 3) := by decide +kernel
theorem dX8_keep_27 : decode cX8_keep 27 = .ok (.aload_n 1, 1) := by decide +kernel
theorem dX8_keep_28 : decode cX8_keep 28 = .ok (.aastore, 1) := by decide +kernel
theorem dX8_keep_29 : decode cX8_keep 29 = .ok (.aload_n 0, 1) := by decide +kernel
theorem dX8_keep_30 : decode cX8_keep 30 = .ok (.dup, 1) := by decide +kernel
theorem dX8_keep_31 : decode cX8_keep 31 = .ok (.getfield 22, 3) := by decide +kernel
theorem dX8_keep_34 : decode cX8_keep 34 = .ok (.iconst 1, 1) := by decide +kernel
theorem dX8_keep_35 : decode cX8_keep 35 = .ok (.iadd, 1) := by decide +kernel
theorem dX8_keep_36 : decode cX8_keep 36 = .ok (.putfield 22, 3) := by decide +kernel
theorem dX8_keep_39 : decode cX8_keep 39 = .ok (.aload_n 0, 1) := by decide +kernel
theorem dX8_keep_40 : decode cX8_keep 40 = .ok (.getfield 22, 3) := by decide +kernel
theorem dX8_keep_43 : decode cX8_keep 43 = .ok (.iconst 1, 1) := by decide +kernel
theorem dX8_keep_44 : decode cX8_keep 44 = .ok (.isub, 1) := by decide +kernel
theorem dX8_keep_45 : decode cX8_keep 45 = .ok (.ireturn, 1) := by decide +kernel
theorem dX8_isWithin_0 : decode cX8_isWithin 0 = .ok (.iload_n 0, 1) := by decide +kernel
theorem dX8_isWithin_1 : decode cX8_isWithin 1 = .ok (.iload_n 1, 1) := by decide +kernel
theorem dX8_isWithin_2 : decode cX8_isWithin 2 = .ok (.if_icmp .lt 12, 3) := by decide +kernel
theorem dX8_isWithin_5 : decode cX8_isWithin 5 = .ok (.iload_n 0, 1) := by decide +kernel
theorem dX8_isWithin_6 : decode cX8_isWithin 6 = .ok (.iload_n 2, 1) := by decide +kernel
theorem dX8_isWithin_7 : decode cX8_isWithin 7 = .ok (.if_icmp .gt 7, 3) := by decide +kernel
theorem dX8_isWithin_10 : decode cX8_isWithin 10 = .ok (.iconst 1, 1) := by decide +kernel
theorem dX8_isWithin_11 : decode cX8_isWithin 11 = .ok (.goto 4, 3) := by decide +kernel
theorem dX8_isWithin_14 : decode cX8_isWithin 14 = .ok (.iconst 0, 1) := by decide +kernel
theorem dX8_isWithin_15 : decode cX8_isWithin 15 = .ok (.ireturn, 1) := by decide +kernel
theorem dX8_isGlass_0 : decode cX8_isGlass 0 = .ok (.iload_n 0, 1) := by decide +kernel
theorem dX8_isGlass_1 : decode cX8_isGlass 1 = .ok (.iconst 1, 1) := by decide +kernel
theorem dX8_isGlass_2 : decode cX8_isGlass 2 = .ok (.bipush 8, 2) := by decide +kernel
theorem dX8_isGlass_4 : decode cX8_isGlass 4 = .ok (.invokestatic 81, 3) := by decide +kernel
theorem dX8_isGlass_7 : decode cX8_isGlass 7 = .ok (.ireturn, 1) := by decide +kernel
theorem dX8_isWishSide_0 : decode cX8_isWishSide 0 = .ok (.iload_n 0, 1) := by decide +kernel
theorem dX8_isWishSide_1 : decode cX8_isWishSide 1 = .ok (.iconst 1, 1) := by decide +kernel
theorem dX8_isWishSide_2 : decode cX8_isWishSide 2 = .ok (.if_icmp .eq 19, 3) := by decide +kernel
theorem dX8_isWishSide_5 : decode cX8_isWishSide 5 = .ok (.iload_n 0, 1) := by decide +kernel
theorem dX8_isWishSide_6 : decode cX8_isWishSide 6 = .ok (.iconst 2, 1) := by decide +kernel
theorem dX8_isWishSide_7 : decode cX8_isWishSide 7 = .ok (.if_icmp .eq 14, 3) := by decide +kernel
theorem dX8_isWishSide_10 : decode cX8_isWishSide 10 = .ok (.iload_n 0, 1) := by decide +kernel
theorem dX8_isWishSide_11 : decode cX8_isWishSide 11 = .ok (.iconst 4, 1) := by decide +kernel
theorem dX8_isWishSide_12 : decode cX8_isWishSide 12 = .ok (.if_icmp .eq 9, 3) := by decide +kernel
theorem dX8_isWishSide_15 : decode cX8_isWishSide 15 = .ok (.iload_n 0, 1) := by decide +kernel
theorem dX8_isWishSide_16 : decode cX8_isWishSide 16 = .ok (.bipush 8, 2) := by decide +kernel
theorem dX8_isWishSide_18 : decode cX8_isWishSide 18 = .ok (.if_icmp .ne 7, 3) := by decide +kernel
theorem dX8_isWishSide_21 : decode cX8_isWishSide 21 = .ok (.iconst 1, 1) := by decide +kernel
theorem dX8_isWishSide_22 : decode cX8_isWishSide 22 = .ok (.goto 4, 3) := by decide +kernel
theorem dX8_isWishSide_25 : decode cX8_isWishSide 25 = .ok (.iconst 0, 1) := by decide +kernel
