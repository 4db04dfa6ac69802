theorem dX3_cleanDirty_42 : decode cX3_cleanDirty 42 = .ok (.ifCond .eq 37, 3) := by decide +kernel
theorem dX3_cleanDirty_45 : decode cX3_cleanDirty 45 = .ok (.aload_n 0, 1) := by decide +kernel
theorem dX3_cleanDirty_46 : decode cX3_cleanDirty 46 = .ok (.aload_n 0, 1) := by decide +kernel
theorem dX3_cleanDirty_47 : decode cX3_cleanDirty 47 = .ok (.getfield 15, 3) := by decide +kernel
theorem dX3_cleanDirty_50 : decode cX3_cleanDirty 50 = .ok (.iload_n 3, 1) := by decide +kernel
theorem dX3_cleanDirty_51 : decode cX3_cleanDirty 51 = .ok (.aaload, 1) := by decide +kernel
theorem dX3_cleanDirty_52 : decode cX3_cleanDirty 52 = .ok (.aload 5, 2) := by decide +kernel
theorem dX3_cleanDirty_54 : decode cX3_cleanDirty 54 = .ok (.getfield 178, 3) := by decide +kernel
theorem dX3_cleanDirty_57 : decode cX3_cleanDirty 57 = .ok (.aload 5, 2) := by decide +kernel
theorem dX3_cleanDirty_59 : decode cX3_cleanDirty 59 = .ok (.getfield 181, 3) := by decide +kernel
theorem dX3_cleanDirty_62 : decode cX3_cleanDirty 62 = .ok (.aload 5, 2) := by decide +kernel
theorem dX3_cleanDirty_64 : decode cX3_cleanDirty 64 = .ok (.getfield 106, 3) := by decide +kernel
theorem dX3_cleanDirty_67 : decode cX3_cleanDirty 67 = .ok (.invokevirtual 184, 3) := by decide +kernel
theorem dX3_cleanDirty_70 : decode cX3_cleanDirty 70 = .ok (.ifCond .ne 6, 3) := by decide +kernel
theorem dX3_cleanDirty_73 : decode cX3_cleanDirty 73 = .ok (.bipush (-3), 2) := by decide +kernel
theorem dX3_cleanDirty_75 : decode cX3_cleanDirty 75 = .ok (.ireturn, 1) := by decide +kernel
theorem dX3_cleanDirty_76 : decode cX3_cleanDirty 76 = .ok (.iinc 3 1, 3) := by decide +kernel
theorem dX3_cleanDirty_79 : decode cX3_cleanDirty 79 = .ok (.iinc 4 1, 3) := by decide +kernel
theorem dX3_cleanDirty_82 : decode cX3_cleanDirty 82 = .ok (.goto (-65), 3) := by decide +kernel
theorem dX3_cleanDirty_85 : decode cX3_cleanDirty 85 = .ok (.aload_n 0, 1) := by decide +kernel
theorem dX3_cleanDirty_86 : decode cX3_cleanDirty 86 = .ok (.iload_n 1, 1) := by decide +kernel
theorem dX3_cleanDirty_87 : decode cX3_cleanDirty 87 = .ok (.iload_n 2, 1) := by decide +kernel
theorem dX3_cleanDirty_88 : decode cX3_cleanDirty 88 = .ok (.invokevirtual 188, 3) := by decide +kernel
theorem dX3_cleanDirty_91 : decode cX3_cleanDirty 91 = .ok (.ifCond .ne 6, 3) := by decide +kernel
theorem dX3_cleanDirty_94 : decode cX3_cleanDirty 94 = .ok (.bipush (-3), 2) := by decide +kernel
theorem dX3_cleanDirty_96 : decode cX3_cleanDirty 96 = .ok (.ireturn, 1) := by decide +kernel
theorem dX3_cleanDirty_97 : decode cX3_cleanDirty 97 = .ok (.iload_n 1, 1) := by decide +kernel
theorem dX3_cleanDirty_98 : decode cX3_cleanDirty 98 = .ok (.istore 4, 2) := by decide +kernel
theorem dX3_cleanDirty_100 : decode cX3_cleanDirty 100 = .ok (.iload 4, 2) := by decide +kernel
theorem dX3_cleanDirty_102 : decode cX3_cleanDirty 102 = .ok (.iload_n 2, 1) := by decide +kernel
theorem dX3_cleanDirty_103 : decode cX3_cleanDirty 103 = .ok (.if_icmp .gt 20, 3) := by decide +kernel
theorem dX3_cleanDirty_106 : decode cX3_cleanDirty 106 = .ok (.aload_n 0, 1) := by decide +kernel
theorem dX3_cleanDirty_107 : decode cX3_cleanDirty 107 = .ok (.getfield 46, 3) := by decide +kernel
theorem dX3_cleanDirty_110 : decode cX3_cleanDirty 110 = .ok (.iload 4, 2) := by decide +kernel
theorem dX3_cleanDirty_112 : decode cX3_cleanDirty 112 = .ok (.aaload, 1) := by decide +kernel
theorem dX3_cleanDirty_113 : decode cX3_cleanDirty 113 = .ok (.iconst 0, 1) := by decide +kernel
theorem dX3_cleanDirty_114 : decode cX3_cleanDirty 114 = .ok (.putfield 175, 3) := by decide +kernel
theorem dX3_cleanDirty_117 : decode cX3_cleanDirty 117 = .ok (.iinc 4 1, 3) := by decide +kernel
theorem dX3_cleanDirty_120 : decode cX3_cleanDirty 120 = .ok (.goto (-20), 3) := by decide +kernel
theorem dX3_cleanDirty_123 : decode cX3_cleanDirty 123 = .ok (.aload_n 0, 1) := by decide +kernel
theorem dX3_cleanDirty_124 : decode cX3_cleanDirty 124 = .ok (.dup, 1) := by decide +kernel
theorem dX3_cleanDirty_125 : decode cX3_cleanDirty 125 = .ok (.getfield 38, 3) := by decide +kernel
theorem dX3_cleanDirty_128 : decode cX3_cleanDirty 128 = .ok (.iload_n 3, 1) := by decide +kernel
theorem dX3_cleanDirty_129 : decode cX3_cleanDirty 129 = .ok (.iadd, 1) := by decide +kernel
theorem dX3_cleanDirty_130 : decode cX3_cleanDirty 130 = .ok (.putfield 38, 3) := by decide +kernel
theorem dX3_cleanDirty_133 : decode cX3_cleanDirty 133 = .ok (.iload_n 3, 1) := by decide +kernel
theorem dX3_cleanDirty_134 : decode cX3_cleanDirty 134 = .ok (.ireturn, 1) := by decide +kernel
theorem dX3_writeDirtyHome_0 : decode cX3_writeDirtyHome 0 = .ok (.iload_n 1, 1) := by decide +kernel
theorem dX3_writeDirtyHome_1 : decode cX3_writeDirtyHome 1 = .ok (.istore_n 3, 1) := by decide +kernel
theorem dX3_writeDirtyHome_2 : decode cX3_writeDirtyHome 2 = .ok (.iload_n 3, 1) := by decide +kernel
theorem dX3_writeDirtyHome_3 : decode cX3_writeDirtyHome 3 = .ok (.iload_n 2, 1) := by decide +kernel
theorem dX3_writeDirtyHome_4 : decode cX3_writeDirtyHome 4 = .ok (.if_icmp .gt 72, 3) := by decide +kernel
theorem dX3_writeDirtyHome_7 : decode cX3_writeDirtyHome 7 = .ok (.aload_n 0, 1) := by decide +kernel
theorem dX3_writeDirtyHome_8 : decode cX3_writeDirtyHome 8 = .ok (.getfield 46, 3) := by decide +kernel
theorem dX3_writeDirtyHome_11 : decode cX3_writeDirtyHome 11 = .ok (.iload_n 3, 1) := by decide +kernel
theorem dX3_writeDirtyHome_12 : decode cX3_writeDirtyHome 12 = .ok (.aaload, 1) := by decide +kernel
theorem dX3_writeDirtyHome_13 : decode cX3_writeDirtyHome 13 = .ok (.astore 4, 2) := by decide +kernel
theorem dX3_writeDirtyHome_15 : decode cX3_writeDirtyHome 15 = .ok (.aload 4, 2) := by decide +kernel
theorem dX3_writeDirtyHome_17 : decode cX3_writeDirtyHome 17 = .ok (.getfield 175, 3) := by decide +kernel
theorem dX3_writeDirtyHome_20 : decode cX3_writeDirtyHome 20 = .ok (.ifCond .eq 50, 3) := by decide +kernel
theorem dX3_writeDirtyHome_23 : decode cX3_writeDirtyHome 23 = .ok (.aload 4, 2) := by decide +kernel
theorem dX3_writeDirtyHome_25 : decode cX3_writeDirtyHome 25 = .ok (.getfield 178, 3) := by decide +kernel
theorem dX3_writeDirtyHome_28 : decode cX3_writeDirtyHome 28 = .ok (.bipush 12, 2) := by decide +kernel
theorem dX3_writeDirtyHome_30 : decode cX3_writeDirtyHome 30 = .ok (.invokestatic 70, 3) := by decide +kernel
theorem dX3_writeDirtyHome_33 : decode cX3_writeDirtyHome 33 = .ok (.ifCond .eq 37, 3) := by decide +kernel
theorem dX3_writeDirtyHome_36 : decode cX3_writeDirtyHome 36 = .ok (.aload_n 0, 1) := by decide +kernel
theorem dX3_writeDirtyHome_37 : decode cX3_writeDirtyHome 37 = .ok (.aload_n 0, 1) := by decide +kernel
theorem dX3_writeDirtyHome_38 : decode cX3_writeDirtyHome 38 = .ok (.getfield 11, 3) := by decide +kernel
theorem dX3_writeDirtyHome_41 : decode cX3_writeDirtyHome 41 = .ok (.aload 4, 2) := by decide +kernel
theorem dX3_writeDirtyHome_43 : decode cX3_writeDirtyHome 43 = .ok (.getfield 178, 3) := by decide +kernel
theorem dX3_writeDirtyHome_46 : decode cX3_writeDirtyHome 46 = .ok (.aaload, 1) := by decide +kernel
theorem dX3_writeDirtyHome_47 : decode cX3_writeDirtyHome 47 = .ok (.aload 4, 2) := by decide +kernel
theorem dX3_writeDirtyHome_49 : decode cX3_writeDirtyHome 49 = .ok (.getfield 178, 3) := by decide +kernel
theorem dX3_writeDirtyHome_52 : decode cX3_writeDirtyHome 52 = .ok (.aload 4, 2) := by decide +kernel
theorem dX3_writeDirtyHome_54 : decode cX3_writeDirtyHome 54 = .ok (.getfield 181, 3) := by decide +kernel
theorem dX3_writeDirtyHome_57 : decode cX3_writeDirtyHome 57 = .ok (.aload 4, 2) := by decide +kernel
theorem dX3_writeDirtyHome_59 : decode cX3_writeDirtyHome 59 = .ok (.getfield 106, 3) := by decide +kernel
theorem dX3_writeDirtyHome_62 : decode cX3_writeDirtyHome 62 = .ok (.invokevirtual 184, 3) := by decide +kernel
theorem dX3_writeDirtyHome_65 : decode cX3_writeDirtyHome 65 = .ok (.ifCond .ne 5, 3) := by decide +kernel
theorem dX3_writeDirtyHome_68 : decode cX3_writeDirtyHome 68 = .ok (.iconst 0, 1) := by decide +kernel
theorem dX3_writeDirtyHome_69 : decode cX3_writeDirtyHome 69 = .ok (.ireturn, 1) := by decide +kernel
theorem dX3_writeDirtyHome_70 : decode cX3_writeDirtyHome 70 = .ok (.iinc 3 1, 3) := by decide +kernel
theorem dX3_writeDirtyHome_73 : decode cX3_writeDirtyHome 73 = .ok (.goto (-71), 3) := by decide +kernel
theorem dX3_writeDirtyHome_76 : decode cX3_writeDirtyHome 76 = .ok (.iconst 1, 1) := by decide +kernel
theorem dX3_writeDirtyHome_77 : decode cX3_writeDirtyHome 77 = .ok (.ireturn, 1) := by decide +kernel
theorem dX3_cleanAllAndMark_0 : decode cX3_cleanAllAndMark 0 = .ok (.aload_n 0, 1) := by decide +kernel
theorem dX3_cleanAllAndMark_1 : decode cX3_cleanAllAndMark 1 = .ok (.iconst 0, 1) := by decide +kernel
theorem dX3_cleanAllAndMark_2 : decode cX3_cleanAllAndMark 2 = .ok (.iconst 3, 1) := by decide +kernel
theorem dX3_cleanAllAndMark_3 : decode cX3_cleanAllAndMark 3 = .ok (.invokevirtual 191, 3) := by decide +kernel
theorem dX3_cleanAllAndMark_6 : decode cX3_cleanAllAndMark 6 = .ok (.istore_n 1, 1) := by decide +kernel
theorem dX3_cleanAllAndMark_7 : decode cX3_cleanAllAndMark 7 = .ok (.iload_n 1, 1) := by decide +kernel
theorem dX3_cleanAllAndMark_8 : decode cX3_cleanAllAndMark 8 = .ok (.bipush (-3), 2) := by decide +kernel
theorem dX3_cleanAllAndMark_10 : decode cX3_cleanAllAndMark 10 = .ok (.if_icmp .eq 10, 3) := by decide +kernel
theorem dX3_cleanAllAndMark_13 : decode cX3_cleanAllAndMark 13 = .ok (.aload_n 0, 1) := by decide +kernel
theorem dX3_cleanAllAndMark_14 : decode cX3_cleanAllAndMark 14 = .ok (.invokevirtual 159, 3) := by decide +kernel
theorem dX3_cleanAllAndMark_17 : decode cX3_cleanAllAndMark 17 = .ok (.ifCond .ne 6, 3) := by decide +kernel
theorem dX3_cleanAllAndMark_20 : decode cX3_cleanAllAndMark 20 = .ok (.bipush (-3), 2) := by decide +kernel
theorem dX3_cleanAllAndMark_22 : decode cX3_cleanAllAndMark 22 = .ok (.ireturn, 1) := by decide +kernel
theorem dX3_cleanAllAndMark_23 : decode cX3_cleanAllAndMark 23 = .ok (.aload_n 0, 1) := by decide +kernel
theorem dX3_cleanAllAndMark_24 : decode cX3_cleanAllAndMark 24 = .ok (.aload_n 0, 1) := by decide +kernel
theorem dX3_cleanAllAndMark_25 : decode cX3_cleanAllAndMark 25 = .ok (.getfield 56, 3) := by decide +kernel
theorem dX3_cleanAllAndMark_28 : decode cX3_cleanAllAndMark 28 = .ok (.putfield 24, 3) := by decide +kernel
theorem dX3_cleanAllAndMark_31 : decode cX3_cleanAllAndMark 31 = .ok (.iload_n 1, 1) := by decide +kernel
theorem dX3_cleanAllAndMark_32 : decode cX3_cleanAllAndMark 32 = .ok (.ireturn, 1) := by decide +kernel
theorem dX3_bring_0 : decode cX3_bring 0 = .ok (.aload_n 0, 1) := by decide +kernel
theorem dX3_bring_1 : decode cX3_bring 1 = .ok (.iload_n 1, 1) := by decide +kernel
theorem dX3_bring_2 : decode cX3_bring 2 = .ok (.invokevirtual 194, 3) := by decide +kernel
theorem dX3_bring_5 : decode cX3_bring 5 = .ok (.astore_n 2, 1) := by decide +kernel
theorem dX3_bring_6 : decode cX3_bring 6 = .ok (.aload_n 2, 1) := by decide +kernel
theorem dX3_bring_7 : decode cX3_bring 7 = .ok (.ifnonnull 46, 3) := by decide +kernel
theorem dX3_bring_10 : decode cX3_bring 10 = .ok (.aload_n 0, 1) := by decide +kernel
theorem dX3_bring_11 : decode cX3_bring 11 = .ok (.invokevirtual 197, 3) := by decide +kernel
theorem dX3_bring_14 : decode cX3_bring 14 = .ok (.istore_n 3, 1) := by decide +kernel
theorem dX3_bring_15 : decode cX3_bring 15 = .ok (.aload_n 0, 1) := by decide +kernel
theorem dX3_bring_16 : decode cX3_bring 16 = .ok (.getfield 46, 3) := by decide +kernel
theorem dX3_bring_19 : decode cX3_bring 19 = .ok (.iload_n 3, 1) := by decide +kernel
theorem dX3_bring_20 : decode cX3_bring 20 = .ok (.aaload, 1) := by decide +kernel
theorem dX3_bring_21 : decode cX3_bring 21 = .ok (.astore_n 2, 1) := by decide +kernel
theorem dX3_bring_22 : decode cX3_bring 22 = .ok (.aload_n 2, 1) := by decide +kernel
theorem dX3_bring_23 : decode cX3_bring 23 = .ok (.getfield 175, 3) := by decide +kernel
theorem dX3_bring_26 : decode cX3_bring 26 = .ok (.ifCond .eq 16, 3) := by decide +kernel
theorem dX3_bring_29 : decode cX3_bring 29 = .ok (.aload_n 0, 1) := by decide +kernel
theorem dX3_bring_30 : decode cX3_bring 30 = .ok (.iload_n 3, 1) := by decide +kernel
theorem dX3_bring_31 : decode cX3_bring 31 = .ok (.iload_n 3, 1) := by decide +kernel
theorem dX3_bring_32 : decode cX3_bring 32 = .ok (.invokevirtual 191, 3) := by decide +kernel
theorem dX3_bring_35 : decode cX3_bring 35 = .ok (.bipush (-3), 2) := by decide +kernel
theorem dX3_bring_37 : decode cX3_bring 37 = .ok (.if_icmp .ne 5, 3) := by decide +kernel
theorem dX3_bring_40 : decode cX3_bring 40 = .ok (.aconst_null, 1) := by decide +kernel
theorem dX3_bring_41 : decode cX3_bring 41 = .ok (.areturn, 1) := by decide +kernel
theorem dX3_bring_42 : decode cX3_bring 42 = .ok (.aload_n 2, 1) := by decide +kernel
theorem dX3_bring_43 : decode cX3_bring 43 = .ok (.iload_n 1, 1) := by decide +kernel
theorem dX3_bring_44 : decode cX3_bring 44 = .ok (.aload_n 0, 1) := by decide +kernel
theorem dX3_bring_45 : decode cX3_bring 45 = .ok (.getfield 11, 3) := by decide +kernel
theorem dX3_bring_48 : decode cX3_bring 48 = .ok (.iload_n 1, 1) := by decide +kernel
theorem dX3_bring_49 : decode cX3_bring 49 = .ok (.aaload, 1) := by decide +kernel
theorem dX3_bring_50 : decode cX3_bring 50 = .ok (.invokevirtual 200, 3) := by decide +kernel
theorem dX3_bring_53 : decode cX3_bring 53 = .ok (.aload_n 0, 1) := by decide +kernel
theorem dX3_bring_54 : decode cX3_bring 54 = .ok (.dup, 1) := by decide +kernel
theorem dX3_bring_55 : decode cX3_bring 55 = .ok (.getfield 59, 3) := by decide +kernel
theorem dX3_bring_58 : decode cX3_bring 58 = .ok (.iconst 1, 1) := by decide +kernel
theorem dX3_bring_59 : decode cX3_bring 59 = .ok (.iadd, 1) := by decide +kernel
theorem dX3_bring_60 : decode cX3_bring 60 = .ok (.putfield 59, 3) := by decide +kernel
theorem dX3_bring_63 : decode cX3_bring 63 = .ok (.aload_n 2, 1) := by decide +kernel
theorem dX3_bring_64 : decode cX3_bring 64 = .ok (.aload_n 0, 1) := by decide +kernel
theorem dX3_bring_65 : decode cX3_bring 65 = .ok (.getfield 59, 3) := by decide +kernel
theorem dX3_bring_68 : decode cX3_bring 68 = .ok (.putfield 204, 3) := by decide +kernel
theorem dX3_bring_71 : decode cX3_bring 71 = .ok (.aload_n 2, 1) := by decide +kernel
theorem dX3_bring_72 : decode cX3_bring 72 = .ok (.areturn, 1) := by decide +kernel
theorem dX3_frameOf_0 : decode cX3_frameOf 0 = .ok (.iconst 0, 1) := by decide +kernel
theorem dX3_frameOf_1 : decode cX3_frameOf 1 = .ok (.istore_n 2, 1) := by decide +kernel
theorem dX3_frameOf_2 : decode cX3_frameOf 2 = .ok (.iload_n 2, 1) := by decide +kernel
theorem dX3_frameOf_3 : decode cX3_frameOf 3 = .ok (.iconst 4, 1) := by decide +kernel
theorem dX3_frameOf_4 : decode cX3_frameOf 4 = .ok (.if_icmp .ge 29, 3) := by decide +kernel
theorem dX3_frameOf_7 : decode cX3_frameOf 7 = .ok (.aload_n 0, 1) := by decide +kernel
theorem dX3_frameOf_8 : decode cX3_frameOf 8 = .ok (.getfield 46, 3) := by decide +kernel
theorem dX3_frameOf_11 : decode cX3_frameOf 11 = .ok (.iload_n 2, 1) := by decide +kernel
theorem dX3_frameOf_12 : decode cX3_frameOf 12 = .ok (.aaload, 1) := by decide +kernel
theorem dX3_frameOf_13 : decode cX3_frameOf 13 = .ok (.getfield 178, 3) := by decide +kernel
theorem dX3_frameOf_16 : decode cX3_frameOf 16 = .ok (.iload_n 1, 1) := by decide +kernel
theorem dX3_frameOf_17 : decode cX3_frameOf 17 = .ok (.if_icmp .ne 10, 3) := by decide +kernel
theorem dX3_frameOf_20 : decode cX3_frameOf 20 = .ok (.aload_n 0, 1) := by decide +kernel
theorem dX3_frameOf_21 : decode cX3_frameOf 21 = .ok (.getfield 46, 3) := by decide +kernel
theorem dX3_frameOf_24 : decode cX3_frameOf 24 = .ok (.iload_n 2, 1) := by decide +kernel
theorem dX3_frameOf_25 : decode cX3_frameOf 25 = .ok (.aaload, 1) := by decide +kernel
theorem dX3_frameOf_26 : decode cX3_frameOf 26 = .ok (.areturn, 1) := by decide +kernel
theorem dX3_frameOf_27 : decode cX3_frameOf 27 = .ok (.iinc 2 1, 3) := by decide +kernel
theorem dX3_frameOf_30 : decode cX3_frameOf 30 = .ok (.goto (-28), 3) := by decide +kernel
theorem dX3_frameOf_33 : decode cX3_frameOf 33 = .ok (.aconst_null, 1) := by decide +kernel
theorem dX3_frameOf_34 : decode cX3_frameOf 34 = .ok (.areturn, 1) := by decide +kernel
theorem dX3_frameToFill_0 : decode cX3_frameToFill 0 = .ok (.iconst 0, 1) := by decide +kernel
theorem dX3_frameToFill_1 : decode cX3_frameToFill 1 = .ok (.istore_n 1, 1) := by decide +kernel
theorem dX3_frameToFill_2 : decode cX3_frameToFill 2 = .ok (.iconst 1, 1) := by decide +kernel
theorem dX3_frameToFill_3 : decode cX3_frameToFill 3 = .ok (.istore_n 2, 1) := by decide +kernel
theorem dX3_frameToFill_4 : decode cX3_frameToFill 4 = .ok (.iload_n 2, 1) := by decide +kernel
theorem dX3_frameToFill_5 : decode cX3_frameToFill 5 = .ok (.iconst 4, 1) := by decide +kernel
theorem dX3_frameToFill_6 : decode cX3_frameToFill 6 = .ok (.if_icmp .ge 32, 3) := by decide +kernel
theorem dX3_frameToFill_9 : decode cX3_frameToFill 9 = .ok (.aload_n 0, 1) := by decide +kernel
theorem dX3_frameToFill_10 : decode cX3_frameToFill 10 = .ok (.getfield 46, 3) := by decide +kernel
theorem dX3_frameToFill_13 : decode cX3_frameToFill 13 = .ok (.iload_n 2, 1) := by decide +kernel
theorem dX3_frameToFill_14 : decode cX3_frameToFill 14 = .ok (.aaload, 1) := by decide +kernel
theorem dX3_frameToFill_15 : decode cX3_frameToFill 15 = .ok (.getfield 204, 3) := by decide +kernel
theorem dX3_frameToFill_18 : decode cX3_frameToFill 18 = .ok (.aload_n 0, 1) := by decide +kernel
theorem dX3_frameToFill_19 : decode cX3_frameToFill 19 = .ok (.getfield 46, 3) := by decide +kernel
theorem dX3_frameToFill_22 : decode cX3_frameToFill 22 = .ok (.iload_n 1, 1) := by decide +kernel
theorem dX3_frameToFill_23 : decode cX3_frameToFill 23 = .ok (.aaload, 1) := by decide +kernel
theorem dX3_frameToFill_24 : decode cX3_frameToFill 24 = .ok (.getfield 204, 3) := by decide +kernel
theorem dX3_frameToFill_27 : decode cX3_frameToFill 27 = .ok (.if_icmp .ge 5, 3) := by decide +kernel
theorem dX3_frameToFill_30 : decode cX3_frameToFill 30 = .ok (.iload_n 2, 1) := by decide +kernel
theorem dX3_frameToFill_31 : decode cX3_frameToFill 31 = .ok (.istore_n 1, 1) := by decide +kernel
theorem dX3_frameToFill_32 : decode cX3_frameToFill 32 = .ok (.iinc 2 1, 3) := by decide +kernel
theorem dX3_frameToFill_35 : decode cX3_frameToFill 35 = .ok (.goto (-31), 3) := by decide +kernel
theorem dX3_frameToFill_38 : decode cX3_frameToFill 38 = .ok (.iload_n 1, 1) := by decide +kernel
theorem dX3_frameToFill_39 : decode cX3_frameToFill 39 = .ok (.ireturn, 1) := by decide +kernel
theorem dX3_changeWords_0 : decode cX3_changeWords 0 = .ok (.iload 4, 2) := by decide +kernel
theorem dX3_changeWords_2 : decode cX3_changeWords 2 = .ok (.istore 6, 2) := by decide +kernel
theorem dX3_changeWords_4 : decode cX3_changeWords 4 = .ok (.iload_n 2, 1) := by decide +kernel
theorem dX3_changeWords_5 : decode cX3_changeWords 5 = .ok (.istore 7, 2) := by decide +kernel
theorem dX3_changeWords_7 : decode cX3_changeWords 7 = .ok (.iload 7, 2) := by decide +kernel
theorem dX3_changeWords_9 : decode cX3_changeWords 9 = .ok (.iload_n 2, 1) := by decide +kernel
theorem dX3_changeWords_10 : decode cX3_changeWords 10 = .ok (.iload_n 3, 1) := by decide +kernel
theorem dX3_changeWords_11 : decode cX3_changeWords 11 = .ok (.iadd, 1) := by decide +kernel
theorem dX3_changeWords_12 : decode cX3_changeWords 12 = .ok (.if_icmp .ge 77, 3) := by decide +kernel
theorem dX3_changeWords_15 : decode cX3_changeWords 15 = .ok (.aload_n 0, 1) := by decide +kernel
theorem dX3_changeWords_16 : decode cX3_changeWords 16 = .ok (.getfield 50, 3) := by decide +kernel
theorem dX3_changeWords_19 : decode cX3_changeWords 19 = .ok (.aload_n 0, 1) := by decide +kernel
theorem dX3_changeWords_20 : decode cX3_changeWords 20 = .ok (.getfield 56, 3) := by decide +kernel
theorem dX3_changeWords_23 : decode cX3_changeWords 23 = .ok (.bipush 12, 2) := by decide +kernel
theorem dX3_changeWords_25 : decode cX3_changeWords 25 = .ok (.invokestatic 162, 3) := by decide +kernel
theorem dX3_changeWords_28 : decode cX3_changeWords 28 = .ok (.aaload, 1) := by decide +kernel
theorem dX3_changeWords_29 : decode cX3_changeWords 29 = .ok (.aload_n 0, 1) := by decide +kernel
theorem dX3_changeWords_30 : decode cX3_changeWords 30 = .ok (.getfield 56, 3) := by decide +kernel
theorem dX3_changeWords_33 : decode cX3_changeWords 33 = .ok (.aload_n 1, 1) := by decide +kernel
theorem dX3_changeWords_34 : decode cX3_changeWords 34 = .ok (.getfield 178, 3) := by decide +kernel
theorem dX3_changeWords_37 : decode cX3_changeWords 37 = .ok (.iload 7, 2) := by decide +kernel
theorem dX3_changeWords_39 : decode cX3_changeWords 39 = .ok (.iload 6, 2) := by decide +kernel
theorem dX3_changeWords_41 : decode cX3_changeWords 41 = .ok (.invokevirtual 207, 3) := by decide +kernel
theorem dX3_changeWords_44 : decode cX3_changeWords 44 = .ok (.aload_n 1, 1) := by decide +kernel
theorem dX3_changeWords_45 : decode cX3_changeWords 45 = .ok (.iload 7, 2) := by decide +kernel
theorem dX3_changeWords_47 : decode cX3_changeWords 47 = .ok (.iload 6, 2) := by decide +kernel
theorem dX3_changeWords_49 : decode cX3_changeWords 49 = .ok (.aload_n 0, 1) := by decide +kernel
theorem dX3_changeWords_50 : decode cX3_changeWords 50 = .ok (.getfield 56, 3) := by decide +kernel
theorem dX3_changeWords_53 : decode cX3_changeWords 53 = .ok (.invokevirtual 211, 3) := by decide +kernel
theorem dX3_changeWords_56 : decode cX3_changeWords 56 = .ok (.aload_n 0, 1) := by decide +kernel
theorem dX3_changeWords_57 : decode cX3_changeWords 57 = .ok (.dup, 1) := by decide +kernel
theorem dX3_changeWords_58 : decode cX3_changeWords 58 = .ok (.getfield 53, 3) := by decide +kernel
theorem dX3_changeWords_61 : decode cX3_changeWords 61 = .ok (.iconst 1, 1) := by decide +kernel
theorem dX3_changeWords_62 : decode cX3_changeWords 62 = .ok (.iadd, 1) := by decide +kernel
theorem dX3_changeWords_63 : decode cX3_changeWords 63 = .ok (.putfield 53, 3) := by decide +kernel
theorem dX3_changeWords_66 : decode cX3_changeWords 66 = .ok (.aload_n 0, 1) := by decide +kernel
theorem dX3_changeWords_67 : decode cX3_changeWords 67 = .ok (.dup, 1) := by decide +kernel
theorem dX3_changeWords_68 : decode cX3_changeWords 68 = .ok (.getfield 56, 3) := by decide +kernel
theorem dX3_changeWords_71 : decode cX3_changeWords 71 = .ok (.iconst 1, 1) := by decide +kernel
theorem dX3_changeWords_72 : decode cX3_changeWords 72 = .ok (.iadd, 1) := by decide +kernel
theorem dX3_changeWords_73 : decode cX3_changeWords 73 = .ok (.putfield 56, 3) := by decide +kernel
theorem dX3_changeWords_76 : decode cX3_changeWords 76 = .ok (.iload 6, 2) := by decide +kernel
theorem dX3_changeWords_78 : decode cX3_changeWords 78 = .ok (.iload 5, 2) := by decide +kernel
theorem dX3_changeWords_80 : decode cX3_changeWords 80 = .ok (.iadd, 1) := by decide +kernel
theorem dX3_changeWords_81 : decode cX3_changeWords 81 = .ok (.istore 6, 2) := by decide +kernel
theorem dX3_changeWords_83 : decode cX3_changeWords 83 = .ok (.iinc 7 1, 3) := by decide +kernel
theorem dX3_changeWords_86 : decode cX3_changeWords 86 = .ok (.goto (-79), 3) := by decide +kernel
theorem dX3_changeWords_89 : decode cX3_changeWords 89 = .ok (.return_, 1) := by decide +kernel
theorem dX3_mendHomes_0 : decode cX3_mendHomes 0 = .ok (.iconst 0, 1) := by decide +kernel
theorem dX3_mendHomes_1 : decode cX3_mendHomes 1 = .ok (.istore_n 1, 1) := by decide +kernel
theorem dX3_mendHomes_2 : decode cX3_mendHomes 2 = .ok (.iload_n 1, 1) := by decide +kernel
theorem dX3_mendHomes_3 : decode cX3_mendHomes 3 = .ok (.bipush 12, 2) := by decide +kernel
theorem dX3_mendHomes_5 : decode cX3_mendHomes 5 = .ok (.if_icmp .ge 75, 3) := by decide +kernel
theorem dX3_mendHomes_8 : decode cX3_mendHomes 8 = .ok (.aload_n 0, 1) := by decide +kernel
theorem dX3_mendHomes_9 : decode cX3_mendHomes 9 = .ok (.getfield 11, 3) := by decide +kernel
theorem dX3_mendHomes_12 : decode cX3_mendHomes 12 = .ok (.iload_n 1, 1) := by decide +kernel
theorem dX3_mendHomes_13 : decode cX3_mendHomes 13 = .ok (.aaload, 1) := by decide +kernel
theorem dX3_mendHomes_14 : decode cX3_mendHomes 14 = .ok (.invokevirtual 215, 3) := by decide +kernel
theorem dX3_mendHomes_17 : decode cX3_mendHomes 17 = .ok (.ifCond .ne 57, 3) := by decide +kernel
theorem dX3_mendHomes_20 : decode cX3_mendHomes 20 = .ok (.aload_n 0, 1) := by decide +kernel
theorem dX3_mendHomes_21 : decode cX3_mendHomes 21 = .ok (.iload_n 1, 1) := by decide +kernel
theorem dX3_mendHomes_22 : decode cX3_mendHomes 22 = .ok (.invokevirtual 218, 3) := by decide +kernel
theorem dX3_mendHomes_25 : decode cX3_mendHomes 25 = .ok (.istore_n 2, 1) := by decide +kernel
theorem dX3_mendHomes_26 : decode cX3_mendHomes 26 = .ok (.iload_n 2, 1) := by decide +kernel
theorem dX3_mendHomes_27 : decode cX3_mendHomes 27 = .ok (.iconst (-1), 1) := by decide +kernel
theorem dX3_mendHomes_28 : decode cX3_mendHomes 28 = .ok (.if_icmp .eq 46, 3) := by decide +kernel
theorem dX3_mendHomes_31 : decode cX3_mendHomes 31 = .ok (.aload_n 0, 1) := by decide +kernel
theorem dX3_mendHomes_32 : decode cX3_mendHomes 32 = .ok (.getfield 15, 3) := by decide +kernel
theorem dX3_mendHomes_35 : decode cX3_mendHomes 35 = .ok (.iload_n 2, 1) := by decide +kernel
theorem dX3_mendHomes_36 : decode cX3_mendHomes 36 = .ok (.aaload, 1) := by decide +kernel
theorem dX3_mendHomes_37 : decode cX3_mendHomes 37 = .ok (.astore_n 3, 1) := by decide +kernel
theorem dX3_mendHomes_38 : decode cX3_mendHomes 38 = .ok (.aload_n 0, 1) := by decide +kernel
theorem dX3_mendHomes_39 : decode cX3_mendHomes 39 = .ok (.aload_n 0, 1) := by decide +kernel
theorem dX3_mendHomes_40 : decode cX3_mendHomes 40 = .ok (.getfield 11, 3) := by decide +kernel
theorem dX3_mendHomes_43 : decode cX3_mendHomes 43 = .ok (.iload_n 1, 1) := by decide +kernel
theorem dX3_mendHomes_44 : decode cX3_mendHomes 44 = .ok (.aaload, 1) := by decide +kernel
theorem dX3_mendHomes_45 : decode cX3_mendHomes 45 = .ok (.iload_n 1, 1) := by decide +kernel
theorem dX3_mendHomes_46 : decode cX3_mendHomes 46 = .ok (.aload_n 3, 1) := by decide +kernel
theorem dX3_mendHomes_47 : decode cX3_mendHomes 47 = .ok (.getfield 221, 3) := by decide +kernel
theorem dX3_mendHomes_50 : decode cX3_mendHomes 50 = .ok (.iconst 0, 1) := by decide +kernel
theorem dX3_mendHomes_51 : decode cX3_mendHomes 51 = .ok (.iaload, 1) := by decide +kernel
theorem dX3_mendHomes_52 : decode cX3_mendHomes 52 = .ok (.aload_n 3, 1) := by decide +kernel
theorem dX3_mendHomes_53 : decode cX3_mendHomes 53 = .ok (.getfield 224, 3) := by decide +kernel
theorem dX3_mendHomes_56 : decode cX3_mendHomes 56 = .ok (.invokevirtual 184, 3) := by decide +kernel
theorem dX3_mendHomes_59 : decode cX3_mendHomes 59 = .ok (.ifCond .ne 5, 3) := by decide +kernel
theorem dX3_mendHomes_62 : decode cX3_mendHomes 62 = .ok (.iconst 0, 1) := by decide +kernel
theorem dX3_mendHomes_63 : decode cX3_mendHomes 63 = .ok (.ireturn, 1) := by decide +kernel
theorem dX3_mendHomes_64 : decode cX3_mendHomes 64 = .ok (.aload_n 0, 1) := by decide +kernel
theorem dX3_mendHomes_65 : decode cX3_mendHomes 65 = .ok (.dup, 1) := by decide +kernel
theorem dX3_mendHomes_66 : decode cX3_mendHomes 66 = .ok (.getfield 41, 3) := by decide +kernel
theorem dX3_mendHomes_69 : decode cX3_mendHomes 69 = .ok (.iconst 1, 1) := by decide +kernel
theorem dX3_mendHomes_70 : decode cX3_mendHomes 70 = .ok (.iadd, 1) := by decide +kernel
theorem dX3_mendHomes_71 : decode cX3_mendHomes 71 = .ok (.putfield 41, 3) := by decide +kernel
theorem dX3_mendHomes_74 : decode cX3_mendHomes 74 = .ok (.iinc 1 1, 3) := by decide +kernel
theorem dX3_mendHomes_77 : decode cX3_mendHomes 77 = .ok (.goto (-75), 3) := by decide +kernel
theorem dX3_mendHomes_80 : decode cX3_mendHomes 80 = .ok (.iconst 1, 1) := by decide +kernel
theorem dX3_mendHomes_81 : decode cX3_mendHomes 81 = .ok (.ireturn, 1) := by decide +kernel
theorem dX3_slotToMendFrom_0 : decode cX3_slotToMendFrom 0 = .ok (.iconst (-1), 1) := by decide +kernel
theorem dX3_slotToMendFrom_1 : decode cX3_slotToMendFrom 1 = .ok (.istore_n 2, 1) := by decide +kernel
theorem dX3_slotToMendFrom_2 : decode cX3_slotToMendFrom 2 = .ok (.iconst 0, 1) := by decide +kernel
theorem dX3_slotToMendFrom_3 : decode cX3_slotToMendFrom 3 = .ok (.istore_n 3, 1) := by decide +kernel
theorem dX3_slotToMendFrom_4 : decode cX3_slotToMendFrom 4 = .ok (.iload_n 3, 1) := by decide +kernel
theorem dX3_slotToMendFrom_5 : decode cX3_slotToMendFrom 5 = .ok (.iconst 4, 1) := by decide +kernel
theorem dX3_slotToMendFrom_6 : decode cX3_slotToMendFrom 6 = .ok (.if_icmp .ge 64, 3) := by decide +kernel
theorem dX3_slotToMendFrom_9 : decode cX3_slotToMendFrom 9 = .ok (.aload_n 0, 1) := by decide +kernel
theorem dX3_slotToMendFrom_10 : decode cX3_slotToMendFrom 10 = .ok (.getfield 15, 3) := by decide +kernel
theorem dX3_slotToMendFrom_13 : decode cX3_slotToMendFrom 13 = .ok (.iload_n 3, 1) := by decide +kernel
theorem dX3_slotToMendFrom_14 : decode cX3_slotToMendFrom 14 = .ok (.aaload, 1) := by decide +kernel
theorem dX3_slotToMendFrom_15 : decode cX3_slotToMendFrom 15 = .ok (.astore 4, 2) := by decide +kernel
theorem dX3_slotToMendFrom_17 : decode cX3_slotToMendFrom 17 = .ok (.aload 4, 2) := by decide +kernel
theorem dX3_slotToMendFrom_19 : decode cX3_slotToMendFrom 19 = .ok (.invokevirtual 215, 3) := by decide +kernel
theorem dX3_slotToMendFrom_22 : decode cX3_slotToMendFrom 22 = .ok (.ifCond .eq 42, 3) := by decide +kernel
theorem dX3_slotToMendFrom_25 : decode cX3_slotToMendFrom 25 = .ok (.aload 4, 2) := by decide +kernel
theorem dX3_slotToMendFrom_27 : decode cX3_slotToMendFrom 27 = .ok (.getfield 225, 3) := by decide +kernel
theorem dX3_slotToMendFrom_30 : decode cX3_slotToMendFrom 30 = .ok (.iconst 0, 1) := by decide +kernel
theorem dX3_slotToMendFrom_31 : decode cX3_slotToMendFrom 31 = .ok (.iaload, 1) := by decide +kernel
theorem dX3_slotToMendFrom_32 : decode cX3_slotToMendFrom 32 = .ok (.iload_n 1, 1) := by decide +kernel
theorem dX3_slotToMendFrom_33 : decode cX3_slotToMendFrom 33 = .ok (.if_icmp .ne 31, 3) := by decide +kernel
theorem dX3_slotToMendFrom_36 : decode cX3_slotToMendFrom 36 = .ok (.iload_n 2, 1) := by decide +kernel
theorem dX3_slotToMendFrom_37 : decode cX3_slotToMendFrom 37 = .ok (.iconst (-1), 1) := by decide +kernel
theorem dX3_slotToMendFrom_38 : decode cX3_slotToMendFrom 38 = .ok (.if_icmp .eq 24, 3) := by decide +kernel
theorem dX3_slotToMendFrom_41 : decode cX3_slotToMendFrom 41 = .ok (.aload 4, 2) := by decide +kernel
theorem dX3_slotToMendFrom_43 : decode cX3_slotToMendFrom 43 = .ok (.getfield 221, 3) := by decide +kernel
theorem dX3_slotToMendFrom_46 : decode cX3_slotToMendFrom 46 = .ok (.iconst 0, 1) := by decide +kernel
theorem dX3_slotToMendFrom_47 : decode cX3_slotToMendFrom 47 = .ok (.iaload, 1) := by decide +kernel
theorem dX3_slotToMendFrom_48 : decode cX3_slotToMendFrom 48 = .ok (.aload_n 0, 1) := by decide +kernel
theorem dX3_slotToMendFrom_49 : decode cX3_slotToMendFrom 49 = .ok (.getfield 15, 3) := by decide +kernel
theorem dX3_slotToMendFrom_52 : decode cX3_slotToMendFrom 52 = .ok (.iload_n 2, 1) := by decide +kernel
theorem dX3_slotToMendFrom_53 : decode cX3_slotToMendFrom 53 = .ok (.aaload, 1) := by decide +kernel
theorem dX3_slotToMendFrom_54 : decode cX3_slotToMendFrom 54 = .ok (.getfield 221, 3) := by decide +kernel
theorem dX3_slotToMendFrom_57 : decode cX3_slotToMendFrom 57 = .ok (.iconst 0, 1) := by decide +kernel
theorem dX3_slotToMendFrom_58 : decode cX3_slotToMendFrom 58 = .ok (.iaload, 1) := by decide +kernel
theorem dX3_slotToMendFrom_59 : decode cX3_slotToMendFrom 59 = .ok (.if_icmp .le 5, 3) := by decide +kernel
theorem dX3_slotToMendFrom_62 : decode cX3_slotToMendFrom 62 = .ok (.iload_n 3, 1) := by decide +kernel
theorem dX3_slotToMendFrom_63 : decode cX3_slotToMendFrom 63 = .ok (.istore_n 2, 1) := by decide +kernel
theorem dX3_slotToMendFrom_64 : decode cX3_slotToMendFrom 64 = .ok (.iinc 3 1, 3) := by decide +kernel
theorem dX3_slotToMendFrom_67 : decode cX3_slotToMendFrom 67 = .ok (.goto (-63), 3) := by decide +kernel
theorem dX3_slotToMendFrom_70 : decode cX3_slotToMendFrom 70 = .ok (.iload_n 2, 1) := by decide +kernel
theorem dX3_slotToMendFrom_71 : decode cX3_slotToMendFrom 71 = .ok (.ireturn, 1) := by decide +kernel
theorem dX3_redoLogged_0 : decode cX3_redoLogged 0 = .ok (.aload_n 0, 1) := by decide +kernel
theorem dX3_redoLogged_1 : decode cX3_redoLogged 1 = .ok (.getfield 24, 3) := by decide +kernel
theorem dX3_redoLogged_4 : decode cX3_redoLogged 4 = .ok (.bipush 12, 2) := by decide +kernel
theorem dX3_redoLogged_6 : decode cX3_redoLogged 6 = .ok (.iadd, 1) := by decide +kernel
theorem dX3_redoLogged_7 : decode cX3_redoLogged 7 = .ok (.istore_n 1, 1) := by decide +kernel
theorem dX3_redoLogged_8 : decode cX3_redoLogged 8 = .ok (.aload_n 0, 1) := by decide +kernel
theorem dX3_redoLogged_9 : decode cX3_redoLogged 9 = .ok (.getfield 24, 3) := by decide +kernel
theorem dX3_redoLogged_12 : decode cX3_redoLogged 12 = .ok (.istore_n 2, 1) := by decide +kernel
theorem dX3_redoLogged_13 : decode cX3_redoLogged 13 = .ok (.iload_n 2, 1) := by decide +kernel
theorem dX3_redoLogged_14 : decode cX3_redoLogged 14 = .ok (.iload_n 1, 1) := by decide +kernel
theorem dX3_redoLogged_15 : decode cX3_redoLogged 15 = .ok (.if_icmp .ge 96, 3) := by decide +kernel
theorem dX3_redoLogged_18 : decode cX3_redoLogged 18 = .ok (.aload_n 0, 1) := by decide +kernel
theorem dX3_redoLogged_19 : decode cX3_redoLogged 19 = .ok (.getfield 20, 3) := by decide +kernel
theorem dX3_redoLogged_22 : decode cX3_redoLogged 22 = .ok (.iload_n 2, 1) := by decide +kernel
theorem dX3_redoLogged_23 : decode cX3_redoLogged 23 = .ok (.bipush 12, 2) := by decide +kernel
theorem dX3_redoLogged_25 : decode cX3_redoLogged 25 = .ok (.invokestatic 162, 3) := by decide +kernel
theorem dX3_redoLogged_28 : decode cX3_redoLogged 28 = .ok (.aaload, 1) := by decide +kernel
theorem dX3_redoLogged_29 : decode cX3_redoLogged 29 = .ok (.astore_n 3, 1) := by decide +kernel
theorem dX3_redoLogged_30 : decode cX3_redoLogged 30 = .ok (.aload_n 3, 1) := by decide +kernel
theorem dX3_redoLogged_31 : decode cX3_redoLogged 31 = .ok (.getfield 228, 3) := by decide +kernel
theorem dX3_redoLogged_34 : decode cX3_redoLogged 34 = .ok (.iload_n 2, 1) := by decide +kernel
theorem dX3_redoLogged_35 : decode cX3_redoLogged 35 = .ok (.if_icmp .ne 27, 3) := by decide +kernel
theorem dX3_redoLogged_38 : decode cX3_redoLogged 38 = .ok (.aload_n 3, 1) := by decide +kernel
theorem dX3_redoLogged_39 : decode cX3_redoLogged 39 = .ok (.getfield 231, 3) := by decide +kernel
theorem dX3_redoLogged_42 : decode cX3_redoLogged 42 = .ok (.bipush 12, 2) := by decide +kernel
theorem dX3_redoLogged_44 : decode cX3_redoLogged 44 = .ok (.invokestatic 70, 3) := by decide +kernel
theorem dX3_redoLogged_47 : decode cX3_redoLogged 47 = .ok (.ifCond .eq 15, 3) := by decide +kernel
theorem dX3_redoLogged_50 : decode cX3_redoLogged 50 = .ok (.aload_n 3, 1) := by decide +kernel
theorem dX3_redoLogged_51 : decode cX3_redoLogged 51 = .ok (.getfield 232, 3) := by decide +kernel
theorem dX3_redoLogged_54 : decode cX3_redoLogged 54 = .ok (.bipush 16, 2) := by decide +kernel
theorem dX3_redoLogged_56 : decode cX3_redoLogged 56 = .ok (.invokestatic 70, 3) := by decide +kernel
theorem dX3_redoLogged_59 : decode cX3_redoLogged 59 = .ok (.ifCond .ne 5, 3) := by decide +kernel
theorem dX3_redoLogged_62 : decode cX3_redoLogged 62 = .ok (.iload_n 2, 1) := by decide +kernel
theorem dX3_redoLogged_63 : decode cX3_redoLogged 63 = .ok (.ireturn, 1) := by decide +kernel
theorem dX3_redoLogged_64 : decode cX3_redoLogged 64 = .ok (.aload_n 0, 1) := by decide +kernel
theorem dX3_redoLogged_65 : decode cX3_redoLogged 65 = .ok (.aload_n 3, 1) := by decide +kernel
theorem dX3_redoLogged_66 : decode cX3_redoLogged 66 = .ok (.getfield 231, 3) := by decide +kernel
theorem dX3_redoLogged_69 : decode cX3_redoLogged 69 = .ok (.invokevirtual 98, 3) := by decide +kernel
theorem dX3_redoLogged_72 : decode cX3_redoLogged 72 = .ok (.astore 4, 2) := by decide +kernel
theorem dX3_redoLogged_74 : decode cX3_redoLogged 74 = .ok (.aload 4, 2) := by decide +kernel
theorem dX3_redoLogged_76 : decode cX3_redoLogged 76 = .ok (.ifnonnull 6, 3) := by decide +kernel
theorem dX3_redoLogged_79 : decode cX3_redoLogged 79 = .ok (.bipush (-3), 2) := by decide +kernel
theorem dX3_redoLogged_81 : decode cX3_redoLogged 81 = .ok (.ireturn, 1) := by decide +kernel
theorem dX3_redoLogged_82 : decode cX3_redoLogged 82 = .ok (.aload 4, 2) := by decide +kernel
theorem dX3_redoLogged_84 : decode cX3_redoLogged 84 = .ok (.getfield 181, 3) := by decide +kernel
theorem dX3_redoLogged_87 : decode cX3_redoLogged 87 = .ok (.iload_n 2, 1) := by decide +kernel
theorem dX3_redoLogged_88 : decode cX3_redoLogged 88 = .ok (.if_icmp .ge 17, 3) := by decide +kernel
theorem dX3_redoLogged_91 : decode cX3_redoLogged 91 = .ok (.aload 4, 2) := by decide +kernel
theorem dX3_redoLogged_93 : decode cX3_redoLogged 93 = .ok (.aload_n 3, 1) := by decide +kernel
theorem dX3_redoLogged_94 : decode cX3_redoLogged 94 = .ok (.getfield 232, 3) := by decide +kernel
theorem dX3_redoLogged_97 : decode cX3_redoLogged 97 = .ok (.aload_n 3, 1) := by decide +kernel
theorem dX3_redoLogged_98 : decode cX3_redoLogged 98 = .ok (.getfield 235, 3) := by decide +kernel
theorem dX3_redoLogged_101 : decode cX3_redoLogged 101 = .ok (.iload_n 2, 1) := by decide +kernel
theorem dX3_redoLogged_102 : decode cX3_redoLogged 102 = .ok (.invokevirtual 211, 3) := by decide +kernel
theorem dX3_redoLogged_105 : decode cX3_redoLogged 105 = .ok (.iinc 2 1, 3) := by decide +kernel
theorem dX3_redoLogged_108 : decode cX3_redoLogged 108 = .ok (.goto (-95), 3) := by decide +kernel
theorem dX3_redoLogged_111 : decode cX3_redoLogged 111 = .ok (.iload_n 1, 1) := by decide +kernel
theorem dX3_redoLogged_112 : decode cX3_redoLogged 112 = .ok (.ireturn, 1) := by decide +kernel
theorem dX4_init_0 : decode cX4_init 0 = .ok (.aload_n 0, 1) := by decide +kernel
theorem dX4_init_1 : decode cX4_init 1 = .ok (.invokespecial 1, 3) := by decide +kernel
theorem dX4_init_4 : decode cX4_init 4 = .ok (.aload_n 0, 1) := by decide +kernel
theorem dX4_init_5 : decode cX4_init 5 = .ok (.bipush 48, 2) := by decide +kernel
theorem dX4_init_7 : decode cX4_init 7 = .ok (.newarray .int, 2) := by decide +kernel
theorem dX4_init_9 : decode cX4_init 9 = .ok (.putfield 7, 3) := by decide +kernel
theorem dX4_init_12 : decode cX4_init 12 = .ok (.aload_n 0, 1) := by decide +kernel
theorem dX4_init_13 : decode cX4_init 13 = .ok (.sipush 192, 3) := by decide +kernel
theorem dX4_init_16 : decode cX4_init 16 = .ok (.newarray .int, 2) := by decide +kernel
theorem dX4_init_18 : decode cX4_init 18 = .ok (.putfield 13, 3) := by decide +kernel
theorem dX4_init_21 : decode cX4_init 21 = .ok (.aload_n 0, 1) := by decide +kernel
theorem dX4_init_22 : decode cX4_init 22 = .ok (.bipush 16, 2) := by decide +kernel
theorem dX4_init_24 : decode cX4_init 24 = .ok (.newarray .int, 2) := by decide +kernel
theorem dX4_init_26 : decode cX4_init 26 = .ok (.putfield 16, 3) := by decide +kernel
theorem dX4_init_29 : decode cX4_init 29 = .ok (.aload_n 0, 1) := by decide +kernel
theorem dX4_init_30 : decode cX4_init 30 = .ok (.bipush 16, 2) := by decide +kernel
theorem dX4_init_32 : decode cX4_init 32 = .ok (.newarray .int, 2) := by decide +kernel
theorem dX4_init_34 : decode cX4_init 34 = .ok (.putfield 19, 3) := by decide +kernel
theorem dX4_init_37 : decode cX4_init 37 = .ok (.aload_n 0, 1) := by decide +kernel
theorem dX4_init_38 : decode cX4_init 38 = .ok (.bipush 64, 2) := by decide +kernel
theorem dX4_init_40 : decode cX4_init 40 = .ok (.newarray .int, 2) := by decide +kernel
theorem dX4_init_42 : decode cX4_init 42 = .ok (.putfield 22, 3) := by decide +kernel
theorem dX4_init_45 : decode cX4_init 45 = .ok (.aload_n 0, 1) := by decide +kernel
theorem dX4_init_46 : decode cX4_init 46 = .ok (.bipush 12, 2) := by decide +kernel
theorem dX4_init_48 : decode cX4_init 48 = .ok (.newarray .int, 2) := by decide +kernel
theorem dX4_init_50 : decode cX4_init 50 = .ok (.putfield 25, 3) := by decide +kernel
theorem dX4_init_53 : decode cX4_init 53 = .ok (.aload_n 0, 1) := by decide +kernel
theorem dX4_init_54 : decode cX4_init 54 = .ok (.bipush 12, 2) := by decide +kernel
theorem dX4_init_56 : decode cX4_init 56 = .ok (.newarray .int, 2) := by decide +kernel
theorem dX4_init_58 : decode cX4_init 58 = .ok (.putfield 28, 3) := by decide +kernel
theorem dX4_init_61 : decode cX4_init 61 = .ok (.aload_n 0, 1) := by decide +kernel
theorem dX4_init_62 : decode cX4_init 62 = .ok (.bipush 12, 2) := by decide +kernel
theorem dX4_init_64 : decode cX4_init 64 = .ok (.newarray .int, 2) := by decide +kernel
theorem dX4_init_66 : decode cX4_init 66 = .ok (.putfield 31, 3) := by decide +kernel
theorem dX4_init_69 : decode cX4_init 69 = .ok (.aload_n 0, 1) := by decide +kernel
theorem dX4_init_70 : decode cX4_init 70 = .ok (.bipush 12, 2) := by decide +kernel
theorem dX4_init_72 : decode cX4_init 72 = .ok (.newarray .int, 2) := by decide +kernel
theorem dX4_init_74 : decode cX4_init 74 = .ok (.putfield 34, 3) := by decide +kernel
theorem dX4_init_77 : decode cX4_init 77 = .ok (.aload_n 0, 1) := by decide +kernel
theorem dX4_init_78 : decode cX4_init 78 = .ok (.iconst 1, 1) := by decide +kernel
theorem dX4_init_79 : decode cX4_init 79 = .ok (.putfield 37, 3) := by decide +kernel
theorem dX4_init_82 : decode cX4_init 82 = .ok (.aload_n 0, 1) := by decide +kernel
theorem dX4_init_83 : decode cX4_init 83 = .ok (.iconst 4, 1) := by decide +kernel
theorem dX4_init_84 : decode cX4_init 84 = .ok (.newarray .int, 2) := by decide +kernel
theorem dX4_init_86 : decode cX4_init 86 = .ok (.dup, 1) := by decide +kernel
theorem dX4_init_87 : decode cX4_init 87 = .ok (.iconst 0, 1) := by decide +kernel
theorem dX4_init_88 : decode cX4_init 88 = .ok (.iconst (-1), 1) := by decide +kernel
theorem dX4_init_89 : decode cX4_init 89 = .ok (.iastore, 1) := by decide +kernel
theorem dX4_init_90 : decode cX4_init 90 = .ok (.dup, 1) := by decide +kernel
theorem dX4_init_91 : decode cX4_init 91 = .ok (.iconst 1, 1) := by decide +kernel
theorem dX4_init_92 : decode cX4_init 92 = .ok (.iconst (-1), 1) := by decide +kernel
theorem dX4_init_93 : decode cX4_init 93 = .ok (.iastore, 1) := by decide +kernel
theorem dX4_init_94 : decode cX4_init 94 = .ok (.dup, 1) := by decide +kernel
theorem dX4_init_95 : decode cX4_init 95 = .ok (.iconst 2, 1) := by decide +kernel
theorem dX4_init_96 : decode cX4_init 96 = .ok (.iconst (-1), 1) := by decide +kernel
theorem dX4_init_97 : decode cX4_init 97 = .ok (.iastore, 1) := by decide +kernel
theorem dX4_init_98 : decode cX4_init 98 = .ok (.dup, 1) := by decide +kernel
theorem dX4_init_99 : decode cX4_init 99 = .ok (.iconst 3, 1) := by decide +kernel
theorem dX4_init_100 : decode cX4_init 100 = .ok (.iconst (-1), 1) := by decide +kernel
theorem dX4_init_101 : decode cX4_init 101 = .ok (.iastore, 1) := by decide +kernel
theorem dX4_init_102 : decode cX4_init 102 = .ok (.putfield 41, 3) := by decide +kernel
theorem dX4_init_105 : decode cX4_init 105 = .ok (.aload_n 0, 1) := by decide +kernel
theorem dX4_init_106 : decode cX4_init 106 = .ok (.iconst 4, 1) := by decide +kernel
theorem dX4_init_107 : decode cX4_init 107 = .ok (.newarray .int, 2) := by decide +kernel
theorem dX4_init_109 : decode cX4_init 109 = .ok (.putfield 44, 3) := by decide +kernel
theorem dX4_init_112 : decode cX4_init 112 = .ok (.aload_n 0, 1) := by decide +kernel
theorem dX4_init_113 : decode cX4_init 113 = .ok (.iconst 4, 1) := by decide +kernel
theorem dX4_init_114 : decode cX4_init 114 = .ok (.newarray .boolean, 2) := by decide +kernel
theorem dX4_init_116 : decode cX4_init 116 = .ok (.putfield 47, 3) := by decide +kernel
theorem dX4_init_119 : decode cX4_init 119 = .ok (.aload_n 0, 1) := by decide +kernel
theorem dX4_init_120 : decode cX4_init 120 = .ok (.iconst 4, 1) := by decide +kernel
theorem dX4_init_121 : decode cX4_init 121 = .ok (.newarray .int, 2) := by decide +kernel
theorem dX4_init_123 : decode cX4_init 123 = .ok (.putfield 51, 3) := by decide +kernel
theorem dX4_init_126 : decode cX4_init 126 = .ok (.aload_n 0, 1) := by decide +kernel
theorem dX4_init_127 : decode cX4_init 127 = .ok (.bipush 64, 2) := by decide +kernel
theorem dX4_init_129 : decode cX4_init 129 = .ok (.newarray .int, 2) := by decide +kernel
theorem dX4_init_131 : decode cX4_init 131 = .ok (.putfield 54, 3) := by decide +kernel
theorem dX4_init_134 : decode cX4_init 134 = .ok (.aload_n 0, 1) := by decide +kernel
theorem dX4_init_135 : decode cX4_init 135 = .ok (.iconst 1, 1) := by decide +kernel
theorem dX4_init_136 : decode cX4_init 136 = .ok (.putfield 57, 3) := by decide +kernel
theorem dX4_init_139 : decode cX4_init 139 = .ok (.aload_n 0, 1) := by decide +kernel
theorem dX4_init_140 : decode cX4_init 140 = .ok (.bipush 16, 2) := by decide +kernel
theorem dX4_init_142 : decode cX4_init 142 = .ok (.newarray .int, 2) := by decide +kernel
theorem dX4_init_144 : decode cX4_init 144 = .ok (.putfield 60, 3) := by decide +kernel
theorem dX4_init_147 : decode cX4_init 147 = .ok (.aload_n 0, 1) := by decide +kernel
theorem dX4_init_148 : decode cX4_init 148 = .ok (.bipush 16, 2) := by decide +kernel
theorem dX4_init_150 : decode cX4_init 150 = .ok (.newarray .int, 2) := by decide +kernel
theorem dX4_init_152 : decode cX4_init 152 = .ok (.putfield 63, 3) := by decide +kernel
theorem dX4_init_155 : decode cX4_init 155 = .ok (.aload_n 0, 1) := by decide +kernel
theorem dX4_init_156 : decode cX4_init 156 = .ok (.bipush 16, 2) := by decide +kernel
theorem dX4_init_158 : decode cX4_init 158 = .ok (.newarray .int, 2) := by decide +kernel
theorem dX4_init_160 : decode cX4_init 160 = .ok (.putfield 66, 3) := by decide +kernel
theorem dX4_init_163 : decode cX4_init 163 = .ok (.aload_n 0, 1) := by decide +kernel
theorem dX4_init_164 : decode cX4_init 164 = .ok (.bipush 16, 2) := by decide +kernel
theorem dX4_init_166 : decode cX4_init 166 = .ok (.newarray .int, 2) := by decide +kernel
theorem dX4_init_168 : decode cX4_init 168 = .ok (.putfield 69, 3) := by decide +kernel
theorem dX4_init_171 : decode cX4_init 171 = .ok (.aload_n 0, 1) := by decide +kernel
theorem dX4_init_172 : decode cX4_init 172 = .ok (.iconst (-1), 1) := by decide +kernel
theorem dX4_init_173 : decode cX4_init 173 = .ok (.putfield 72, 3) := by decide +kernel
theorem dX4_init_176 : decode cX4_init 176 = .ok (.return_, 1) := by decide +kernel
theorem dX4_thrown_0 : decode cX4_thrown 0 = .ok (.aload_n 0, 1) := by decide +kernel
theorem dX4_thrown_1 : decode cX4_thrown 1 = .ok (.getfield 75, 3) := by decide +kernel
theorem dX4_thrown_4 : decode cX4_thrown 4 = .ok (.ireturn, 1) := by decide +kernel
theorem dX4_in_0 : decode cX4_in 0 = .ok (.iload_n 0, 1) := by decide +kernel
theorem dX4_in_1 : decode cX4_in 1 = .ok (.iload_n 1, 1) := by decide +kernel
theorem dX4_in_2 : decode cX4_in 2 = .ok (.if_icmp .lt 12, 3) := by decide +kernel
theorem dX4_in_5 : decode cX4_in 5 = .ok (.iload_n 0, 1) := by decide +kernel
theorem dX4_in_6 : decode cX4_in 6 = .ok (.iload_n 2, 1) := by decide +kernel
theorem dX4_in_7 : decode cX4_in 7 = .ok (.if_icmp .gt 7, 3) := by decide +kernel
theorem dX4_in_10 : decode cX4_in 10 = .ok (.iconst 1, 1) := by decide +kernel
theorem dX4_in_11 : decode cX4_in 11 = .ok (.goto 4, 3) := by decide +kernel
theorem dX4_in_14 : decode cX4_in 14 = .ok (.iconst 0, 1) := by decide +kernel
theorem dX4_in_15 : decode cX4_in 15 = .ok (.ireturn, 1) := by decide +kernel
theorem dX4_refuses_0 : decode cX4_refuses 0 = .ok (.aload_n 0, 1) := by decide +kernel
theorem dX4_refuses_1 : decode cX4_refuses 1 = .ok (.getfield 75, 3) := by decide +kernel
theorem dX4_refuses_4 : decode cX4_refuses 4 = .ok (.ifCond .ne 12, 3) := by decide +kernel
theorem dX4_refuses_7 : decode cX4_refuses 7 = .ok (.iload_n 1, 1) := by decide +kernel
theorem dX4_refuses_8 : decode cX4_refuses 8 = .ok (.ifCond .eq 8, 3) := by decide +kernel
theorem dX4_refuses_11 : decode cX4_refuses 11 = .ok (.aload_n 0, 1) := by decide +kernel
theorem dX4_refuses_12 : decode cX4_refuses 12 = .ok (.iload_n 2, 1) := by decide +kernel
theorem dX4_refuses_13 : decode cX4_refuses 13 = .ok (.putfield 75, 3) := by decide +kernel
theorem dX4_refuses_16 : decode cX4_refuses 16 = .ok (.aload_n 0, 1) := by decide +kernel
theorem dX4_refuses_17 : decode cX4_refuses 17 = .ok (.getfield 75, 3) := by decide +kernel
theorem dX4_refuses_20 : decode cX4_refuses 20 = .ok (.ifCond .le 7, 3) := by decide +kernel
theorem dX4_refuses_23 : decode cX4_refuses 23 = .ok (.iconst 1, 1) := by decide +kernel
theorem dX4_refuses_24 : decode cX4_refuses 24 = .ok (.goto 4, 3) := by decide +kernel
theorem dX4_refuses_27 : decode cX4_refuses 27 = .ok (.iconst 0, 1) := by decide +kernel
theorem dX4_refuses_28 : decode cX4_refuses 28 = .ok (.ireturn, 1) := by decide +kernel
theorem dX4_goDown_0 : decode cX4_goDown 0 = .ok (.aload_n 0, 1) := by decide +kernel
theorem dX4_goDown_1 : decode cX4_goDown 1 = .ok (.iconst (-1), 1) := by decide +kernel
theorem dX4_goDown_2 : decode cX4_goDown 2 = .ok (.putfield 72, 3) := by decide +kernel
theorem dX4_goDown_5 : decode cX4_goDown 5 = .ok (.aload_n 0, 1) := by decide +kernel
theorem dX4_goDown_6 : decode cX4_goDown 6 = .ok (.iconst 1, 1) := by decide +kernel
theorem dX4_goDown_7 : decode cX4_goDown 7 = .ok (.putfield 78, 3) := by decide +kernel
theorem dX4_goDown_10 : decode cX4_goDown 10 = .ok (.aload_n 0, 1) := by decide +kernel
theorem dX4_goDown_11 : decode cX4_goDown 11 = .ok (.iconst 0, 1) := by decide +kernel
theorem dX4_goDown_12 : decode cX4_goDown 12 = .ok (.putfield 82, 3) := by decide +kernel
theorem dX4_goDown_15 : decode cX4_goDown 15 = .ok (.iconst 0, 1) := by decide +kernel
theorem dX4_goDown_16 : decode cX4_goDown 16 = .ok (.istore_n 1, 1) := by decide +kernel
theorem dX4_goDown_17 : decode cX4_goDown 17 = .ok (.iload_n 1, 1) := by decide +kernel
theorem dX4_goDown_18 : decode cX4_goDown 18 = .ok (.iconst 4, 1) := by decide +kernel
theorem dX4_goDown_19 : decode cX4_goDown 19 = .ok (.if_icmp .ge 23, 3) := by decide +kernel
theorem dX4_goDown_22 : decode cX4_goDown 22 = .ok (.aload_n 0, 1) := by decide +kernel
theorem dX4_goDown_23 : decode cX4_goDown 23 = .ok (.getfield 41, 3) := by decide +kernel
theorem dX4_goDown_26 : decode cX4_goDown 26 = .ok (.iload_n 1, 1) := by decide +kernel
theorem dX4_goDown_27 : decode cX4_goDown 27 = .ok (.iconst (-1), 1) := by decide +kernel
theorem dX4_goDown_28 : decode cX4_goDown 28 = .ok (.iastore, 1) := by decide +kernel
theorem dX4_goDown_29 : decode cX4_goDown 29 = .ok (.aload_n 0, 1) := by decide +kernel
theorem dX4_goDown_30 : decode cX4_goDown 30 = .ok (.getfield 47, 3) := by decide +kernel
theorem dX4_goDown_33 : decode cX4_goDown 33 = .ok (.iload_n 1, 1) := by decide +kernel
theorem dX4_goDown_34 : decode cX4_goDown 34 = .ok (.iconst 0, 1) := by decide +kernel
theorem dX4_goDown_35 : decode cX4_goDown 35 = .ok (.bastore, 1) := by decide +kernel
theorem dX4_goDown_36 : decode cX4_goDown 36 = .ok (.iinc 1 1, 3) := by decide +kernel
theorem dX4_goDown_39 : decode cX4_goDown 39 = .ok (.goto (-22), 3) := by decide +kernel
theorem dX4_goDown_42 : decode cX4_goDown 42 = .ok (.return_, 1) := by decide +kernel
theorem dX4_mayWrite_0 : decode cX4_mayWrite 0 = .ok (.aload_n 0, 1) := by decide +kernel
theorem dX4_mayWrite_1 : decode cX4_mayWrite 1 = .ok (.getfield 72, 3) := by decide +kernel
theorem dX4_mayWrite_4 : decode cX4_mayWrite 4 = .ok (.ifCond .ne 9, 3) := by decide +kernel
theorem dX4_mayWrite_7 : decode cX4_mayWrite 7 = .ok (.aload_n 0, 1) := by decide +kernel
theorem dX4_mayWrite_8 : decode cX4_mayWrite 8 = .ok (.invokevirtual 85, 3) := by decide +kernel
theorem dX4_mayWrite_11 : decode cX4_mayWrite 11 = .ok (.iconst 0, 1) := by decide +kernel
theorem dX4_mayWrite_12 : decode cX4_mayWrite 12 = .ok (.ireturn, 1) := by decide +kernel
theorem dX4_mayWrite_13 : decode cX4_mayWrite 13 = .ok (.aload_n 0, 1) := by decide +kernel
theorem dX4_mayWrite_14 : decode cX4_mayWrite 14 = .ok (.dup, 1) := by decide +kernel
theorem dX4_mayWrite_15 : decode cX4_mayWrite 15 = .ok (.getfield 72, 3) := by decide +kernel
theorem dX4_mayWrite_18 : decode cX4_mayWrite 18 = .ok (.aload_n 0, 1) := by decide +kernel
theorem dX4_mayWrite_19 : decode cX4_mayWrite 19 = .ok (.getfield 72, 3) := by decide +kernel
theorem dX4_mayWrite_22 : decode cX4_mayWrite 22 = .ok (.ifCond .le 7, 3) := by decide +kernel
theorem dX4_mayWrite_25 : decode cX4_mayWrite 25 = .ok (.iconst 1, 1) := by decide +kernel
theorem dX4_mayWrite_26 : decode cX4_mayWrite 26 = .ok (.goto 4, 3) := by decide +kernel
theorem dX4_mayWrite_29 : decode cX4_mayWrite 29 = .ok (.iconst 0, 1) := by decide +kernel
theorem dX4_mayWrite_30 : decode cX4_mayWrite 30 = .ok (.isub, 1) := by decide +kernel
theorem dX4_mayWrite_31 : decode cX4_mayWrite 31 = .ok (.putfield 72, 3) := by decide +kernel
theorem dX4_mayWrite_34 : decode cX4_mayWrite 34 = .ok (.aload_n 0, 1) := by decide +kernel
theorem dX4_mayWrite_35 : decode cX4_mayWrite 35 = .ok (.dup, 1) := by decide +kernel
theorem dX4_mayWrite_36 : decode cX4_mayWrite 36 = .ok (.getfield 88, 3) := by decide +kernel
theorem dX4_mayWrite_39 : decode cX4_mayWrite 39 = .ok (.iconst 1, 1) := by decide +kernel
theorem dX4_mayWrite_40 : decode cX4_mayWrite 40 = .ok (.iadd, 1) := by decide +kernel
theorem dX4_mayWrite_41 : decode cX4_mayWrite 41 = .ok (.putfield 88, 3) := by decide +kernel
theorem dX4_mayWrite_44 : decode cX4_mayWrite 44 = .ok (.iconst 1, 1) := by decide +kernel
theorem dX4_mayWrite_45 : decode cX4_mayWrite 45 = .ok (.ireturn, 1) := by decide +kernel
theorem dX4_writeHome_0 : decode cX4_writeHome 0 = .ok (.iconst 0, 1) := by decide +kernel
theorem dX4_writeHome_1 : decode cX4_writeHome 1 = .ok (.istore 5, 2) := by decide +kernel
theorem dX4_writeHome_3 : decode cX4_writeHome 3 = .ok (.iload 5, 2) := by decide +kernel
theorem dX4_writeHome_5 : decode cX4_writeHome 5 = .ok (.iconst 4, 1) := by decide +kernel
theorem dX4_writeHome_6 : decode cX4_writeHome 6 = .ok (.if_icmp .ge 97, 3) := by decide +kernel
theorem dX4_writeHome_9 : decode cX4_writeHome 9 = .ok (.aload_n 0, 1) := by decide +kernel
theorem dX4_writeHome_10 : decode cX4_writeHome 10 = .ok (.invokevirtual 91, 3) := by decide +kernel
theorem dX4_writeHome_13 : decode cX4_writeHome 13 = .ok (.ifCond .ne 5, 3) := by decide +kernel
theorem dX4_writeHome_16 : decode cX4_writeHome 16 = .ok (.iconst 0, 1) := by decide +kernel
theorem dX4_writeHome_17 : decode cX4_writeHome 17 = .ok (.ireturn, 1) := by decide +kernel
theorem dX4_writeHome_18 : decode cX4_writeHome 18 = .ok (.aload_n 0, 1) := by decide +kernel
theorem dX4_writeHome_19 : decode cX4_writeHome 19 = .ok (.getfield 7, 3) := by decide +kernel
theorem dX4_writeHome_22 : decode cX4_writeHome 22 = .ok (.iconst 4, 1) := by decide +kernel
theorem dX4_writeHome_23 : decode cX4_writeHome 23 = .ok (.iload_n 1, 1) := by decide +kernel
theorem dX4_writeHome_24 : decode cX4_writeHome 24 = .ok (.imul, 1) := by decide +kernel
theorem dX4_writeHome_25 : decode cX4_writeHome 25 = .ok (.iload 5, 2) := by decide +kernel
theorem dX4_writeHome_27 : decode cX4_writeHome 27 = .ok (.iadd, 1) := by decide +kernel
theorem dX4_writeHome_28 : decode cX4_writeHome 28 = .ok (.iload_n 2, 1) := by decide +kernel
theorem dX4_writeHome_29 : decode cX4_writeHome 29 = .ok (.iastore, 1) := by decide +kernel
theorem dX4_writeHome_30 : decode cX4_writeHome 30 = .ok (.iconst 4, 1) := by decide +kernel
theorem dX4_writeHome_31 : decode cX4_writeHome 31 = .ok (.iload 5, 2) := by decide +kernel
theorem dX4_writeHome_33 : decode cX4_writeHome 33 = .ok (.imul, 1) := by decide +kernel
theorem dX4_writeHome_34 : decode cX4_writeHome 34 = .ok (.istore 6, 2) := by decide +kernel
theorem dX4_writeHome_36 : decode cX4_writeHome 36 = .ok (.iload 6, 2) := by decide +kernel
theorem dX4_writeHome_38 : decode cX4_writeHome 38 = .ok (.iconst 4, 1) := by decide +kernel
theorem dX4_writeHome_39 : decode cX4_writeHome 39 = .ok (.iload 5, 2) := by decide +kernel
theorem dX4_writeHome_41 : decode cX4_writeHome 41 = .ok (.imul, 1) := by decide +kernel
theorem dX4_writeHome_42 : decode cX4_writeHome 42 = .ok (.iconst 4, 1) := by decide +kernel
theorem dX4_writeHome_43 : decode cX4_writeHome 43 = .ok (.iadd, 1) := by decide +kernel
theorem dX4_writeHome_44 : decode cX4_writeHome 44 = .ok (.if_icmp .ge 53, 3) := by decide +kernel
theorem dX4_writeHome_47 : decode cX4_writeHome 47 = .ok (.aload_n 0, 1) := by decide +kernel
theorem dX4_writeHome_48 : decode cX4_writeHome 48 = .ok (.getfield 13, 3) := by decide +kernel
theorem dX4_writeHome_51 : decode cX4_writeHome 51 = .ok (.bipush 16, 2) := by decide +kernel
theorem dX4_writeHome_53 : decode cX4_writeHome 53 = .ok (.iload_n 1, 1) := by decide +kernel
theorem dX4_writeHome_54 : decode cX4_writeHome 54 = .ok (.imul, 1) := by decide +kernel
theorem dX4_writeHome_55 : decode cX4_writeHome 55 = .ok (.iload 6, 2) := by decide +kernel
theorem dX4_writeHome_57 : decode cX4_writeHome 57 = .ok (.iadd, 1) := by decide +kernel
theorem dX4_writeHome_58 : decode cX4_writeHome 58 = .ok (.iload 4, 2) := by decide +kernel
theorem dX4_writeHome_60 : decode cX4_writeHome 60 = .ok (.ifCond .eq 18, 3) := by decide +kernel
theorem dX4_writeHome_63 : decode cX4_writeHome 63 = .ok (.aload_n 0, 1) := by decide +kernel
theorem dX4_writeHome_64 : decode cX4_writeHome 64 = .ok (.getfield 54, 3) := by decide +kernel
theorem dX4_writeHome_67 : decode cX4_writeHome 67 = .ok (.bipush 16, 2) := by decide +kernel
theorem dX4_writeHome_69 : decode cX4_writeHome 69 = .ok (.iload_n 3, 1) := by decide +kernel
theorem dX4_writeHome_70 : decode cX4_writeHome 70 = .ok (.imul, 1) := by decide +kernel
theorem dX4_writeHome_71 : decode cX4_writeHome 71 = .ok (.iload 6, 2) := by decide +kernel
theorem dX4_writeHome_73 : decode cX4_writeHome 73 = .ok (.iadd, 1) := by decide +kernel
theorem dX4_writeHome_74 : decode cX4_writeHome 74 = .ok (.iaload, 1) := by decide +kernel
theorem dX4_writeHome_75 : decode cX4_writeHome 75 = .ok (.goto 15, 3) := by decide +kernel
theorem dX4_writeHome_78 : decode cX4_writeHome 78 = .ok (.aload_n 0, 1) := by decide +kernel
theorem dX4_writeHome_79 : decode cX4_writeHome 79 = .ok (.getfield 22, 3) := by decide +kernel
theorem dX4_writeHome_82 : decode cX4_writeHome 82 = .ok (.bipush 16, 2) := by decide +kernel
theorem dX4_writeHome_84 : decode cX4_writeHome 84 = .ok (.iload_n 3, 1) := by decide +kernel
theorem dX4_writeHome_85 : decode cX4_writeHome 85 = .ok (.imul, 1) := by decide +kernel
theorem dX4_writeHome_86 : decode cX4_writeHome 86 = .ok (.iload 6, 2) := by decide +kernel
theorem dX4_writeHome_88 : decode cX4_writeHome 88 = .ok (.iadd, 1) := by decide +kernel
theorem dX4_writeHome_89 : decode cX4_writeHome 89 = .ok (.iaload, 1) := by decide +kernel
theorem dX4_writeHome_90 : decode cX4_writeHome 90 = .ok (.iastore, 1) := by decide +kernel
theorem dX4_writeHome_91 : decode cX4_writeHome 91 = .ok (.iinc 6 1, 3) := by decide +kernel
theorem dX4_writeHome_94 : decode cX4_writeHome 94 = .ok (.goto (-58), 3) := by decide +kernel
theorem dX4_writeHome_97 : decode cX4_writeHome 97 = .ok (.iinc 5 1, 3) := by decide +kernel
theorem dX4_writeHome_100 : decode cX4_writeHome 100 = .ok (.goto (-97), 3) := by decide +kernel
theorem dX4_writeHome_103 : decode cX4_writeHome 103 = .ok (.iconst 1, 1) := by decide +kernel
theorem dX4_writeHome_104 : decode cX4_writeHome 104 = .ok (.ireturn, 1) := by decide +kernel
theorem dX4_writeBeside_0 : decode cX4_writeBeside 0 = .ok (.aload_n 0, 1) := by decide +kernel
theorem dX4_writeBeside_1 : decode cX4_writeBeside 1 = .ok (.getfield 41, 3) := by decide +kernel
theorem dX4_writeBeside_4 : decode cX4_writeBeside 4 = .ok (.iload_n 2, 1) := by decide +kernel
theorem dX4_writeBeside_5 : decode cX4_writeBeside 5 = .ok (.iaload, 1) := by decide +kernel
theorem dX4_writeBeside_6 : decode cX4_writeBeside 6 = .ok (.istore_n 3, 1) := by decide +kernel
theorem dX4_writeBeside_7 : decode cX4_writeBeside 7 = .ok (.iconst 0, 1) := by decide +kernel
theorem dX4_writeBeside_8 : decode cX4_writeBeside 8 = .ok (.istore 4, 2) := by decide +kernel
theorem dX4_writeBeside_10 : decode cX4_writeBeside 10 = .ok (.iload 4, 2) := by decide +kernel
theorem dX4_writeBeside_12 : decode cX4_writeBeside 12 = .ok (.iconst 4, 1) := by decide +kernel
theorem dX4_writeBeside_13 : decode cX4_writeBeside 13 = .ok (.if_icmp .ge 94, 3) := by decide +kernel
theorem dX4_writeBeside_16 : decode cX4_writeBeside 16 = .ok (.aload_n 0, 1) := by decide +kernel
theorem dX4_writeBeside_17 : decode cX4_writeBeside 17 = .ok (.invokevirtual 91, 3) := by decide +kernel
theorem dX4_writeBeside_20 : decode cX4_writeBeside 20 = .ok (.ifCond .ne 5, 3) := by decide +kernel
theorem dX4_writeBeside_23 : decode cX4_writeBeside 23 = .ok (.iconst 0, 1) := by decide +kernel
theorem dX4_writeBeside_24 : decode cX4_writeBeside 24 = .ok (.ireturn, 1) := by decide +kernel
theorem dX4_writeBeside_25 : decode cX4_writeBeside 25 = .ok (.aload_n 0, 1) := by decide +kernel
theorem dX4_writeBeside_26 : decode cX4_writeBeside 26 = .ok (.getfield 16, 3) := by decide +kernel
theorem dX4_writeBeside_29 : decode cX4_writeBeside 29 = .ok (.iconst 4, 1) := by decide +kernel
theorem dX4_writeBeside_30 : decode cX4_writeBeside 30 = .ok (.iload_n 1, 1) := by decide +kernel
theorem dX4_writeBeside_31 : decode cX4_writeBeside 31 = .ok (.imul, 1) := by decide +kernel
theorem dX4_writeBeside_32 : decode cX4_writeBeside 32 = .ok (.iload 4, 2) := by decide +kernel
theorem dX4_writeBeside_34 : decode cX4_writeBeside 34 = .ok (.iadd, 1) := by decide +kernel
theorem dX4_writeBeside_35 : decode cX4_writeBeside 35 = .ok (.aload_n 0, 1) := by decide +kernel
theorem dX4_writeBeside_36 : decode cX4_writeBeside 36 = .ok (.getfield 44, 3) := by decide +kernel
theorem dX4_writeBeside_39 : decode cX4_writeBeside 39 = .ok (.iload_n 2, 1) := by decide +kernel
theorem dX4_writeBeside_40 : decode cX4_writeBeside 40 = .ok (.iaload, 1) := by decide +kernel
theorem dX4_writeBeside_41 : decode cX4_writeBeside 41 = .ok (.iastore, 1) := by decide +kernel
theorem dX4_writeBeside_42 : decode cX4_writeBeside 42 = .ok (.aload_n 0, 1) := by decide +kernel
theorem dX4_writeBeside_43 : decode cX4_writeBeside 43 = .ok (.getfield 19, 3) := by decide +kernel
theorem dX4_writeBeside_46 : decode cX4_writeBeside 46 = .ok (.iconst 4, 1) := by decide +kernel
theorem dX4_writeBeside_47 : decode cX4_writeBeside 47 = .ok (.iload_n 1, 1) := by decide +kernel
theorem dX4_writeBeside_48 : decode cX4_writeBeside 48 = .ok (.imul, 1) := by decide +kernel
theorem dX4_writeBeside_49 : decode cX4_writeBeside 49 = .ok (.iload 4, 2) := by decide +kernel
theorem dX4_writeBeside_51 : decode cX4_writeBeside 51 = .ok (.iadd, 1) := by decide +kernel
theorem dX4_writeBeside_52 : decode cX4_writeBeside 52 = .ok (.iload_n 3, 1) := by decide +kernel
theorem dX4_writeBeside_53 : decode cX4_writeBeside 53 = .ok (.iastore, 1) := by decide +kernel
theorem dX4_writeBeside_54 : decode cX4_writeBeside 54 = .ok (.iconst 4, 1) := by decide +kernel
theorem dX4_writeBeside_55 : decode cX4_writeBeside 55 = .ok (.iload 4, 2) := by decide +kernel
theorem dX4_writeBeside_57 : decode cX4_writeBeside 57 = .ok (.imul, 1) := by decide +kernel
theorem dX4_writeBeside_58 : decode cX4_writeBeside 58 = .ok (.istore 5, 2) := by decide +kernel
theorem dX4_writeBeside_60 : decode cX4_writeBeside 60 = .ok (.iload 5, 2) := by decide +kernel
theorem dX4_writeBeside_62 : decode cX4_writeBeside 62 = .ok (.iconst 4, 1) := by decide +kernel
theorem dX4_writeBeside_63 : decode cX4_writeBeside 63 = .ok (.iload 4, 2) := by decide +kernel
theorem dX4_writeBeside_65 : decode cX4_writeBeside 65 = .ok (.imul, 1) := by decide +kernel
theorem dX4_writeBeside_66 : decode cX4_writeBeside 66 = .ok (.iconst 4, 1) := by decide +kernel
theorem dX4_writeBeside_67 : decode cX4_writeBeside 67 = .ok (.iadd, 1) := by decide +kernel
theorem dX4_writeBeside_68 : decode cX4_writeBeside 68 = .ok (.if_icmp .ge 33, 3) := by decide +kernel
theorem dX4_writeBeside_71 : decode cX4_writeBeside 71 = .ok (.aload_n 0, 1) := by decide +kernel
theorem dX4_writeBeside_72 : decode cX4_writeBeside 72 = .ok (.getfield 22, 3) := by decide +kernel
theorem dX4_writeBeside_75 : decode cX4_writeBeside 75 = .ok (.bipush 16, 2) := by decide +kernel
theorem dX4_writeBeside_77 : decode cX4_writeBeside 77 = .ok (.iload_n 1, 1) := by decide +kernel
theorem dX4_writeBeside_78 : decode cX4_writeBeside 78 = .ok (.imul, 1) := by decide +kernel
theorem dX4_writeBeside_79 : decode cX4_writeBeside 79 = .ok (.iload 5, 2) := by decide +kernel
theorem dX4_writeBeside_81 : decode cX4_writeBeside 81 = .ok (.iadd, 1) := by decide +kernel
theorem dX4_writeBeside_82 : decode cX4_writeBeside 82 = .ok (.aload_n 0, 1) := by decide +kernel
theorem dX4_writeBeside_83 : decode cX4_writeBeside 83 = .ok (.getfield 54, 3) := by decide +kernel
theorem dX4_writeBeside_86 : decode cX4_writeBeside 86 = .ok (.bipush 16, 2) := by decide +kernel
theorem dX4_writeBeside_88 : decode cX4_writeBeside 88 = .ok (.iload_n 2, 1) := by decide +kernel
theorem dX4_writeBeside_89 : decode cX4_writeBeside 89 = .ok (.imul, 1) := by decide +kernel
theorem dX4_writeBeside_90 : decode cX4_writeBeside 90 = .ok (.iload 5, 2) := by decide +kernel
theorem dX4_writeBeside_92 : decode cX4_writeBeside 92 = .ok (.iadd, 1) := by decide +kernel
theorem dX4_writeBeside_93 : decode cX4_writeBeside 93 = .ok (.iaload, 1) := by decide +kernel
theorem dX4_writeBeside_94 : decode cX4_writeBeside 94 = .ok (.iastore, 1) := by decide +kernel
theorem dX4_writeBeside_95 : decode cX4_writeBeside 95 = .ok (.iinc 5 1, 3) := by decide +kernel
theorem dX4_writeBeside_98 : decode cX4_writeBeside 98 = .ok (.goto (-38), 3) := by decide +kernel
theorem dX4_writeBeside_101 : decode cX4_writeBeside 101 = .ok (.iinc 4 1, 3) := by decide +kernel
theorem dX4_writeBeside_104 : decode cX4_writeBeside 104 = .ok (.goto (-94), 3) := by decide +kernel
theorem dX4_writeBeside_107 : decode cX4_writeBeside 107 = .ok (.iconst 1, 1) := by decide +kernel
theorem dX4_writeBeside_108 : decode cX4_writeBeside 108 = .ok (.ireturn, 1) := by decide +kernel
theorem dX4_isHomeWhole_0 : decode cX4_isHomeWhole 0 = .ok (.iconst 4, 1) := by decide +kernel
theorem dX4_isHomeWhole_1 : decode cX4_isHomeWhole 1 = .ok (.iload_n 1, 1) := by decide +kernel
theorem dX4_isHomeWhole_2 : decode cX4_isHomeWhole 2 = .ok (.imul, 1) := by decide +kernel
theorem dX4_isHomeWhole_3 : decode cX4_isHomeWhole 3 = .ok (.istore_n 2, 1) := by decide +kernel
theorem dX4_isHomeWhole_4 : decode cX4_isHomeWhole 4 = .ok (.aload_n 0, 1) := by decide +kernel
theorem dX4_isHomeWhole_5 : decode cX4_isHomeWhole 5 = .ok (.getfield 7, 3) := by decide +kernel
theorem dX4_isHomeWhole_8 : decode cX4_isHomeWhole 8 = .ok (.iload_n 2, 1) := by decide +kernel
theorem dX4_isHomeWhole_9 : decode cX4_isHomeWhole 9 = .ok (.iaload, 1) := by decide +kernel
theorem dX4_isHomeWhole_10 : decode cX4_isHomeWhole 10 = .ok (.aload_n 0, 1) := by decide +kernel
theorem dX4_isHomeWhole_11 : decode cX4_isHomeWhole 11 = .ok (.getfield 7, 3) := by decide +kernel
theorem dX4_isHomeWhole_14 : decode cX4_isHomeWhole 14 = .ok (.iload_n 2, 1) := by decide +kernel
theorem dX4_isHomeWhole_15 : decode cX4_isHomeWhole 15 = .ok (.iconst 1, 1) := by decide +kernel
theorem dX4_isHomeWhole_16 : decode cX4_isHomeWhole 16 = .ok (.iadd, 1) := by decide +kernel
theorem dX4_isHomeWhole_17 : decode cX4_isHomeWhole 17 = .ok (.iaload, 1) := by decide +kernel
theorem dX4_isHomeWhole_18 : decode cX4_isHomeWhole 18 = .ok (.if_icmp .ne 41, 3) := by decide +kernel
theorem dX4_isHomeWhole_21 : decode cX4_isHomeWhole 21 = .ok (.aload_n 0, 1) := by decide +kernel
theorem dX4_isHomeWhole_22 : decode cX4_isHomeWhole 22 = .ok (.getfield 7, 3) := by decide +kernel
theorem dX4_isHomeWhole_25 : decode cX4_isHomeWhole 25 = .ok (.iload_n 2, 1) := by decide +kernel
theorem dX4_isHomeWhole_26 : decode cX4_isHomeWhole 26 = .ok (.iaload, 1) := by decide +kernel
theorem dX4_isHomeWhole_27 : decode cX4_isHomeWhole 27 = .ok (.aload_n 0, 1) := by decide +kernel
theorem dX4_isHomeWhole_28 : decode cX4_isHomeWhole 28 = .ok (.getfield 7, 3) := by decide +kernel
theorem dX4_isHomeWhole_31 : decode cX4_isHomeWhole 31 = .ok (.iload_n 2, 1) := by decide +kernel
theorem dX4_isHomeWhole_32 : decode cX4_isHomeWhole 32 = .ok (.iconst 2, 1) := by decide +kernel
theorem dX4_isHomeWhole_33 : decode cX4_isHomeWhole 33 = .ok (.iadd, 1) := by decide +kernel
theorem dX4_isHomeWhole_34 : decode cX4_isHomeWhole 34 = .ok (.iaload, 1) := by decide +kernel
theorem dX4_isHomeWhole_35 : decode cX4_isHomeWhole 35 = .ok (.if_icmp .ne 24, 3) := by decide +kernel
theorem dX4_isHomeWhole_38 : decode cX4_isHomeWhole 38 = .ok (.aload_n 0, 1) := by decide +kernel
theorem dX4_isHomeWhole_39 : decode cX4_isHomeWhole 39 = .ok (.getfield 7, 3) := by decide +kernel
theorem dX4_isHomeWhole_42 : decode cX4_isHomeWhole 42 = .ok (.iload_n 2, 1) := by decide +kernel
theorem dX4_isHomeWhole_43 : decode cX4_isHomeWhole 43 = .ok (.iaload, 1) := by decide +kernel
theorem dX4_isHomeWhole_44 : decode cX4_isHomeWhole 44 = .ok (.aload_n 0, 1) := by decide +kernel
theorem dX4_isHomeWhole_45 : decode cX4_isHomeWhole 45 = .ok (.getfield 7, 3) := by decide +kernel
theorem dX4_isHomeWhole_48 : decode cX4_isHomeWhole 48 = .ok (.iload_n 2, 1) := by decide +kernel
theorem dX4_isHomeWhole_49 : decode cX4_isHomeWhole 49 = .ok (.iconst 3, 1) := by decide +kernel
theorem dX4_isHomeWhole_50 : decode cX4_isHomeWhole 50 = .ok (.iadd, 1) := by decide +kernel
theorem dX4_isHomeWhole_51 : decode cX4_isHomeWhole 51 = .ok (.iaload, 1) := by decide +kernel
theorem dX4_isHomeWhole_52 : decode cX4_isHomeWhole 52 = .ok (.if_icmp .ne 7, 3) := by decide +kernel
theorem dX4_isHomeWhole_55 : decode cX4_isHomeWhole 55 = .ok (.iconst 1, 1) := by decide +kernel
theorem dX4_isHomeWhole_56 : decode cX4_isHomeWhole 56 = .ok (.goto 4, 3) := by decide +kernel
theorem dX4_isHomeWhole_59 : decode cX4_isHomeWhole 59 = .ok (.iconst 0, 1) := by decide +kernel
theorem dX4_isHomeWhole_60 : decode cX4_isHomeWhole 60 = .ok (.ireturn, 1) := by decide +kernel
theorem dX4_isSlotWhole_0 : decode cX4_isSlotWhole 0 = .ok (.iconst 1, 1) := by decide +kernel
theorem dX4_isSlotWhole_1 : decode cX4_isSlotWhole 1 = .ok (.istore_n 2, 1) := by decide +kernel
theorem dX4_isSlotWhole_2 : decode cX4_isSlotWhole 2 = .ok (.iconst 1, 1) := by decide +kernel
theorem dX4_isSlotWhole_3 : decode cX4_isSlotWhole 3 = .ok (.istore_n 3, 1) := by decide +kernel
theorem dX4_isSlotWhole_4 : decode cX4_isSlotWhole 4 = .ok (.iload_n 3, 1) := by decide +kernel
theorem dX4_isSlotWhole_5 : decode cX4_isSlotWhole 5 = .ok (.iconst 4, 1) := by decide +kernel
theorem dX4_isSlotWhole_6 : decode cX4_isSlotWhole 6 = .ok (.if_icmp .ge 61, 3) := by decide +kernel
theorem dX4_isSlotWhole_9 : decode cX4_isSlotWhole 9 = .ok (.iload_n 2, 1) := by decide +kernel
theorem dX4_isSlotWhole_10 : decode cX4_isSlotWhole 10 = .ok (.ifCond .eq 49, 3) := by decide +kernel
theorem dX4_isSlotWhole_13 : decode cX4_isSlotWhole 13 = .ok (.aload_n 0, 1) := by decide +kernel
theorem dX4_isSlotWhole_14 : decode cX4_isSlotWhole 14 = .ok (.getfield 16, 3) := by decide +kernel
theorem dX4_isSlotWhole_17 : decode cX4_isSlotWhole 17 = .ok (.iconst 4, 1) := by decide +kernel
theorem dX4_isSlotWhole_18 : decode cX4_isSlotWhole 18 = .ok (.iload_n 1, 1) := by decide +kernel
theorem dX4_isSlotWhole_19 : decode cX4_isSlotWhole 19 = .ok (.imul, 1) := by decide +kernel
theorem dX4_isSlotWhole_20 : decode cX4_isSlotWhole 20 = .ok (.iload_n 3, 1) := by decide +kernel
theorem dX4_isSlotWhole_21 : decode cX4_isSlotWhole 21 = .ok (.iadd, 1) := by decide +kernel
theorem dX4_isSlotWhole_22 : decode cX4_isSlotWhole 22 = .ok (.iaload, 1) := by decide +kernel
theorem dX4_isSlotWhole_23 : decode cX4_isSlotWhole 23 = .ok (.aload_n 0, 1) := by decide +kernel
theorem dX4_isSlotWhole_24 : decode cX4_isSlotWhole 24 = .ok (.getfield 16, 3) := by decide +kernel
theorem dX4_isSlotWhole_27 : decode cX4_isSlotWhole 27 = .ok (.iconst 4, 1) := by decide +kernel
theorem dX4_isSlotWhole_28 : decode cX4_isSlotWhole 28 = .ok (.iload_n 1, 1) := by decide +kernel
theorem dX4_isSlotWhole_29 : decode cX4_isSlotWhole 29 = .ok (.imul, 1) := by decide +kernel
theorem dX4_isSlotWhole_30 : decode cX4_isSlotWhole 30 = .ok (.iaload, 1) := by decide +kernel
theorem dX4_isSlotWhole_31 : decode cX4_isSlotWhole 31 = .ok (.if_icmp .ne 28, 3) := by decide +kernel
theorem dX4_isSlotWhole_34 : decode cX4_isSlotWhole 34 = .ok (.aload_n 0, 1) := by decide +kernel
theorem dX4_isSlotWhole_35 : decode cX4_isSlotWhole 35 = .ok (.getfield 19, 3) := by decide +kernel
theorem dX4_isSlotWhole_38 : decode cX4_isSlotWhole 38 = .ok (.iconst 4, 1) := by decide +kernel
theorem dX4_isSlotWhole_39 : decode cX4_isSlotWhole 39 = .ok (.iload_n 1, 1) := by decide +kernel
theorem dX4_isSlotWhole_40 : decode cX4_isSlotWhole 40 = .ok (.imul, 1) := by decide +kernel
theorem dX4_isSlotWhole_41 : decode cX4_isSlotWhole 41 = .ok (.iload_n 3, 1) := by decide +kernel
theorem dX4_isSlotWhole_42 : decode cX4_isSlotWhole 42 = .ok (.iadd, 1) := by decide +kernel
theorem dX4_isSlotWhole_43 : decode cX4_isSlotWhole 43 = .ok (.iaload, 1) := by decide +kernel
theorem dX4_isSlotWhole_44 : decode cX4_isSlotWhole 44 = .ok (.aload_n 0, 1) := by decide +kernel
theorem dX4_isSlotWhole_45 : decode cX4_isSlotWhole 45 = .ok (.getfield 19, 3) := by decide +kernel
theorem dX4_isSlotWhole_48 : decode cX4_isSlotWhole 48 = .ok (.iconst 4, 1) := by decide +kernel
theorem dX4_isSlotWhole_49 : decode cX4_isSlotWhole 49 = .ok (.iload_n 1, 1) := by decide +kernel
theorem dX4_isSlotWhole_50 : decode cX4_isSlotWhole 50 = .ok (.imul, 1) := by decide +kernel
theorem dX4_isSlotWhole_51 : decode cX4_isSlotWhole 51 = .ok (.iaload, 1) := by decide +kernel
theorem dX4_isSlotWhole_52 : decode cX4_isSlotWhole 52 = .ok (.if_icmp .ne 7, 3) := by decide +kernel
theorem dX4_isSlotWhole_55 : decode cX4_isSlotWhole 55 = .ok (.iconst 1, 1) := by decide +kernel
theorem dX4_isSlotWhole_56 : decode cX4_isSlotWhole 56 = .ok (.goto 4, 3) := by decide +kernel
theorem dX4_isSlotWhole_59 : decode cX4_isSlotWhole 59 = .ok (.iconst 0, 1) := by decide +kernel
theorem dX4_isSlotWhole_60 : decode cX4_isSlotWhole 60 = .ok (.istore_n 2, 1) := by decide +kernel
theorem dX4_isSlotWhole_61 : decode cX4_isSlotWhole 61 = .ok (.iinc 3 1, 3) := by decide +kernel
theorem dX4_isSlotWhole_64 : decode cX4_isSlotWhole 64 = .ok (.goto (-60), 3) := by decide +kernel
theorem dX4_isSlotWhole_67 : decode cX4_isSlotWhole 67 = .ok (.iload_n 2, 1) := by decide +kernel
theorem dX4_isSlotWhole_68 : decode cX4_isSlotWhole 68 = .ok (.ireturn, 1) := by decide +kernel
theorem dX4_logWaiting_0 : decode cX4_logWaiting 0 = .ok (.iconst 0, 1) := by decide +kernel
theorem dX4_logWaiting_1 : decode cX4_logWaiting 1 = .ok (.istore_n 1, 1) := by decide +kernel
theorem dX4_logWaiting_2 : decode cX4_logWaiting 2 = .ok (.iload_n 1, 1) := by decide +kernel
theorem dX4_logWaiting_3 : decode cX4_logWaiting 3 = .ok (.aload_n 0, 1) := by decide +kernel
theorem dX4_logWaiting_4 : decode cX4_logWaiting 4 = .ok (.getfield 82, 3) := by decide +kernel
theorem dX4_logWaiting_7 : decode cX4_logWaiting 7 = .ok (.if_icmp .ge 76, 3) := by decide +kernel
theorem dX4_logWaiting_10 : decode cX4_logWaiting 10 = .ok (.aload_n 0, 1) := by decide +kernel
theorem dX4_logWaiting_11 : decode cX4_logWaiting 11 = .ok (.invokevirtual 91, 3) := by decide +kernel
theorem dX4_logWaiting_14 : decode cX4_logWaiting 14 = .ok (.ifCond .ne 5, 3) := by decide +kernel
theorem dX4_logWaiting_17 : decode cX4_logWaiting 17 = .ok (.iconst 0, 1) := by decide +kernel
theorem dX4_logWaiting_18 : decode cX4_logWaiting 18 = .ok (.ireturn, 1) := by decide +kernel
theorem dX4_logWaiting_19 : decode cX4_logWaiting 19 = .ok (.aload_n 0, 1) := by decide +kernel
theorem dX4_logWaiting_20 : decode cX4_logWaiting 20 = .ok (.getfield 60, 3) := by decide +kernel
theorem dX4_logWaiting_23 : decode cX4_logWaiting 23 = .ok (.iload_n 1, 1) := by decide +kernel
theorem dX4_logWaiting_24 : decode cX4_logWaiting 24 = .ok (.iaload, 1) := by decide +kernel
theorem dX4_logWaiting_25 : decode cX4_logWaiting 25 = .ok (.bipush 12, 2) := by decide +kernel
theorem dX4_logWaiting_27 : decode cX4_logWaiting 27 = .ok (.irem, 1) := by decide +kernel
theorem dX4_logWaiting_28 : decode cX4_logWaiting 28 = .ok (.istore_n 2, 1) := by decide +kernel
theorem dX4_logWaiting_29 : decode cX4_logWaiting 29 = .ok (.aload_n 0, 1) := by decide +kernel
theorem dX4_logWaiting_30 : decode cX4_logWaiting 30 = .ok (.getfield 25, 3) := by decide +kernel
theorem dX4_logWaiting_33 : decode cX4_logWaiting 33 = .ok (.iload_n 2, 1) := by decide +kernel
theorem dX4_logWaiting_34 : decode cX4_logWaiting 34 = .ok (.aload_n 0, 1) := by decide +kernel
theorem dX4_logWaiting_35 : decode cX4_logWaiting 35 = .ok (.getfield 60, 3) := by decide +kernel
theorem dX4_logWaiting_38 : decode cX4_logWaiting 38 = .ok (.iload_n 1, 1) := by decide +kernel
theorem dX4_logWaiting_39 : decode cX4_logWaiting 39 = .ok (.iaload, 1) := by decide +kernel
theorem dX4_logWaiting_40 : decode cX4_logWaiting 40 = .ok (.iastore, 1) := by decide +kernel
theorem dX4_logWaiting_41 : decode cX4_logWaiting 41 = .ok (.aload_n 0, 1) := by decide +kernel
theorem dX4_logWaiting_42 : decode cX4_logWaiting 42 = .ok (.getfield 28, 3) := by decide +kernel
theorem dX4_logWaiting_45 : decode cX4_logWaiting 45 = .ok (.iload_n 2, 1) := by decide +kernel
theorem dX4_logWaiting_46 : decode cX4_logWaiting 46 = .ok (.aload_n 0, 1) := by decide +kernel
theorem dX4_logWaiting_47 : decode cX4_logWaiting 47 = .ok (.getfield 63, 3) := by decide +kernel
theorem dX4_logWaiting_50 : decode cX4_logWaiting 50 = .ok (.iload_n 1, 1) := by decide +kernel
theorem dX4_logWaiting_51 : decode cX4_logWaiting 51 = .ok (.iaload, 1) := by decide +kernel
theorem dX4_logWaiting_52 : decode cX4_logWaiting 52 = .ok (.iastore, 1) := by decide +kernel
theorem dX4_logWaiting_53 : decode cX4_logWaiting 53 = .ok (.aload_n 0, 1) := by decide +kernel
theorem dX4_logWaiting_54 : decode cX4_logWaiting 54 = .ok (.getfield 31, 3) := by decide +kernel
theorem dX4_logWaiting_57 : decode cX4_logWaiting 57 = .ok (.iload_n 2, 1) := by decide +kernel
theorem dX4_logWaiting_58 : decode cX4_logWaiting 58 = .ok (.aload_n 0, 1) := by decide +kernel
theorem dX4_logWaiting_59 : decode cX4_logWaiting 59 = .ok (.getfield 66, 3) := by decide +kernel
theorem dX4_logWaiting_62 : decode cX4_logWaiting 62 = .ok (.iload_n 1, 1) := by decide +kernel
theorem dX4_logWaiting_63 : decode cX4_logWaiting 63 = .ok (.iaload, 1) := by decide +kernel
theorem dX4_logWaiting_64 : decode cX4_logWaiting 64 = .ok (.iastore, 1) := by decide +kernel
theorem dX4_logWaiting_65 : decode cX4_logWaiting 65 = .ok (.aload_n 0, 1) := by decide +kernel
theorem dX4_logWaiting_66 : decode cX4_logWaiting 66 = .ok (.getfield 34, 3) := by decide +kernel
theorem dX4_logWaiting_69 : decode cX4_logWaiting 69 = .ok (.iload_n 2, 1) := by decide +kernel
theorem dX4_logWaiting_70 : decode cX4_logWaiting 70 = .ok (.aload_n 0, 1) := by decide +kernel
theorem dX4_logWaiting_71 : decode cX4_logWaiting 71 = .ok (.getfield 69, 3) := by decide +kernel
theorem dX4_logWaiting_74 : decode cX4_logWaiting 74 = .ok (.iload_n 1, 1) := by decide +kernel
theorem dX4_logWaiting_75 : decode cX4_logWaiting 75 = .ok (.iaload, 1) := by decide +kernel
theorem dX4_logWaiting_76 : decode cX4_logWaiting 76 = .ok (.iastore, 1) := by decide +kernel
theorem dX4_logWaiting_77 : decode cX4_logWaiting 77 = .ok (.iinc 1 1, 3) := by decide +kernel
theorem dX4_logWaiting_80 : decode cX4_logWaiting 80 = .ok (.goto (-78), 3) := by decide +kernel
theorem dX4_logWaiting_83 : decode cX4_logWaiting 83 = .ok (.aload_n 0, 1) := by decide +kernel
theorem dX4_logWaiting_84 : decode cX4_logWaiting 84 = .ok (.iconst 0, 1) := by decide +kernel
theorem dX4_logWaiting_85 : decode cX4_logWaiting 85 = .ok (.putfield 82, 3) := by decide +kernel
theorem dX4_logWaiting_88 : decode cX4_logWaiting 88 = .ok (.iconst 1, 1) := by decide +kernel
theorem dX4_logWaiting_89 : decode cX4_logWaiting 89 = .ok (.ireturn, 1) := by decide +kernel
theorem dX4_clean_0 : decode cX4_clean 0 = .ok (.aload_n 0, 1) := by decide +kernel
theorem dX4_clean_1 : decode cX4_clean 1 = .ok (.invokevirtual 95, 3) := by decide +kernel
theorem dX4_clean_4 : decode cX4_clean 4 = .ok (.ifCond .ne 5, 3) := by decide +kernel
theorem dX4_clean_7 : decode cX4_clean 7 = .ok (.iconst 0, 1) := by decide +kernel
theorem dX4_clean_8 : decode cX4_clean 8 = .ok (.ireturn, 1) := by decide +kernel
theorem dX4_clean_9 : decode cX4_clean 9 = .ok (.iconst 0, 1) := by decide +kernel
theorem dX4_clean_10 : decode cX4_clean 10 = .ok (.istore_n 2, 1) := by decide +kernel
theorem dX4_clean_11 : decode cX4_clean 11 = .ok (.iconst 0, 1) := by decide +kernel
theorem dX4_clean_12 : decode cX4_clean 12 = .ok (.istore_n 3, 1) := by decide +kernel
theorem dX4_clean_13 : decode cX4_clean 13 = .ok (.iload_n 3, 1) := by decide +kernel
theorem dX4_clean_14 : decode cX4_clean 14 = .ok (.iconst 4, 1) := by decide +kernel
theorem dX4_clean_15 : decode cX4_clean 15 = .ok (.if_icmp .ge 42, 3) := by decide +kernel
theorem dX4_clean_18 : decode cX4_clean 18 = .ok (.aload_n 0, 1) := by decide +kernel
theorem dX4_clean_19 : decode cX4_clean 19 = .ok (.getfield 47, 3) := by decide +kernel
theorem dX4_clean_22 : decode cX4_clean 22 = .ok (.iload_n 3, 1) := by decide +kernel
theorem dX4_clean_23 : decode cX4_clean 23 = .ok (.baload, 1) := by decide +kernel
theorem dX4_clean_24 : decode cX4_clean 24 = .ok (.ifCond .eq 27, 3) := by decide +kernel
theorem dX4_clean_27 : decode cX4_clean 27 = .ok (.iload_n 1, 1) := by decide +kernel
theorem dX4_clean_28 : decode cX4_clean 28 = .ok (.iconst (-1), 1) := by decide +kernel
theorem dX4_clean_29 : decode cX4_clean 29 = .ok (.if_icmp .eq 8, 3) := by decide +kernel
theorem dX4_clean_32 : decode cX4_clean 32 = .ok (.iload_n 1, 1) := by decide +kernel
theorem dX4_clean_33 : decode cX4_clean 33 = .ok (.iload_n 3, 1) := by decide +kernel
theorem dX4_clean_34 : decode cX4_clean 34 = .ok (.if_icmp .ne 17, 3) := by decide +kernel
theorem dX4_clean_37 : decode cX4_clean 37 = .ok (.aload_n 0, 1) := by decide +kernel
theorem dX4_clean_38 : decode cX4_clean 38 = .ok (.iload_n 2, 1) := by decide +kernel
theorem dX4_clean_39 : decode cX4_clean 39 = .ok (.iload_n 3, 1) := by decide +kernel
theorem dX4_clean_40 : decode cX4_clean 40 = .ok (.invokevirtual 98, 3) := by decide +kernel
theorem dX4_clean_43 : decode cX4_clean 43 = .ok (.ifCond .ne 5, 3) := by decide +kernel
theorem dX4_clean_46 : decode cX4_clean 46 = .ok (.iconst 0, 1) := by decide +kernel
theorem dX4_clean_47 : decode cX4_clean 47 = .ok (.ireturn, 1) := by decide +kernel
theorem dX4_clean_48 : decode cX4_clean 48 = .ok (.iinc 2 1, 3) := by decide +kernel
theorem dX4_clean_51 : decode cX4_clean 51 = .ok (.iinc 3 1, 3) := by decide +kernel
theorem dX4_clean_54 : decode cX4_clean 54 = .ok (.goto (-41), 3) := by decide +kernel
theorem dX4_clean_57 : decode cX4_clean 57 = .ok (.iconst 0, 1) := by decide +kernel
theorem dX4_clean_58 : decode cX4_clean 58 = .ok (.istore_n 3, 1) := by decide +kernel
theorem dX4_clean_59 : decode cX4_clean 59 = .ok (.iload_n 3, 1) := by decide +kernel
theorem dX4_clean_60 : decode cX4_clean 60 = .ok (.iconst 4, 1) := by decide +kernel
theorem dX4_clean_61 : decode cX4_clean 61 = .ok (.if_icmp .ge 51, 3) := by decide +kernel
theorem dX4_clean_64 : decode cX4_clean 64 = .ok (.aload_n 0, 1) := by decide +kernel
theorem dX4_clean_65 : decode cX4_clean 65 = .ok (.getfield 47, 3) := by decide +kernel
theorem dX4_clean_68 : decode cX4_clean 68 = .ok (.iload_n 3, 1) := by decide +kernel
theorem dX4_clean_69 : decode cX4_clean 69 = .ok (.baload, 1) := by decide +kernel
theorem dX4_clean_70 : decode cX4_clean 70 = .ok (.ifCond .eq 36, 3) := by decide +kernel
theorem dX4_clean_73 : decode cX4_clean 73 = .ok (.iload_n 1, 1) := by decide +kernel
theorem dX4_clean_74 : decode cX4_clean 74 = .ok (.iconst (-1), 1) := by decide +kernel
theorem dX4_clean_75 : decode cX4_clean 75 = .ok (.if_icmp .eq 8, 3) := by decide +kernel
theorem dX4_clean_78 : decode cX4_clean 78 = .ok (.iload_n 1, 1) := by decide +kernel
theorem dX4_clean_79 : decode cX4_clean 79 = .ok (.iload_n 3, 1) := by decide +kernel
theorem dX4_clean_80 : decode cX4_clean 80 = .ok (.if_icmp .ne 26, 3) := by decide +kernel
theorem dX4_clean_83 : decode cX4_clean 83 = .ok (.aload_n 0, 1) := by decide +kernel
theorem dX4_clean_84 : decode cX4_clean 84 = .ok (.aload_n 0, 1) := by decide +kernel
theorem dX4_clean_85 : decode cX4_clean 85 = .ok (.getfield 41, 3) := by decide +kernel
