theorem dX0_init_0 : decode cX0_init 0 = .ok (.aload_n 0, 1) := by decide +kernel
theorem dX0_init_1 : decode cX0_init 1 = .ok (.invokespecial 3, 3) := by decide +kernel
theorem dX0_init_4 : decode cX0_init 4 = .ok (.aload_n 0, 1) := by decide +kernel
theorem dX0_init_5 : decode cX0_init 5 = .ok (.sipush 3672, 3) := by decide +kernel
theorem dX0_init_8 : decode cX0_init 8 = .ok (.newarray .int, 2) := by decide +kernel
theorem dX0_init_10 : decode cX0_init 10 = .ok (.putfield 9, 3) := by decide +kernel
theorem dX0_init_13 : decode cX0_init 13 = .ok (.aload_n 0, 1) := by decide +kernel
theorem dX0_init_14 : decode cX0_init 14 = .ok (.iconst 0, 1) := by decide +kernel
theorem dX0_init_15 : decode cX0_init 15 = .ok (.putfield 15, 3) := by decide +kernel
theorem dX0_init_18 : decode cX0_init 18 = .ok (.aload_n 0, 1) := by decide +kernel
theorem dX0_init_19 : decode cX0_init 19 = .ok (.iconst 0, 1) := by decide +kernel
theorem dX0_init_20 : decode cX0_init 20 = .ok (.putfield 19, 3) := by decide +kernel
theorem dX0_init_23 : decode cX0_init 23 = .ok (.aload_n 0, 1) := by decide +kernel
theorem dX0_init_24 : decode cX0_init 24 = .ok (.iconst 0, 1) := by decide +kernel
theorem dX0_init_25 : decode cX0_init 25 = .ok (.putfield 22, 3) := by decide +kernel
theorem dX0_init_28 : decode cX0_init 28 = .ok (.aload_n 0, 1) := by decide +kernel
theorem dX0_init_29 : decode cX0_init 29 = .ok (.iconst 0, 1) := by decide +kernel
theorem dX0_init_30 : decode cX0_init 30 = .ok (.putfield 25, 3) := by decide +kernel
theorem dX0_init_33 : decode cX0_init 33 = .ok (.aload_n 0, 1) := by decide +kernel
theorem dX0_init_34 : decode cX0_init 34 = .ok (.aload_n 1, 1) := by decide +kernel
theorem dX0_init_35 : decode cX0_init 35 = .ok (.putfield 29, 3) := by decide +kernel
theorem dX0_init_38 : decode cX0_init 38 = .ok (.aload_n 0, 1) := by decide +kernel
theorem dX0_init_39 : decode cX0_init 39 = .ok (.aload_n 2, 1) := by decide +kernel
theorem dX0_init_40 : decode cX0_init 40 = .ok (.putfield 33, 3) := by decide +kernel
theorem dX0_init_43 : decode cX0_init 43 = .ok (.aload_n 0, 1) := by decide +kernel
theorem dX0_init_44 : decode cX0_init 44 = .ok (.aload_n 3, 1) := by decide +kernel
theorem dX0_init_45 : decode cX0_init 45 = .ok (.putfield 37, 3) := by decide +kernel
theorem dX0_init_48 : decode cX0_init 48 = .ok (.return_, 1) := by decide +kernel
theorem dX0_collect_0 : decode cX0_collect 0 = .ok (.aload_n 0, 1) := by decide +kernel
theorem dX0_collect_1 : decode cX0_collect 1 = .ok (.iconst 0, 1) := by decide +kernel
theorem dX0_collect_2 : decode cX0_collect 2 = .ok (.putfield 15, 3) := by decide +kernel
theorem dX0_collect_5 : decode cX0_collect 5 = .ok (.aload_n 0, 1) := by decide +kernel
theorem dX0_collect_6 : decode cX0_collect 6 = .ok (.iconst 0, 1) := by decide +kernel
theorem dX0_collect_7 : decode cX0_collect 7 = .ok (.putfield 22, 3) := by decide +kernel
theorem dX0_collect_10 : decode cX0_collect 10 = .ok (.aload_n 0, 1) := by decide +kernel
theorem dX0_collect_11 : decode cX0_collect 11 = .ok (.getfield 29, 3) := by decide +kernel
theorem dX0_collect_14 : decode cX0_collect 14 = .ok (.invokevirtual 41, 3) := by decide +kernel
theorem dX0_collect_17 : decode cX0_collect 17 = .ok (.iconst 0, 1) := by decide +kernel
theorem dX0_collect_18 : decode cX0_collect 18 = .ok (.istore_n 1, 1) := by decide +kernel
theorem dX0_collect_19 : decode cX0_collect 19 = .ok (.iload_n 1, 1) := by decide +kernel
theorem dX0_collect_20 : decode cX0_collect 20 = .ok (.sipush 20000, 3) := by decide +kernel
theorem dX0_collect_23 : decode cX0_collect 23 = .ok (.if_icmp .gt 91, 3) := by decide +kernel
theorem dX0_collect_26 : decode cX0_collect 26 = .ok (.aload_n 0, 1) := by decide +kernel
theorem dX0_collect_27 : decode cX0_collect 27 = .ok (.getfield 29, 3) := by decide +kernel
theorem dX0_collect_30 : decode cX0_collect 30 = .ok (.invokevirtual 46, 3) := by decide +kernel
theorem dX0_collect_33 : decode cX0_collect 33 = .ok (.ifCond .eq 81, 3) := by decide +kernel
theorem dX0_collect_36 : decode cX0_collect 36 = .ok (.aload_n 0, 1) := by decide +kernel
theorem dX0_collect_37 : decode cX0_collect 37 = .ok (.getfield 15, 3) := by decide +kernel
theorem dX0_collect_40 : decode cX0_collect 40 = .ok (.bipush 100, 2) := by decide +kernel
theorem dX0_collect_42 : decode cX0_collect 42 = .ok (.if_icmp .ge 21, 3) := by decide +kernel
theorem dX0_collect_45 : decode cX0_collect 45 = .ok (.aload_n 0, 1) := by decide +kernel
theorem dX0_collect_46 : decode cX0_collect 46 = .ok (.getfield 29, 3) := by decide +kernel
theorem dX0_collect_49 : decode cX0_collect 49 = .ok (.aload_n 0, 1) := by decide +kernel
theorem dX0_collect_50 : decode cX0_collect 50 = .ok (.getfield 9, 3) := by decide +kernel
theorem dX0_collect_53 : decode cX0_collect 53 = .ok (.aload_n 0, 1) := by decide +kernel
theorem dX0_collect_54 : decode cX0_collect 54 = .ok (.getfield 15, 3) := by decide +kernel
theorem dX0_collect_57 : decode cX0_collect 57 = .ok (.bipush 36, 2) := by decide +kernel
theorem dX0_collect_59 : decode cX0_collect 59 = .ok (.imul, 1) := by decide +kernel
theorem dX0_collect_60 : decode cX0_collect 60 = .ok (.invokevirtual 50, 3) := by decide +kernel
theorem dX0_collect_63 : decode cX0_collect 63 = .ok (.aload_n 0, 1) := by decide +kernel
theorem dX0_collect_64 : decode cX0_collect 64 = .ok (.aload_n 0, 1) := by decide +kernel
theorem dX0_collect_65 : decode cX0_collect 65 = .ok (.getfield 15, 3) := by decide +kernel
theorem dX0_collect_68 : decode cX0_collect 68 = .ok (.ifCond .ne 13, 3) := by decide +kernel
theorem dX0_collect_71 : decode cX0_collect 71 = .ok (.aload_n 0, 1) := by decide +kernel
theorem dX0_collect_72 : decode cX0_collect 72 = .ok (.getfield 29, 3) := by decide +kernel
theorem dX0_collect_75 : decode cX0_collect 75 = .ok (.getfield 54, 3) := by decide +kernel
theorem dX0_collect_78 : decode cX0_collect 78 = .ok (.goto 17, 3) := by decide +kernel
theorem dX0_collect_81 : decode cX0_collect 81 = .ok (.aload_n 0, 1) := by decide +kernel
theorem dX0_collect_82 : decode cX0_collect 82 = .ok (.getfield 22, 3) := by decide +kernel
theorem dX0_collect_85 : decode cX0_collect 85 = .ok (.aload_n 0, 1) := by decide +kernel
theorem dX0_collect_86 : decode cX0_collect 86 = .ok (.getfield 29, 3) := by decide +kernel
theorem dX0_collect_89 : decode cX0_collect 89 = .ok (.getfield 54, 3) := by decide +kernel
theorem dX0_collect_92 : decode cX0_collect 92 = .ok (.invokestatic 57, 3) := by decide +kernel
theorem dX0_collect_95 : decode cX0_collect 95 = .ok (.putfield 22, 3) := by decide +kernel
theorem dX0_collect_98 : decode cX0_collect 98 = .ok (.aload_n 0, 1) := by decide +kernel
theorem dX0_collect_99 : decode cX0_collect 99 = .ok (.dup, 1) := by decide +kernel
theorem dX0_collect_100 : decode cX0_collect 100 = .ok (.getfield 15, 3) := by decide +kernel
theorem dX0_collect_103 : decode cX0_collect 103 = .ok (.iconst 1, 1) := by decide +kernel
theorem dX0_collect_104 : decode cX0_collect 104 = .ok (.iadd, 1) := by decide +kernel
theorem dX0_collect_105 : decode cX0_collect 105 = .ok (.putfield 15, 3) := by decide +kernel
theorem dX0_collect_108 : decode cX0_collect 108 = .ok (.iinc 1 1, 3) := by decide +kernel
theorem dX0_collect_111 : decode cX0_collect 111 = .ok (.goto (-92), 3) := by decide +kernel
theorem dX0_collect_114 : decode cX0_collect 114 = .ok (.aload_n 0, 1) := by decide +kernel
theorem dX0_collect_115 : decode cX0_collect 115 = .ok (.aload_n 0, 1) := by decide +kernel
theorem dX0_collect_116 : decode cX0_collect 116 = .ok (.getfield 29, 3) := by decide +kernel
theorem dX0_collect_119 : decode cX0_collect 119 = .ok (.getfield 63, 3) := by decide +kernel
theorem dX0_collect_122 : decode cX0_collect 122 = .ok (.putfield 19, 3) := by decide +kernel
theorem dX0_collect_125 : decode cX0_collect 125 = .ok (.aload_n 0, 1) := by decide +kernel
theorem dX0_collect_126 : decode cX0_collect 126 = .ok (.aload_n 0, 1) := by decide +kernel
theorem dX0_collect_127 : decode cX0_collect 127 = .ok (.getfield 29, 3) := by decide +kernel
theorem dX0_collect_130 : decode cX0_collect 130 = .ok (.getfield 64, 3) := by decide +kernel
theorem dX0_collect_133 : decode cX0_collect 133 = .ok (.ifCond .ne 7, 3) := by decide +kernel
theorem dX0_collect_136 : decode cX0_collect 136 = .ok (.iconst 1, 1) := by decide +kernel
theorem dX0_collect_137 : decode cX0_collect 137 = .ok (.goto 4, 3) := by decide +kernel
theorem dX0_collect_140 : decode cX0_collect 140 = .ok (.iconst 0, 1) := by decide +kernel
theorem dX0_collect_141 : decode cX0_collect 141 = .ok (.putfield 25, 3) := by decide +kernel
theorem dX0_collect_144 : decode cX0_collect 144 = .ok (.return_, 1) := by decide +kernel
theorem dX0_rowOf_0 : decode cX0_rowOf 0 = .ok (.iload_n 1, 1) := by decide +kernel
theorem dX0_rowOf_1 : decode cX0_rowOf 1 = .ok (.bipush 100, 2) := by decide +kernel
theorem dX0_rowOf_3 : decode cX0_rowOf 3 = .ok (.if_icmp .ge 5, 3) := by decide +kernel
theorem dX0_rowOf_6 : decode cX0_rowOf 6 = .ok (.iload_n 1, 1) := by decide +kernel
theorem dX0_rowOf_7 : decode cX0_rowOf 7 = .ok (.ireturn, 1) := by decide +kernel
theorem dX0_rowOf_8 : decode cX0_rowOf 8 = .ok (.aload_n 0, 1) := by decide +kernel
theorem dX0_rowOf_9 : decode cX0_rowOf 9 = .ok (.getfield 29, 3) := by decide +kernel
theorem dX0_rowOf_12 : decode cX0_rowOf 12 = .ok (.getfield 67, 3) := by decide +kernel
theorem dX0_rowOf_15 : decode cX0_rowOf 15 = .ok (.ifCond .ne 16, 3) := by decide +kernel
theorem dX0_rowOf_18 : decode cX0_rowOf 18 = .ok (.aload_n 0, 1) := by decide +kernel
theorem dX0_rowOf_19 : decode cX0_rowOf 19 = .ok (.getfield 29, 3) := by decide +kernel
theorem dX0_rowOf_22 : decode cX0_rowOf 22 = .ok (.getfield 70, 3) := by decide +kernel
theorem dX0_rowOf_25 : decode cX0_rowOf 25 = .ok (.iload_n 1, 1) := by decide +kernel
theorem dX0_rowOf_26 : decode cX0_rowOf 26 = .ok (.iconst 1, 1) := by decide +kernel
theorem dX0_rowOf_27 : decode cX0_rowOf 27 = .ok (.iadd, 1) := by decide +kernel
theorem dX0_rowOf_28 : decode cX0_rowOf 28 = .ok (.if_icmp .le 10, 3) := by decide +kernel
theorem dX0_rowOf_31 : decode cX0_rowOf 31 = .ok (.aload_n 0, 1) := by decide +kernel
theorem dX0_rowOf_32 : decode cX0_rowOf 32 = .ok (.getfield 29, 3) := by decide +kernel
theorem dX0_rowOf_35 : decode cX0_rowOf 35 = .ok (.invokevirtual 41, 3) := by decide +kernel
theorem dX0_rowOf_38 : decode cX0_rowOf 38 = .ok (.iconst 0, 1) := by decide +kernel
theorem dX0_rowOf_39 : decode cX0_rowOf 39 = .ok (.istore_n 3, 1) := by decide +kernel
theorem dX0_rowOf_40 : decode cX0_rowOf 40 = .ok (.iload_n 3, 1) := by decide +kernel
theorem dX0_rowOf_41 : decode cX0_rowOf 41 = .ok (.sipush 20000, 3) := by decide +kernel
theorem dX0_rowOf_44 : decode cX0_rowOf 44 = .ok (.if_icmp .gt 28, 3) := by decide +kernel
theorem dX0_rowOf_47 : decode cX0_rowOf 47 = .ok (.aload_n 0, 1) := by decide +kernel
theorem dX0_rowOf_48 : decode cX0_rowOf 48 = .ok (.getfield 29, 3) := by decide +kernel
theorem dX0_rowOf_51 : decode cX0_rowOf 51 = .ok (.getfield 70, 3) := by decide +kernel
theorem dX0_rowOf_54 : decode cX0_rowOf 54 = .ok (.iload_n 1, 1) := by decide +kernel
theorem dX0_rowOf_55 : decode cX0_rowOf 55 = .ok (.if_icmp .gt 17, 3) := by decide +kernel
theorem dX0_rowOf_58 : decode cX0_rowOf 58 = .ok (.aload_n 0, 1) := by decide +kernel
theorem dX0_rowOf_59 : decode cX0_rowOf 59 = .ok (.getfield 29, 3) := by decide +kernel
theorem dX0_rowOf_62 : decode cX0_rowOf 62 = .ok (.invokevirtual 46, 3) := by decide +kernel
theorem dX0_rowOf_65 : decode cX0_rowOf 65 = .ok (.pop, 1) := by decide +kernel
theorem dX0_rowOf_66 : decode cX0_rowOf 66 = .ok (.iinc 3 1, 3) := by decide +kernel
theorem dX0_rowOf_69 : decode cX0_rowOf 69 = .ok (.goto (-29), 3) := by decide +kernel
theorem dX0_rowOf_72 : decode cX0_rowOf 72 = .ok (.aload_n 0, 1) := by decide +kernel
theorem dX0_rowOf_73 : decode cX0_rowOf 73 = .ok (.getfield 29, 3) := by decide +kernel
theorem dX0_rowOf_76 : decode cX0_rowOf 76 = .ok (.aload_n 0, 1) := by decide +kernel
theorem dX0_rowOf_77 : decode cX0_rowOf 77 = .ok (.getfield 9, 3) := by decide +kernel
theorem dX0_rowOf_80 : decode cX0_rowOf 80 = .ok (.bipush 100, 2) := by decide +kernel
theorem dX0_rowOf_82 : decode cX0_rowOf 82 = .ok (.iload_n 2, 1) := by decide +kernel
theorem dX0_rowOf_83 : decode cX0_rowOf 83 = .ok (.iadd, 1) := by decide +kernel
theorem dX0_rowOf_84 : decode cX0_rowOf 84 = .ok (.bipush 36, 2) := by decide +kernel
theorem dX0_rowOf_86 : decode cX0_rowOf 86 = .ok (.imul, 1) := by decide +kernel
theorem dX0_rowOf_87 : decode cX0_rowOf 87 = .ok (.invokevirtual 50, 3) := by decide +kernel
theorem dX0_rowOf_90 : decode cX0_rowOf 90 = .ok (.bipush 100, 2) := by decide +kernel
theorem dX0_rowOf_92 : decode cX0_rowOf 92 = .ok (.iload_n 2, 1) := by decide +kernel
theorem dX0_rowOf_93 : decode cX0_rowOf 93 = .ok (.iadd, 1) := by decide +kernel
theorem dX0_rowOf_94 : decode cX0_rowOf 94 = .ok (.ireturn, 1) := by decide +kernel
theorem dX0_placementAt_0 : decode cX0_placementAt 0 = .ok (.aload_n 0, 1) := by decide +kernel
theorem dX0_placementAt_1 : decode cX0_placementAt 1 = .ok (.getfield 9, 3) := by decide +kernel
theorem dX0_placementAt_4 : decode cX0_placementAt 4 = .ok (.iload_n 1, 1) := by decide +kernel
theorem dX0_placementAt_5 : decode cX0_placementAt 5 = .ok (.bipush 36, 2) := by decide +kernel
theorem dX0_placementAt_7 : decode cX0_placementAt 7 = .ok (.imul, 1) := by decide +kernel
theorem dX0_placementAt_8 : decode cX0_placementAt 8 = .ok (.iload_n 2, 1) := by decide +kernel
theorem dX0_placementAt_9 : decode cX0_placementAt 9 = .ok (.iadd, 1) := by decide +kernel
theorem dX0_placementAt_10 : decode cX0_placementAt 10 = .ok (.invokestatic 73, 3) := by decide +kernel
theorem dX0_placementAt_13 : decode cX0_placementAt 13 = .ok (.ireturn, 1) := by decide +kernel
theorem dX0_beginsAt_0 : decode cX0_beginsAt 0 = .ok (.iload_n 1, 1) := by decide +kernel
theorem dX0_beginsAt_1 : decode cX0_beginsAt 1 = .ok (.iconst (-1), 1) := by decide +kernel
theorem dX0_beginsAt_2 : decode cX0_beginsAt 2 = .ok (.if_icmp .eq 22, 3) := by decide +kernel
theorem dX0_beginsAt_5 : decode cX0_beginsAt 5 = .ok (.aload_n 0, 1) := by decide +kernel
theorem dX0_beginsAt_6 : decode cX0_beginsAt 6 = .ok (.getfield 33, 3) := by decide +kernel
theorem dX0_beginsAt_9 : decode cX0_beginsAt 9 = .ok (.iload_n 1, 1) := by decide +kernel
theorem dX0_beginsAt_10 : decode cX0_beginsAt 10 = .ok (.invokevirtual 77, 3) := by decide +kernel
theorem dX0_beginsAt_13 : decode cX0_beginsAt 13 = .ok (.invokestatic 83, 3) := by decide +kernel
theorem dX0_beginsAt_16 : decode cX0_beginsAt 16 = .ok (.iload_n 2, 1) := by decide +kernel
theorem dX0_beginsAt_17 : decode cX0_beginsAt 17 = .ok (.if_icmp .ne 7, 3) := by decide +kernel
theorem dX0_beginsAt_20 : decode cX0_beginsAt 20 = .ok (.iconst 1, 1) := by decide +kernel
theorem dX0_beginsAt_21 : decode cX0_beginsAt 21 = .ok (.goto 4, 3) := by decide +kernel
theorem dX0_beginsAt_24 : decode cX0_beginsAt 24 = .ok (.iconst 0, 1) := by decide +kernel
theorem dX0_beginsAt_25 : decode cX0_beginsAt 25 = .ok (.ireturn, 1) := by decide +kernel
theorem dX0_usesOf_0 : decode cX0_usesOf 0 = .ok (.iconst 0, 1) := by decide +kernel
theorem dX0_usesOf_1 : decode cX0_usesOf 1 = .ok (.istore_n 3, 1) := by decide +kernel
theorem dX0_usesOf_2 : decode cX0_usesOf 2 = .ok (.iconst 0, 1) := by decide +kernel
theorem dX0_usesOf_3 : decode cX0_usesOf 3 = .ok (.istore 4, 2) := by decide +kernel
theorem dX0_usesOf_5 : decode cX0_usesOf 5 = .ok (.iload 4, 2) := by decide +kernel
theorem dX0_usesOf_7 : decode cX0_usesOf 7 = .ok (.bipush 36, 2) := by decide +kernel
theorem dX0_usesOf_9 : decode cX0_usesOf 9 = .ok (.if_icmp .ge 45, 3) := by decide +kernel
theorem dX0_usesOf_12 : decode cX0_usesOf 12 = .ok (.aload_n 0, 1) := by decide +kernel
theorem dX0_usesOf_13 : decode cX0_usesOf 13 = .ok (.iload_n 2, 1) := by decide +kernel
theorem dX0_usesOf_14 : decode cX0_usesOf 14 = .ok (.iload 4, 2) := by decide +kernel
theorem dX0_usesOf_16 : decode cX0_usesOf 16 = .ok (.invokevirtual 87, 3) := by decide +kernel
theorem dX0_usesOf_19 : decode cX0_usesOf 19 = .ok (.istore 5, 2) := by decide +kernel
theorem dX0_usesOf_21 : decode cX0_usesOf 21 = .ok (.aload_n 0, 1) := by decide +kernel
theorem dX0_usesOf_22 : decode cX0_usesOf 22 = .ok (.iload 5, 2) := by decide +kernel
theorem dX0_usesOf_24 : decode cX0_usesOf 24 = .ok (.iload 4, 2) := by decide +kernel
theorem dX0_usesOf_26 : decode cX0_usesOf 26 = .ok (.invokevirtual 90, 3) := by decide +kernel
theorem dX0_usesOf_29 : decode cX0_usesOf 29 = .ok (.ifCond .eq 19, 3) := by decide +kernel
theorem dX0_usesOf_32 : decode cX0_usesOf 32 = .ok (.aload_n 0, 1) := by decide +kernel
theorem dX0_usesOf_33 : decode cX0_usesOf 33 = .ok (.getfield 33, 3) := by decide +kernel
theorem dX0_usesOf_36 : decode cX0_usesOf 36 = .ok (.iload 5, 2) := by decide +kernel
theorem dX0_usesOf_38 : decode cX0_usesOf 38 = .ok (.invokevirtual 94, 3) := by decide +kernel
theorem dX0_usesOf_41 : decode cX0_usesOf 41 = .ok (.iload_n 1, 1) := by decide +kernel
theorem dX0_usesOf_42 : decode cX0_usesOf 42 = .ok (.if_icmp .ne 6, 3) := by decide +kernel
theorem dX0_usesOf_45 : decode cX0_usesOf 45 = .ok (.iinc 3 1, 3) := by decide +kernel
theorem dX0_usesOf_48 : decode cX0_usesOf 48 = .ok (.iinc 4 1, 3) := by decide +kernel
theorem dX0_usesOf_51 : decode cX0_usesOf 51 = .ok (.goto (-46), 3) := by decide +kernel
theorem dX0_usesOf_54 : decode cX0_usesOf 54 = .ok (.iload_n 3, 1) := by decide +kernel
theorem dX0_usesOf_55 : decode cX0_usesOf 55 = .ok (.ireturn, 1) := by decide +kernel
theorem dX0_classCount_0 : decode cX0_classCount 0 = .ok (.iconst 0, 1) := by decide +kernel
theorem dX0_classCount_1 : decode cX0_classCount 1 = .ok (.istore_n 1, 1) := by decide +kernel
theorem dX0_classCount_2 : decode cX0_classCount 2 = .ok (.iconst 0, 1) := by decide +kernel
theorem dX0_classCount_3 : decode cX0_classCount 3 = .ok (.istore_n 2, 1) := by decide +kernel
theorem dX0_classCount_4 : decode cX0_classCount 4 = .ok (.iload_n 2, 1) := by decide +kernel
theorem dX0_classCount_5 : decode cX0_classCount 5 = .ok (.aload_n 0, 1) := by decide +kernel
theorem dX0_classCount_6 : decode cX0_classCount 6 = .ok (.getfield 15, 3) := by decide +kernel
theorem dX0_classCount_9 : decode cX0_classCount 9 = .ok (.if_icmp .ge 26, 3) := by decide +kernel
theorem dX0_classCount_12 : decode cX0_classCount 12 = .ok (.iload_n 2, 1) := by decide +kernel
theorem dX0_classCount_13 : decode cX0_classCount 13 = .ok (.bipush 100, 2) := by decide +kernel
theorem dX0_classCount_15 : decode cX0_classCount 15 = .ok (.if_icmp .ge 20, 3) := by decide +kernel
theorem dX0_classCount_18 : decode cX0_classCount 18 = .ok (.aload_n 0, 1) := by decide +kernel
theorem dX0_classCount_19 : decode cX0_classCount 19 = .ok (.iload_n 2, 1) := by decide +kernel
theorem dX0_classCount_20 : decode cX0_classCount 20 = .ok (.invokevirtual 98, 3) := by decide +kernel
theorem dX0_classCount_23 : decode cX0_classCount 23 = .ok (.ifCond .ne 6, 3) := by decide +kernel
theorem dX0_classCount_26 : decode cX0_classCount 26 = .ok (.iinc 1 1, 3) := by decide +kernel
theorem dX0_classCount_29 : decode cX0_classCount 29 = .ok (.iinc 2 1, 3) := by decide +kernel
theorem dX0_classCount_32 : decode cX0_classCount 32 = .ok (.goto (-28), 3) := by decide +kernel
theorem dX0_classCount_35 : decode cX0_classCount 35 = .ok (.iload_n 1, 1) := by decide +kernel
theorem dX0_classCount_36 : decode cX0_classCount 36 = .ok (.ireturn, 1) := by decide +kernel
theorem dX0_isLikeEarlier_0 : decode cX0_isLikeEarlier 0 = .ok (.iconst 0, 1) := by decide +kernel
theorem dX0_isLikeEarlier_1 : decode cX0_isLikeEarlier 1 = .ok (.istore_n 2, 1) := by decide +kernel
theorem dX0_isLikeEarlier_2 : decode cX0_isLikeEarlier 2 = .ok (.iload_n 2, 1) := by decide +kernel
theorem dX0_isLikeEarlier_3 : decode cX0_isLikeEarlier 3 = .ok (.iload_n 1, 1) := by decide +kernel
theorem dX0_isLikeEarlier_4 : decode cX0_isLikeEarlier 4 = .ok (.if_icmp .ge 20, 3) := by decide +kernel
theorem dX0_isLikeEarlier_7 : decode cX0_isLikeEarlier 7 = .ok (.aload_n 0, 1) := by decide +kernel
theorem dX0_isLikeEarlier_8 : decode cX0_isLikeEarlier 8 = .ok (.iload_n 2, 1) := by decide +kernel
theorem dX0_isLikeEarlier_9 : decode cX0_isLikeEarlier 9 = .ok (.iload_n 1, 1) := by decide +kernel
theorem dX0_isLikeEarlier_10 : decode cX0_isLikeEarlier 10 = .ok (.invokevirtual 102, 3) := by decide +kernel
theorem dX0_isLikeEarlier_13 : decode cX0_isLikeEarlier 13 = .ok (.ifCond .eq 5, 3) := by decide +kernel
theorem dX0_isLikeEarlier_16 : decode cX0_isLikeEarlier 16 = .ok (.iconst 1, 1) := by decide +kernel
theorem dX0_isLikeEarlier_17 : decode cX0_isLikeEarlier 17 = .ok (.ireturn, 1) := by decide +kernel
theorem dX0_isLikeEarlier_18 : decode cX0_isLikeEarlier 18 = .ok (.iinc 2 1, 3) := by decide +kernel
theorem dX0_isLikeEarlier_21 : decode cX0_isLikeEarlier 21 = .ok (.goto (-19), 3) := by decide +kernel
theorem dX0_isLikeEarlier_24 : decode cX0_isLikeEarlier 24 = .ok (.iconst 0, 1) := by decide +kernel
theorem dX0_isLikeEarlier_25 : decode cX0_isLikeEarlier 25 = .ok (.ireturn, 1) := by decide +kernel
theorem dX0_areAlike_0 : decode cX0_areAlike 0 = .ok (.iconst 0, 1) := by decide +kernel
theorem dX0_areAlike_1 : decode cX0_areAlike 1 = .ok (.istore_n 3, 1) := by decide +kernel
theorem dX0_areAlike_2 : decode cX0_areAlike 2 = .ok (.iload_n 3, 1) := by decide +kernel
theorem dX0_areAlike_3 : decode cX0_areAlike 3 = .ok (.aload_n 0, 1) := by decide +kernel
theorem dX0_areAlike_4 : decode cX0_areAlike 4 = .ok (.getfield 37, 3) := by decide +kernel
theorem dX0_areAlike_7 : decode cX0_areAlike 7 = .ok (.getfield 105, 3) := by decide +kernel
theorem dX0_areAlike_10 : decode cX0_areAlike 10 = .ok (.if_icmp .ge 21, 3) := by decide +kernel
theorem dX0_areAlike_13 : decode cX0_areAlike 13 = .ok (.aload_n 0, 1) := by decide +kernel
theorem dX0_areAlike_14 : decode cX0_areAlike 14 = .ok (.iload_n 3, 1) := by decide +kernel
theorem dX0_areAlike_15 : decode cX0_areAlike 15 = .ok (.iload_n 1, 1) := by decide +kernel
theorem dX0_areAlike_16 : decode cX0_areAlike 16 = .ok (.iload_n 2, 1) := by decide +kernel
theorem dX0_areAlike_17 : decode cX0_areAlike 17 = .ok (.invokevirtual 108, 3) := by decide +kernel
theorem dX0_areAlike_20 : decode cX0_areAlike 20 = .ok (.ifCond .eq 5, 3) := by decide +kernel
theorem dX0_areAlike_23 : decode cX0_areAlike 23 = .ok (.iconst 1, 1) := by decide +kernel
theorem dX0_areAlike_24 : decode cX0_areAlike 24 = .ok (.ireturn, 1) := by decide +kernel
theorem dX0_areAlike_25 : decode cX0_areAlike 25 = .ok (.iinc 3 1, 3) := by decide +kernel
theorem dX0_areAlike_28 : decode cX0_areAlike 28 = .ok (.goto (-26), 3) := by decide +kernel
theorem dX0_areAlike_31 : decode cX0_areAlike 31 = .ok (.iconst 0, 1) := by decide +kernel
theorem dX0_areAlike_32 : decode cX0_areAlike 32 = .ok (.ireturn, 1) := by decide +kernel
theorem dX0_isMapped_0 : decode cX0_isMapped 0 = .ok (.iconst 0, 1) := by decide +kernel
theorem dX0_isMapped_1 : decode cX0_isMapped 1 = .ok (.istore 4, 2) := by decide +kernel
theorem dX0_isMapped_3 : decode cX0_isMapped 3 = .ok (.iload 4, 2) := by decide +kernel
theorem dX0_isMapped_5 : decode cX0_isMapped 5 = .ok (.bipush 36, 2) := by decide +kernel
theorem dX0_isMapped_7 : decode cX0_isMapped 7 = .ok (.if_icmp .ge 98, 3) := by decide +kernel
theorem dX0_isMapped_10 : decode cX0_isMapped 10 = .ok (.aload_n 0, 1) := by decide +kernel
theorem dX0_isMapped_11 : decode cX0_isMapped 11 = .ok (.iload_n 2, 1) := by decide +kernel
theorem dX0_isMapped_12 : decode cX0_isMapped 12 = .ok (.iload 4, 2) := by decide +kernel
theorem dX0_isMapped_14 : decode cX0_isMapped 14 = .ok (.invokevirtual 87, 3) := by decide +kernel
theorem dX0_isMapped_17 : decode cX0_isMapped 17 = .ok (.istore 5, 2) := by decide +kernel
theorem dX0_isMapped_19 : decode cX0_isMapped 19 = .ok (.iload 5, 2) := by decide +kernel
theorem dX0_isMapped_21 : decode cX0_isMapped 21 = .ok (.iconst (-1), 1) := by decide +kernel
theorem dX0_isMapped_22 : decode cX0_isMapped 22 = .ok (.if_icmp .eq 77, 3) := by decide +kernel
theorem dX0_isMapped_25 : decode cX0_isMapped 25 = .ok (.aload_n 0, 1) := by decide +kernel
theorem dX0_isMapped_26 : decode cX0_isMapped 26 = .ok (.getfield 33, 3) := by decide +kernel
theorem dX0_isMapped_29 : decode cX0_isMapped 29 = .ok (.iload 5, 2) := by decide +kernel
theorem dX0_isMapped_31 : decode cX0_isMapped 31 = .ok (.invokevirtual 77, 3) := by decide +kernel
theorem dX0_isMapped_34 : decode cX0_isMapped 34 = .ok (.invokestatic 83, 3) := by decide +kernel
theorem dX0_isMapped_37 : decode cX0_isMapped 37 = .ok (.istore 6, 2) := by decide +kernel
theorem dX0_isMapped_39 : decode cX0_isMapped 39 = .ok (.aload_n 0, 1) := by decide +kernel
theorem dX0_isMapped_40 : decode cX0_isMapped 40 = .ok (.iload_n 3, 1) := by decide +kernel
theorem dX0_isMapped_41 : decode cX0_isMapped 41 = .ok (.aload_n 0, 1) := by decide +kernel
theorem dX0_isMapped_42 : decode cX0_isMapped 42 = .ok (.getfield 37, 3) := by decide +kernel
theorem dX0_isMapped_45 : decode cX0_isMapped 45 = .ok (.iload_n 1, 1) := by decide +kernel
theorem dX0_isMapped_46 : decode cX0_isMapped 46 = .ok (.iload 6, 2) := by decide +kernel
theorem dX0_isMapped_48 : decode cX0_isMapped 48 = .ok (.invokevirtual 112, 3) := by decide +kernel
theorem dX0_isMapped_51 : decode cX0_isMapped 51 = .ok (.invokevirtual 87, 3) := by decide +kernel
theorem dX0_isMapped_54 : decode cX0_isMapped 54 = .ok (.istore 7, 2) := by decide +kernel
theorem dX0_isMapped_56 : decode cX0_isMapped 56 = .ok (.iload 7, 2) := by decide +kernel
theorem dX0_isMapped_58 : decode cX0_isMapped 58 = .ok (.aload_n 0, 1) := by decide +kernel
theorem dX0_isMapped_59 : decode cX0_isMapped 59 = .ok (.iload_n 3, 1) := by decide +kernel
theorem dX0_isMapped_60 : decode cX0_isMapped 60 = .ok (.aload_n 0, 1) := by decide +kernel
theorem dX0_isMapped_61 : decode cX0_isMapped 61 = .ok (.getfield 37, 3) := by decide +kernel
theorem dX0_isMapped_64 : decode cX0_isMapped 64 = .ok (.iload_n 1, 1) := by decide +kernel
theorem dX0_isMapped_65 : decode cX0_isMapped 65 = .ok (.iload 4, 2) := by decide +kernel
theorem dX0_isMapped_67 : decode cX0_isMapped 67 = .ok (.invokevirtual 112, 3) := by decide +kernel
theorem dX0_isMapped_70 : decode cX0_isMapped 70 = .ok (.invokevirtual 87, 3) := by decide +kernel
theorem dX0_isMapped_73 : decode cX0_isMapped 73 = .ok (.if_icmp .ne 24, 3) := by decide +kernel
theorem dX0_isMapped_76 : decode cX0_isMapped 76 = .ok (.aload_n 0, 1) := by decide +kernel
theorem dX0_isMapped_77 : decode cX0_isMapped 77 = .ok (.getfield 33, 3) := by decide +kernel
theorem dX0_isMapped_80 : decode cX0_isMapped 80 = .ok (.iload 7, 2) := by decide +kernel
theorem dX0_isMapped_82 : decode cX0_isMapped 82 = .ok (.invokevirtual 94, 3) := by decide +kernel
theorem dX0_isMapped_85 : decode cX0_isMapped 85 = .ok (.aload_n 0, 1) := by decide +kernel
theorem dX0_isMapped_86 : decode cX0_isMapped 86 = .ok (.getfield 33, 3) := by decide +kernel
theorem dX0_isMapped_89 : decode cX0_isMapped 89 = .ok (.iload 5, 2) := by decide +kernel
theorem dX0_isMapped_91 : decode cX0_isMapped 91 = .ok (.invokevirtual 94, 3) := by decide +kernel
theorem dX0_isMapped_94 : decode cX0_isMapped 94 = .ok (.if_icmp .eq 5, 3) := by decide +kernel
theorem dX0_isMapped_97 : decode cX0_isMapped 97 = .ok (.iconst 0, 1) := by decide +kernel
theorem dX0_isMapped_98 : decode cX0_isMapped 98 = .ok (.ireturn, 1) := by decide +kernel
theorem dX0_isMapped_99 : decode cX0_isMapped 99 = .ok (.iinc 4 1, 3) := by decide +kernel
theorem dX0_isMapped_102 : decode cX0_isMapped 102 = .ok (.goto (-99), 3) := by decide +kernel
theorem dX0_isMapped_105 : decode cX0_isMapped 105 = .ok (.iconst 1, 1) := by decide +kernel
theorem dX0_isMapped_106 : decode cX0_isMapped 106 = .ok (.ireturn, 1) := by decide +kernel
theorem dX1_init_0 : decode cX1_init 0 = .ok (.aload_n 0, 1) := by decide +kernel
theorem dX1_init_1 : decode cX1_init 1 = .ok (.invokespecial 3, 3) := by decide +kernel
theorem dX1_init_4 : decode cX1_init 4 = .ok (.aload_n 0, 1) := by decide +kernel
theorem dX1_init_5 : decode cX1_init 5 = .ok (.bipush 64, 2) := by decide +kernel
theorem dX1_init_7 : decode cX1_init 7 = .ok (.newarray .int, 2) := by decide +kernel
theorem dX1_init_9 : decode cX1_init 9 = .ok (.putfield 9, 3) := by decide +kernel
theorem dX1_init_12 : decode cX1_init 12 = .ok (.aload_n 0, 1) := by decide +kernel
theorem dX1_init_13 : decode cX1_init 13 = .ok (.bipush 8, 2) := by decide +kernel
theorem dX1_init_15 : decode cX1_init 15 = .ok (.newarray .int, 2) := by decide +kernel
theorem dX1_init_17 : decode cX1_init 17 = .ok (.putfield 15, 3) := by decide +kernel
theorem dX1_init_20 : decode cX1_init 20 = .ok (.return_, 1) := by decide +kernel
theorem dX1_fill_0 : decode cX1_fill 0 = .ok (.iconst 0, 1) := by decide +kernel
theorem dX1_fill_1 : decode cX1_fill 1 = .ok (.istore_n 2, 1) := by decide +kernel
theorem dX1_fill_2 : decode cX1_fill 2 = .ok (.iload_n 2, 1) := by decide +kernel
theorem dX1_fill_3 : decode cX1_fill 3 = .ok (.bipush 8, 2) := by decide +kernel
theorem dX1_fill_5 : decode cX1_fill 5 = .ok (.if_icmp .ge 76, 3) := by decide +kernel
theorem dX1_fill_8 : decode cX1_fill 8 = .ok (.aload_n 0, 1) := by decide +kernel
theorem dX1_fill_9 : decode cX1_fill 9 = .ok (.getfield 15, 3) := by decide +kernel
theorem dX1_fill_12 : decode cX1_fill 12 = .ok (.iload_n 2, 1) := by decide +kernel
theorem dX1_fill_13 : decode cX1_fill 13 = .ok (.iconst 0, 1) := by decide +kernel
theorem dX1_fill_14 : decode cX1_fill 14 = .ok (.invokestatic 18, 3) := by decide +kernel
theorem dX1_fill_17 : decode cX1_fill 17 = .ok (.aload_n 1, 1) := by decide +kernel
theorem dX1_fill_18 : decode cX1_fill 18 = .ok (.iload_n 2, 1) := by decide +kernel
theorem dX1_fill_19 : decode cX1_fill 19 = .ok (.invokevirtual 22, 3) := by decide +kernel
theorem dX1_fill_22 : decode cX1_fill 22 = .ok (.ifCond .eq 53, 3) := by decide +kernel
theorem dX1_fill_25 : decode cX1_fill 25 = .ok (.aload_n 1, 1) := by decide +kernel
theorem dX1_fill_26 : decode cX1_fill 26 = .ok (.iload_n 2, 1) := by decide +kernel
theorem dX1_fill_27 : decode cX1_fill 27 = .ok (.invokevirtual 28, 3) := by decide +kernel
theorem dX1_fill_30 : decode cX1_fill 30 = .ok (.istore_n 3, 1) := by decide +kernel
theorem dX1_fill_31 : decode cX1_fill 31 = .ok (.aload_n 1, 1) := by decide +kernel
theorem dX1_fill_32 : decode cX1_fill 32 = .ok (.iload_n 2, 1) := by decide +kernel
theorem dX1_fill_33 : decode cX1_fill 33 = .ok (.invokevirtual 32, 3) := by decide +kernel
theorem dX1_fill_36 : decode cX1_fill 36 = .ok (.istore 4, 2) := by decide +kernel
theorem dX1_fill_38 : decode cX1_fill 38 = .ok (.aload_n 0, 1) := by decide +kernel
theorem dX1_fill_39 : decode cX1_fill 39 = .ok (.iload_n 2, 1) := by decide +kernel
theorem dX1_fill_40 : decode cX1_fill 40 = .ok (.iload_n 3, 1) := by decide +kernel
theorem dX1_fill_41 : decode cX1_fill 41 = .ok (.iload 4, 2) := by decide +kernel
theorem dX1_fill_43 : decode cX1_fill 43 = .ok (.iconst 1, 1) := by decide +kernel
theorem dX1_fill_44 : decode cX1_fill 44 = .ok (.if_icmp .lt 7, 3) := by decide +kernel
theorem dX1_fill_47 : decode cX1_fill 47 = .ok (.iconst 4, 1) := by decide +kernel
theorem dX1_fill_48 : decode cX1_fill 48 = .ok (.goto 4, 3) := by decide +kernel
theorem dX1_fill_51 : decode cX1_fill 51 = .ok (.iconst 1, 1) := by decide +kernel
theorem dX1_fill_52 : decode cX1_fill 52 = .ok (.invokevirtual 35, 3) := by decide +kernel
theorem dX1_fill_55 : decode cX1_fill 55 = .ok (.aload_n 0, 1) := by decide +kernel
theorem dX1_fill_56 : decode cX1_fill 56 = .ok (.iload_n 2, 1) := by decide +kernel
theorem dX1_fill_57 : decode cX1_fill 57 = .ok (.iload_n 3, 1) := by decide +kernel
theorem dX1_fill_58 : decode cX1_fill 58 = .ok (.invokestatic 39, 3) := by decide +kernel
theorem dX1_fill_61 : decode cX1_fill 61 = .ok (.iload 4, 2) := by decide +kernel
theorem dX1_fill_63 : decode cX1_fill 63 = .ok (.iconst 2, 1) := by decide +kernel
theorem dX1_fill_64 : decode cX1_fill 64 = .ok (.if_icmp .ne 7, 3) := by decide +kernel
theorem dX1_fill_67 : decode cX1_fill 67 = .ok (.iconst 4, 1) := by decide +kernel
theorem dX1_fill_68 : decode cX1_fill 68 = .ok (.goto 4, 3) := by decide +kernel
theorem dX1_fill_71 : decode cX1_fill 71 = .ok (.iconst 0, 1) := by decide +kernel
theorem dX1_fill_72 : decode cX1_fill 72 = .ok (.invokevirtual 35, 3) := by decide +kernel
theorem dX1_fill_75 : decode cX1_fill 75 = .ok (.iinc 2 1, 3) := by decide +kernel
theorem dX1_fill_78 : decode cX1_fill 78 = .ok (.goto (-76), 3) := by decide +kernel
theorem dX1_fill_81 : decode cX1_fill 81 = .ok (.return_, 1) := by decide +kernel
theorem dX1_insertTurns_0 : decode cX1_insertTurns 0 = .ok (.iload_n 2, 1) := by decide +kernel
theorem dX1_insertTurns_1 : decode cX1_insertTurns 1 = .ok (.istore 4, 2) := by decide +kernel
theorem dX1_insertTurns_3 : decode cX1_insertTurns 3 = .ok (.iconst 0, 1) := by decide +kernel
theorem dX1_insertTurns_4 : decode cX1_insertTurns 4 = .ok (.istore 5, 2) := by decide +kernel
theorem dX1_insertTurns_6 : decode cX1_insertTurns 6 = .ok (.iload 5, 2) := by decide +kernel
theorem dX1_insertTurns_8 : decode cX1_insertTurns 8 = .ok (.iload_n 3, 1) := by decide +kernel
theorem dX1_insertTurns_9 : decode cX1_insertTurns 9 = .ok (.if_icmp .ge 23, 3) := by decide +kernel
theorem dX1_insertTurns_12 : decode cX1_insertTurns 12 = .ok (.aload_n 0, 1) := by decide +kernel
theorem dX1_insertTurns_13 : decode cX1_insertTurns 13 = .ok (.iload_n 1, 1) := by decide +kernel
theorem dX1_insertTurns_14 : decode cX1_insertTurns 14 = .ok (.iload 4, 2) := by decide +kernel
theorem dX1_insertTurns_16 : decode cX1_insertTurns 16 = .ok (.invokevirtual 44, 3) := by decide +kernel
theorem dX1_insertTurns_19 : decode cX1_insertTurns 19 = .ok (.iload 4, 2) := by decide +kernel
theorem dX1_insertTurns_21 : decode cX1_insertTurns 21 = .ok (.invokestatic 48, 3) := by decide +kernel
theorem dX1_insertTurns_24 : decode cX1_insertTurns 24 = .ok (.istore 4, 2) := by decide +kernel
theorem dX1_insertTurns_26 : decode cX1_insertTurns 26 = .ok (.iinc 5 1, 3) := by decide +kernel
theorem dX1_insertTurns_29 : decode cX1_insertTurns 29 = .ok (.goto (-23), 3) := by decide +kernel
theorem dX1_insertTurns_32 : decode cX1_insertTurns 32 = .ok (.return_, 1) := by decide +kernel
theorem dX1_insert_0 : decode cX1_insert 0 = .ok (.aload_n 0, 1) := by decide +kernel
theorem dX1_insert_1 : decode cX1_insert 1 = .ok (.iload_n 1, 1) := by decide +kernel
theorem dX1_insert_2 : decode cX1_insert 2 = .ok (.invokevirtual 51, 3) := by decide +kernel
theorem dX1_insert_5 : decode cX1_insert 5 = .ok (.istore_n 3, 1) := by decide +kernel
theorem dX1_insert_6 : decode cX1_insert 6 = .ok (.iconst 0, 1) := by decide +kernel
theorem dX1_insert_7 : decode cX1_insert 7 = .ok (.istore 4, 2) := by decide +kernel
theorem dX1_insert_9 : decode cX1_insert 9 = .ok (.iload 4, 2) := by decide +kernel
theorem dX1_insert_11 : decode cX1_insert 11 = .ok (.iload_n 3, 1) := by decide +kernel
theorem dX1_insert_12 : decode cX1_insert 12 = .ok (.if_icmp .ge 21, 3) := by decide +kernel
theorem dX1_insert_15 : decode cX1_insert 15 = .ok (.aload_n 0, 1) := by decide +kernel
theorem dX1_insert_16 : decode cX1_insert 16 = .ok (.iload_n 1, 1) := by decide +kernel
theorem dX1_insert_17 : decode cX1_insert 17 = .ok (.iload 4, 2) := by decide +kernel
theorem dX1_insert_19 : decode cX1_insert 19 = .ok (.invokevirtual 54, 3) := by decide +kernel
theorem dX1_insert_22 : decode cX1_insert 22 = .ok (.iload_n 2, 1) := by decide +kernel
theorem dX1_insert_23 : decode cX1_insert 23 = .ok (.if_icmp .ne 4, 3) := by decide +kernel
theorem dX1_insert_26 : decode cX1_insert 26 = .ok (.return_, 1) := by decide +kernel
theorem dX1_insert_27 : decode cX1_insert 27 = .ok (.iinc 4 1, 3) := by decide +kernel
theorem dX1_insert_30 : decode cX1_insert 30 = .ok (.goto (-21), 3) := by decide +kernel
theorem dX1_insert_33 : decode cX1_insert 33 = .ok (.iload_n 3, 1) := by decide +kernel
theorem dX1_insert_34 : decode cX1_insert 34 = .ok (.bipush 8, 2) := by decide +kernel
theorem dX1_insert_36 : decode cX1_insert 36 = .ok (.if_icmp .lt 4, 3) := by decide +kernel
theorem dX1_insert_39 : decode cX1_insert 39 = .ok (.return_, 1) := by decide +kernel
theorem dX1_insert_40 : decode cX1_insert 40 = .ok (.iload_n 3, 1) := by decide +kernel
theorem dX1_insert_41 : decode cX1_insert 41 = .ok (.istore 4, 2) := by decide +kernel
theorem dX1_insert_43 : decode cX1_insert 43 = .ok (.iload 4, 2) := by decide +kernel
theorem dX1_insert_45 : decode cX1_insert 45 = .ok (.ifCond .le 45, 3) := by decide +kernel
theorem dX1_insert_48 : decode cX1_insert 48 = .ok (.aload_n 0, 1) := by decide +kernel
theorem dX1_insert_49 : decode cX1_insert 49 = .ok (.iload_n 1, 1) := by decide +kernel
theorem dX1_insert_50 : decode cX1_insert 50 = .ok (.iload 4, 2) := by decide +kernel
theorem dX1_insert_52 : decode cX1_insert 52 = .ok (.iconst 1, 1) := by decide +kernel
theorem dX1_insert_53 : decode cX1_insert 53 = .ok (.isub, 1) := by decide +kernel
theorem dX1_insert_54 : decode cX1_insert 54 = .ok (.invokevirtual 54, 3) := by decide +kernel
theorem dX1_insert_57 : decode cX1_insert 57 = .ok (.iload_n 2, 1) := by decide +kernel
theorem dX1_insert_58 : decode cX1_insert 58 = .ok (.if_icmp .le 32, 3) := by decide +kernel
theorem dX1_insert_61 : decode cX1_insert 61 = .ok (.aload_n 0, 1) := by decide +kernel
theorem dX1_insert_62 : decode cX1_insert 62 = .ok (.getfield 9, 3) := by decide +kernel
theorem dX1_insert_65 : decode cX1_insert 65 = .ok (.iload_n 1, 1) := by decide +kernel
theorem dX1_insert_66 : decode cX1_insert 66 = .ok (.bipush 8, 2) := by decide +kernel
theorem dX1_insert_68 : decode cX1_insert 68 = .ok (.imul, 1) := by decide +kernel
theorem dX1_insert_69 : decode cX1_insert 69 = .ok (.iload 4, 2) := by decide +kernel
theorem dX1_insert_71 : decode cX1_insert 71 = .ok (.iadd, 1) := by decide +kernel
theorem dX1_insert_72 : decode cX1_insert 72 = .ok (.aload_n 0, 1) := by decide +kernel
theorem dX1_insert_73 : decode cX1_insert 73 = .ok (.iload_n 1, 1) := by decide +kernel
theorem dX1_insert_74 : decode cX1_insert 74 = .ok (.iload 4, 2) := by decide +kernel
theorem dX1_insert_76 : decode cX1_insert 76 = .ok (.iconst 1, 1) := by decide +kernel
theorem dX1_insert_77 : decode cX1_insert 77 = .ok (.isub, 1) := by decide +kernel
theorem dX1_insert_78 : decode cX1_insert 78 = .ok (.invokevirtual 54, 3) := by decide +kernel
theorem dX1_insert_81 : decode cX1_insert 81 = .ok (.invokestatic 18, 3) := by decide +kernel
theorem dX1_insert_84 : decode cX1_insert 84 = .ok (.iinc 4 (-1), 3) := by decide +kernel
theorem dX1_insert_87 : decode cX1_insert 87 = .ok (.goto (-44), 3) := by decide +kernel
theorem dX1_insert_90 : decode cX1_insert 90 = .ok (.aload_n 0, 1) := by decide +kernel
theorem dX1_insert_91 : decode cX1_insert 91 = .ok (.getfield 9, 3) := by decide +kernel
theorem dX1_insert_94 : decode cX1_insert 94 = .ok (.iload_n 1, 1) := by decide +kernel
theorem dX1_insert_95 : decode cX1_insert 95 = .ok (.bipush 8, 2) := by decide +kernel
theorem dX1_insert_97 : decode cX1_insert 97 = .ok (.imul, 1) := by decide +kernel
theorem dX1_insert_98 : decode cX1_insert 98 = .ok (.iload 4, 2) := by decide +kernel
theorem dX1_insert_100 : decode cX1_insert 100 = .ok (.iadd, 1) := by decide +kernel
theorem dX1_insert_101 : decode cX1_insert 101 = .ok (.iload_n 2, 1) := by decide +kernel
theorem dX1_insert_102 : decode cX1_insert 102 = .ok (.invokestatic 18, 3) := by decide +kernel
theorem dX1_insert_105 : decode cX1_insert 105 = .ok (.aload_n 0, 1) := by decide +kernel
theorem dX1_insert_106 : decode cX1_insert 106 = .ok (.getfield 15, 3) := by decide +kernel
theorem dX1_insert_109 : decode cX1_insert 109 = .ok (.iload_n 1, 1) := by decide +kernel
theorem dX1_insert_110 : decode cX1_insert 110 = .ok (.iload_n 3, 1) := by decide +kernel
theorem dX1_insert_111 : decode cX1_insert 111 = .ok (.iconst 1, 1) := by decide +kernel
theorem dX1_insert_112 : decode cX1_insert 112 = .ok (.iadd, 1) := by decide +kernel
theorem dX1_insert_113 : decode cX1_insert 113 = .ok (.invokestatic 18, 3) := by decide +kernel
theorem dX1_insert_116 : decode cX1_insert 116 = .ok (.return_, 1) := by decide +kernel
theorem dX1_sizeOf_0 : decode cX1_sizeOf 0 = .ok (.aload_n 0, 1) := by decide +kernel
theorem dX1_sizeOf_1 : decode cX1_sizeOf 1 = .ok (.getfield 15, 3) := by decide +kernel
theorem dX1_sizeOf_4 : decode cX1_sizeOf 4 = .ok (.iload_n 1, 1) := by decide +kernel
theorem dX1_sizeOf_5 : decode cX1_sizeOf 5 = .ok (.invokestatic 57, 3) := by decide +kernel
theorem dX1_sizeOf_8 : decode cX1_sizeOf 8 = .ok (.ireturn, 1) := by decide +kernel
theorem dX1_shapeOf_0 : decode cX1_shapeOf 0 = .ok (.aload_n 0, 1) := by decide +kernel
theorem dX1_shapeOf_1 : decode cX1_shapeOf 1 = .ok (.getfield 9, 3) := by decide +kernel
theorem dX1_shapeOf_4 : decode cX1_shapeOf 4 = .ok (.iload_n 1, 1) := by decide +kernel
theorem dX1_shapeOf_5 : decode cX1_shapeOf 5 = .ok (.bipush 8, 2) := by decide +kernel
theorem dX1_shapeOf_7 : decode cX1_shapeOf 7 = .ok (.imul, 1) := by decide +kernel
theorem dX1_shapeOf_8 : decode cX1_shapeOf 8 = .ok (.iload_n 2, 1) := by decide +kernel
theorem dX1_shapeOf_9 : decode cX1_shapeOf 9 = .ok (.iadd, 1) := by decide +kernel
theorem dX1_shapeOf_10 : decode cX1_shapeOf 10 = .ok (.invokestatic 57, 3) := by decide +kernel
theorem dX1_shapeOf_13 : decode cX1_shapeOf 13 = .ok (.ireturn, 1) := by decide +kernel
theorem dX2_init_0 : decode cX2_init 0 = .ok (.aload_n 0, 1) := by decide +kernel
theorem dX2_init_1 : decode cX2_init 1 = .ok (.invokespecial 3, 3) := by decide +kernel
theorem dX2_init_4 : decode cX2_init 4 = .ok (.aload_n 0, 1) := by decide +kernel
theorem dX2_init_5 : decode cX2_init 5 = .ok (.bipush 6, 2) := by decide +kernel
theorem dX2_init_7 : decode cX2_init 7 = .ok (.anewarray 9, 3) := by decide +kernel
theorem dX2_init_10 : decode cX2_init 10 = .ok (.putfield 11, 3) := by decide +kernel
theorem dX2_init_13 : decode cX2_init 13 = .ok (.aload_n 0, 1) := by decide +kernel
theorem dX2_init_14 : decode cX2_init 14 = .ok (.iconst 0, 1) := by decide +kernel
theorem dX2_init_15 : decode cX2_init 15 = .ok (.putfield 17, 3) := by decide +kernel
theorem dX2_init_18 : decode cX2_init 18 = .ok (.aload_n 0, 1) := by decide +kernel
theorem dX2_init_19 : decode cX2_init 19 = .ok (.iconst 0, 1) := by decide +kernel
theorem dX2_init_20 : decode cX2_init 20 = .ok (.putfield 21, 3) := by decide +kernel
theorem dX2_init_23 : decode cX2_init 23 = .ok (.iconst 0, 1) := by decide +kernel
theorem dX2_init_24 : decode cX2_init 24 = .ok (.istore_n 1, 1) := by decide +kernel
theorem dX2_init_25 : decode cX2_init 25 = .ok (.iload_n 1, 1) := by decide +kernel
theorem dX2_init_26 : decode cX2_init 26 = .ok (.aload_n 0, 1) := by decide +kernel
theorem dX2_init_27 : decode cX2_init 27 = .ok (.getfield 11, 3) := by decide +kernel
theorem dX2_init_30 : decode cX2_init 30 = .ok (.arraylength, 1) := by decide +kernel
theorem dX2_init_31 : decode cX2_init 31 = .ok (.if_icmp .ge 22, 3) := by decide +kernel
theorem dX2_init_34 : decode cX2_init 34 = .ok (.aload_n 0, 1) := by decide +kernel
theorem dX2_init_35 : decode cX2_init 35 = .ok (.getfield 11, 3) := by decide +kernel
theorem dX2_init_38 : decode cX2_init 38 = .ok (.iload_n 1, 1) := by decide +kernel
theorem dX2_init_39 : decode cX2_init 39 = .ok (.new 9, 3) := by decide +kernel
theorem dX2_init_42 : decode cX2_init 42 = .ok (.dup, 1) := by decide +kernel
theorem dX2_init_43 : decode cX2_init 43 = .ok (.invokespecial 24, 3) := by decide +kernel
theorem dX2_init_46 : decode cX2_init 46 = .ok (.aastore, 1) := by decide +kernel
theorem dX2_init_47 : decode cX2_init 47 = .ok (.iinc 1 1, 3) := by decide +kernel
theorem dX2_init_50 : decode cX2_init 50 = .ok (.goto (-25), 3) := by decide +kernel
theorem dX2_init_53 : decode cX2_init 53 = .ok (.return_, 1) := by decide +kernel
theorem dX2_save_0 : decode cX2_save 0 = .ok (.aload_n 0, 1) := by decide +kernel
theorem dX2_save_1 : decode cX2_save 1 = .ok (.aload_n 0, 1) := by decide +kernel
theorem dX2_save_2 : decode cX2_save 2 = .ok (.getfield 21, 3) := by decide +kernel
theorem dX2_save_5 : decode cX2_save 5 = .ok (.invokevirtual 25, 3) := by decide +kernel
theorem dX2_save_8 : decode cX2_save 8 = .ok (.astore_n 2, 1) := by decide +kernel
theorem dX2_save_9 : decode cX2_save 9 = .ok (.aload_n 2, 1) := by decide +kernel
theorem dX2_save_10 : decode cX2_save 10 = .ok (.ifnonnull 4, 3) := by decide +kernel
theorem dX2_save_13 : decode cX2_save 13 = .ok (.return_, 1) := by decide +kernel
theorem dX2_save_14 : decode cX2_save 14 = .ok (.aload_n 2, 1) := by decide +kernel
theorem dX2_save_15 : decode cX2_save 15 = .ok (.aload_n 1, 1) := by decide +kernel
theorem dX2_save_16 : decode cX2_save 16 = .ok (.invokevirtual 29, 3) := by decide +kernel
theorem dX2_save_19 : decode cX2_save 19 = .ok (.aload_n 0, 1) := by decide +kernel
theorem dX2_save_20 : decode cX2_save 20 = .ok (.getfield 21, 3) := by decide +kernel
theorem dX2_save_23 : decode cX2_save 23 = .ok (.bipush 6, 2) := by decide +kernel
theorem dX2_save_25 : decode cX2_save 25 = .ok (.if_icmp .ge 16, 3) := by decide +kernel
theorem dX2_save_28 : decode cX2_save 28 = .ok (.aload_n 0, 1) := by decide +kernel
theorem dX2_save_29 : decode cX2_save 29 = .ok (.dup, 1) := by decide +kernel
theorem dX2_save_30 : decode cX2_save 30 = .ok (.getfield 21, 3) := by decide +kernel
theorem dX2_save_33 : decode cX2_save 33 = .ok (.iconst 1, 1) := by decide +kernel
theorem dX2_save_34 : decode cX2_save 34 = .ok (.iadd, 1) := by decide +kernel
theorem dX2_save_35 : decode cX2_save 35 = .ok (.putfield 21, 3) := by decide +kernel
theorem dX2_save_38 : decode cX2_save 38 = .ok (.goto 16, 3) := by decide +kernel
theorem dX2_save_41 : decode cX2_save 41 = .ok (.aload_n 0, 1) := by decide +kernel
theorem dX2_save_42 : decode cX2_save 42 = .ok (.aload_n 0, 1) := by decide +kernel
theorem dX2_save_43 : decode cX2_save 43 = .ok (.getfield 17, 3) := by decide +kernel
theorem dX2_save_46 : decode cX2_save 46 = .ok (.iconst 1, 1) := by decide +kernel
theorem dX2_save_47 : decode cX2_save 47 = .ok (.iadd, 1) := by decide +kernel
theorem dX2_save_48 : decode cX2_save 48 = .ok (.bipush 6, 2) := by decide +kernel
theorem dX2_save_50 : decode cX2_save 50 = .ok (.irem, 1) := by decide +kernel
theorem dX2_save_51 : decode cX2_save 51 = .ok (.putfield 17, 3) := by decide +kernel
theorem dX2_save_54 : decode cX2_save 54 = .ok (.return_, 1) := by decide +kernel
theorem dX2_restore_0 : decode cX2_restore 0 = .ok (.aload_n 0, 1) := by decide +kernel
theorem dX2_restore_1 : decode cX2_restore 1 = .ok (.getfield 21, 3) := by decide +kernel
theorem dX2_restore_4 : decode cX2_restore 4 = .ok (.ifCond .le 16, 3) := by decide +kernel
theorem dX2_restore_7 : decode cX2_restore 7 = .ok (.aload_n 0, 1) := by decide +kernel
theorem dX2_restore_8 : decode cX2_restore 8 = .ok (.aload_n 0, 1) := by decide +kernel
theorem dX2_restore_9 : decode cX2_restore 9 = .ok (.getfield 21, 3) := by decide +kernel
theorem dX2_restore_12 : decode cX2_restore 12 = .ok (.iconst 1, 1) := by decide +kernel
theorem dX2_restore_13 : decode cX2_restore 13 = .ok (.isub, 1) := by decide +kernel
theorem dX2_restore_14 : decode cX2_restore 14 = .ok (.invokevirtual 25, 3) := by decide +kernel
theorem dX2_restore_17 : decode cX2_restore 17 = .ok (.goto 4, 3) := by decide +kernel
theorem dX2_restore_20 : decode cX2_restore 20 = .ok (.aconst_null, 1) := by decide +kernel
theorem dX2_restore_21 : decode cX2_restore 21 = .ok (.astore_n 2, 1) := by decide +kernel
theorem dX2_restore_22 : decode cX2_restore 22 = .ok (.aload_n 2, 1) := by decide +kernel
theorem dX2_restore_23 : decode cX2_restore 23 = .ok (.ifnonnull 4, 3) := by decide +kernel
theorem dX2_restore_26 : decode cX2_restore 26 = .ok (.return_, 1) := by decide +kernel
theorem dX2_restore_27 : decode cX2_restore 27 = .ok (.aload_n 1, 1) := by decide +kernel
theorem dX2_restore_28 : decode cX2_restore 28 = .ok (.aload_n 2, 1) := by decide +kernel
theorem dX2_restore_29 : decode cX2_restore 29 = .ok (.invokevirtual 29, 3) := by decide +kernel
theorem dX2_restore_32 : decode cX2_restore 32 = .ok (.aload_n 0, 1) := by decide +kernel
theorem dX2_restore_33 : decode cX2_restore 33 = .ok (.dup, 1) := by decide +kernel
theorem dX2_restore_34 : decode cX2_restore 34 = .ok (.getfield 21, 3) := by decide +kernel
theorem dX2_restore_37 : decode cX2_restore 37 = .ok (.iconst 1, 1) := by decide +kernel
theorem dX2_restore_38 : decode cX2_restore 38 = .ok (.isub, 1) := by decide +kernel
theorem dX2_restore_39 : decode cX2_restore 39 = .ok (.putfield 21, 3) := by decide +kernel
theorem dX2_restore_42 : decode cX2_restore 42 = .ok (.return_, 1) := by decide +kernel
theorem dX2_slotAfterOldest_0 : decode cX2_slotAfterOldest 0 = .ok (.aload_n 0, 1) := by decide +kernel
theorem dX2_slotAfterOldest_1 : decode cX2_slotAfterOldest 1 = .ok (.getfield 17, 3) := by decide +kernel
theorem dX2_slotAfterOldest_4 : decode cX2_slotAfterOldest 4 = .ok (.iload_n 1, 1) := by decide +kernel
theorem dX2_slotAfterOldest_5 : decode cX2_slotAfterOldest 5 = .ok (.iadd, 1) := by decide +kernel
theorem dX2_slotAfterOldest_6 : decode cX2_slotAfterOldest 6 = .ok (.bipush 6, 2) := by decide +kernel
theorem dX2_slotAfterOldest_8 : decode cX2_slotAfterOldest 8 = .ok (.irem, 1) := by decide +kernel
theorem dX2_slotAfterOldest_9 : decode cX2_slotAfterOldest 9 = .ok (.istore_n 2, 1) := by decide +kernel
theorem dX2_slotAfterOldest_10 : decode cX2_slotAfterOldest 10 = .ok (.iload_n 2, 1) := by decide +kernel
theorem dX2_slotAfterOldest_11 : decode cX2_slotAfterOldest 11 = .ok (.ifCond .lt 21, 3) := by decide +kernel
theorem dX2_slotAfterOldest_14 : decode cX2_slotAfterOldest 14 = .ok (.iload_n 2, 1) := by decide +kernel
theorem dX2_slotAfterOldest_15 : decode cX2_slotAfterOldest 15 = .ok (.aload_n 0, 1) := by decide +kernel
theorem dX2_slotAfterOldest_16 : decode cX2_slotAfterOldest 16 = .ok (.getfield 11, 3) := by decide +kernel
theorem dX2_slotAfterOldest_19 : decode cX2_slotAfterOldest 19 = .ok (.arraylength, 1) := by decide +kernel
theorem dX2_slotAfterOldest_20 : decode cX2_slotAfterOldest 20 = .ok (.if_icmp .ge 12, 3) := by decide +kernel
theorem dX2_slotAfterOldest_23 : decode cX2_slotAfterOldest 23 = .ok (.aload_n 0, 1) := by decide +kernel
theorem dX2_slotAfterOldest_24 : decode cX2_slotAfterOldest 24 = .ok (.getfield 11, 3) := by decide +kernel
theorem dX2_slotAfterOldest_27 : decode cX2_slotAfterOldest 27 = .ok (.iload_n 2, 1) := by decide +kernel
theorem dX2_slotAfterOldest_28 : decode cX2_slotAfterOldest 28 = .ok (.aaload, 1) := by decide +kernel
theorem dX2_slotAfterOldest_29 : decode cX2_slotAfterOldest 29 = .ok (.goto 4, 3) := by decide +kernel
theorem dX2_slotAfterOldest_32 : decode cX2_slotAfterOldest 32 = .ok (.aconst_null, 1) := by decide +kernel
theorem dX2_slotAfterOldest_33 : decode cX2_slotAfterOldest 33 = .ok (.areturn, 1) := by decide +kernel
theorem dX3_init_0 : decode cX3_init 0 = .ok (.aload_n 0, 1) := by decide +kernel
theorem dX3_init_1 : decode cX3_init 1 = .ok (.invokespecial 3, 3) := by decide +kernel
theorem dX3_init_4 : decode cX3_init 4 = .ok (.aload_n 0, 1) := by decide +kernel
theorem dX3_init_5 : decode cX3_init 5 = .ok (.sipush 1280, 3) := by decide +kernel
theorem dX3_init_8 : decode cX3_init 8 = .ok (.newarray .long, 2) := by decide +kernel
theorem dX3_init_10 : decode cX3_init 10 = .ok (.putfield 9, 3) := by decide +kernel
theorem dX3_init_13 : decode cX3_init 13 = .ok (.aload_n 0, 1) := by decide +kernel
theorem dX3_init_14 : decode cX3_init 14 = .ok (.sipush 1280, 3) := by decide +kernel
theorem dX3_init_17 : decode cX3_init 17 = .ok (.newarray .int, 2) := by decide +kernel
theorem dX3_init_19 : decode cX3_init 19 = .ok (.putfield 15, 3) := by decide +kernel
theorem dX3_init_22 : decode cX3_init 22 = .ok (.aload_n 0, 1) := by decide +kernel
theorem dX3_init_23 : decode cX3_init 23 = .ok (.sipush 1280, 3) := by decide +kernel
theorem dX3_init_26 : decode cX3_init 26 = .ok (.newarray .int, 2) := by decide +kernel
theorem dX3_init_28 : decode cX3_init 28 = .ok (.putfield 19, 3) := by decide +kernel
theorem dX3_init_31 : decode cX3_init 31 = .ok (.aload_n 0, 1) := by decide +kernel
theorem dX3_init_32 : decode cX3_init 32 = .ok (.bipush 37, 2) := by decide +kernel
theorem dX3_init_34 : decode cX3_init 34 = .ok (.newarray .int, 2) := by decide +kernel
theorem dX3_init_36 : decode cX3_init 36 = .ok (.putfield 22, 3) := by decide +kernel
theorem dX3_init_39 : decode cX3_init 39 = .ok (.aload_n 0, 1) := by decide +kernel
theorem dX3_init_40 : decode cX3_init 40 = .ok (.iconst 0, 1) := by decide +kernel
theorem dX3_init_41 : decode cX3_init 41 = .ok (.putfield 25, 3) := by decide +kernel
theorem dX3_init_44 : decode cX3_init 44 = .ok (.aload_n 0, 1) := by decide +kernel
theorem dX3_init_45 : decode cX3_init 45 = .ok (.lconst 0, 1) := by decide +kernel
theorem dX3_init_46 : decode cX3_init 46 = .ok (.putfield 29, 3) := by decide +kernel
theorem dX3_init_49 : decode cX3_init 49 = .ok (.return_, 1) := by decide +kernel
theorem dX3_fill_0 : decode cX3_fill 0 = .ok (.aload_n 0, 1) := by decide +kernel
theorem dX3_fill_1 : decode cX3_fill 1 = .ok (.iconst 0, 1) := by decide +kernel
theorem dX3_fill_2 : decode cX3_fill 2 = .ok (.putfield 25, 3) := by decide +kernel
theorem dX3_fill_5 : decode cX3_fill 5 = .ok (.aload_n 0, 1) := by decide +kernel
theorem dX3_fill_6 : decode cX3_fill 6 = .ok (.aload_n 1, 1) := by decide +kernel
theorem dX3_fill_7 : decode cX3_fill 7 = .ok (.invokevirtual 33, 3) := by decide +kernel
theorem dX3_fill_10 : decode cX3_fill 10 = .ok (.putfield 29, 3) := by decide +kernel
theorem dX3_fill_13 : decode cX3_fill 13 = .ok (.iconst 0, 1) := by decide +kernel
theorem dX3_fill_14 : decode cX3_fill 14 = .ok (.istore_n 3, 1) := by decide +kernel
theorem dX3_fill_15 : decode cX3_fill 15 = .ok (.iload_n 3, 1) := by decide +kernel
theorem dX3_fill_16 : decode cX3_fill 16 = .ok (.aload_n 1, 1) := by decide +kernel
theorem dX3_fill_17 : decode cX3_fill 17 = .ok (.getfield 39, 3) := by decide +kernel
theorem dX3_fill_20 : decode cX3_fill 20 = .ok (.if_icmp .ge 43, 3) := by decide +kernel
theorem dX3_fill_23 : decode cX3_fill 23 = .ok (.iconst 0, 1) := by decide +kernel
theorem dX3_fill_24 : decode cX3_fill 24 = .ok (.istore 4, 2) := by decide +kernel
theorem dX3_fill_26 : decode cX3_fill 26 = .ok (.iload 4, 2) := by decide +kernel
theorem dX3_fill_28 : decode cX3_fill 28 = .ok (.aload_n 2, 1) := by decide +kernel
theorem dX3_fill_29 : decode cX3_fill 29 = .ok (.iload_n 3, 1) := by decide +kernel
theorem dX3_fill_30 : decode cX3_fill 30 = .ok (.invokevirtual 42, 3) := by decide +kernel
theorem dX3_fill_33 : decode cX3_fill 33 = .ok (.if_icmp .ge 24, 3) := by decide +kernel
theorem dX3_fill_36 : decode cX3_fill 36 = .ok (.aload_n 0, 1) := by decide +kernel
theorem dX3_fill_37 : decode cX3_fill 37 = .ok (.aload_n 1, 1) := by decide +kernel
theorem dX3_fill_38 : decode cX3_fill 38 = .ok (.iload_n 3, 1) := by decide +kernel
theorem dX3_fill_39 : decode cX3_fill 39 = .ok (.iload 4, 2) := by decide +kernel
theorem dX3_fill_41 : decode cX3_fill 41 = .ok (.aload_n 2, 1) := by decide +kernel
theorem dX3_fill_42 : decode cX3_fill 42 = .ok (.iload_n 3, 1) := by decide +kernel
theorem dX3_fill_43 : decode cX3_fill 43 = .ok (.iload 4, 2) := by decide +kernel
theorem dX3_fill_45 : decode cX3_fill 45 = .ok (.invokevirtual 48, 3) := by decide +kernel
theorem dX3_fill_48 : decode cX3_fill 48 = .ok (.invokevirtual 52, 3) := by decide +kernel
theorem dX3_fill_51 : decode cX3_fill 51 = .ok (.iinc 4 1, 3) := by decide +kernel
theorem dX3_fill_54 : decode cX3_fill 54 = .ok (.goto (-28), 3) := by decide +kernel
theorem dX3_fill_57 : decode cX3_fill 57 = .ok (.iinc 3 1, 3) := by decide +kernel
theorem dX3_fill_60 : decode cX3_fill 60 = .ok (.goto (-45), 3) := by decide +kernel
theorem dX3_fill_63 : decode cX3_fill 63 = .ok (.aload_n 0, 1) := by decide +kernel
theorem dX3_fill_64 : decode cX3_fill 64 = .ok (.invokevirtual 56, 3) := by decide +kernel
theorem dX3_fill_67 : decode cX3_fill 67 = .ok (.return_, 1) := by decide +kernel
theorem dX3_fillForm_0 : decode cX3_fillForm 0 = .ok (.aload_n 1, 1) := by decide +kernel
theorem dX3_fillForm_1 : decode cX3_fillForm 1 = .ok (.iload_n 2, 1) := by decide +kernel
theorem dX3_fillForm_2 : decode cX3_fillForm 2 = .ok (.invokevirtual 59, 3) := by decide +kernel
theorem dX3_fillForm_5 : decode cX3_fillForm 5 = .ok (.istore 5, 2) := by decide +kernel
theorem dX3_fillForm_7 : decode cX3_fillForm 7 = .ok (.iconst 0, 1) := by decide +kernel
theorem dX3_fillForm_8 : decode cX3_fillForm 8 = .ok (.istore 6, 2) := by decide +kernel
theorem dX3_fillForm_10 : decode cX3_fillForm 10 = .ok (.iload 6, 2) := by decide +kernel
theorem dX3_fillForm_12 : decode cX3_fillForm 12 = .ok (.aload_n 1, 1) := by decide +kernel
theorem dX3_fillForm_13 : decode cX3_fillForm 13 = .ok (.invokevirtual 62, 3) := by decide +kernel
theorem dX3_fillForm_16 : decode cX3_fillForm 16 = .ok (.if_icmp .ge 87, 3) := by decide +kernel
theorem dX3_fillForm_19 : decode cX3_fillForm 19 = .ok (.aload_n 1, 1) := by decide +kernel
theorem dX3_fillForm_20 : decode cX3_fillForm 20 = .ok (.iload 4, 2) := by decide +kernel
theorem dX3_fillForm_22 : decode cX3_fillForm 22 = .ok (.iload 5, 2) := by decide +kernel
theorem dX3_fillForm_24 : decode cX3_fillForm 24 = .ok (.iload 6, 2) := by decide +kernel
theorem dX3_fillForm_26 : decode cX3_fillForm 26 = .ok (.invokestatic 66, 3) := by decide +kernel
theorem dX3_fillForm_29 : decode cX3_fillForm 29 = .ok (.lstore 7, 2) := by decide +kernel
theorem dX3_fillForm_31 : decode cX3_fillForm 31 = .ok (.lload 7, 2) := by decide +kernel
theorem dX3_fillForm_33 : decode cX3_fillForm 33 = .ok (.lconst 0, 1) := by decide +kernel
theorem dX3_fillForm_34 : decode cX3_fillForm 34 = .ok (.lcmp, 1) := by decide +kernel
theorem dX3_fillForm_35 : decode cX3_fillForm 35 = .ok (.ifCond .eq 62, 3) := by decide +kernel
theorem dX3_fillForm_38 : decode cX3_fillForm 38 = .ok (.aload_n 0, 1) := by decide +kernel
theorem dX3_fillForm_39 : decode cX3_fillForm 39 = .ok (.getfield 25, 3) := by decide +kernel
theorem dX3_fillForm_42 : decode cX3_fillForm 42 = .ok (.ifCond .lt 55, 3) := by decide +kernel
theorem dX3_fillForm_45 : decode cX3_fillForm 45 = .ok (.aload_n 0, 1) := by decide +kernel
theorem dX3_fillForm_46 : decode cX3_fillForm 46 = .ok (.getfield 25, 3) := by decide +kernel
theorem dX3_fillForm_49 : decode cX3_fillForm 49 = .ok (.sipush 1280, 3) := by decide +kernel
theorem dX3_fillForm_52 : decode cX3_fillForm 52 = .ok (.if_icmp .ge 45, 3) := by decide +kernel
theorem dX3_fillForm_55 : decode cX3_fillForm 55 = .ok (.aload_n 0, 1) := by decide +kernel
theorem dX3_fillForm_56 : decode cX3_fillForm 56 = .ok (.getfield 9, 3) := by decide +kernel
theorem dX3_fillForm_59 : decode cX3_fillForm 59 = .ok (.aload_n 0, 1) := by decide +kernel
theorem dX3_fillForm_60 : decode cX3_fillForm 60 = .ok (.getfield 25, 3) := by decide +kernel
theorem dX3_fillForm_63 : decode cX3_fillForm 63 = .ok (.lload 7, 2) := by decide +kernel
theorem dX3_fillForm_65 : decode cX3_fillForm 65 = .ok (.lastore, 1) := by decide +kernel
theorem dX3_fillForm_66 : decode cX3_fillForm 66 = .ok (.aload_n 0, 1) := by decide +kernel
theorem dX3_fillForm_67 : decode cX3_fillForm 67 = .ok (.getfield 15, 3) := by decide +kernel
theorem dX3_fillForm_70 : decode cX3_fillForm 70 = .ok (.aload_n 0, 1) := by decide +kernel
theorem dX3_fillForm_71 : decode cX3_fillForm 71 = .ok (.getfield 25, 3) := by decide +kernel
theorem dX3_fillForm_74 : decode cX3_fillForm 74 = .ok (.iload 6, 2) := by decide +kernel
theorem dX3_fillForm_76 : decode cX3_fillForm 76 = .ok (.bipush 8, 2) := by decide +kernel
theorem dX3_fillForm_78 : decode cX3_fillForm 78 = .ok (.ishl, 1) := by decide +kernel
theorem dX3_fillForm_79 : decode cX3_fillForm 79 = .ok (.iload_n 3, 1) := by decide +kernel
theorem dX3_fillForm_80 : decode cX3_fillForm 80 = .ok (.ior, 1) := by decide +kernel
theorem dX3_fillForm_81 : decode cX3_fillForm 81 = .ok (.bipush 8, 2) := by decide +kernel
theorem dX3_fillForm_83 : decode cX3_fillForm 83 = .ok (.ishl, 1) := by decide +kernel
theorem dX3_fillForm_84 : decode cX3_fillForm 84 = .ok (.iload_n 2, 1) := by decide +kernel
theorem dX3_fillForm_85 : decode cX3_fillForm 85 = .ok (.ior, 1) := by decide +kernel
theorem dX3_fillForm_86 : decode cX3_fillForm 86 = .ok (.iastore, 1) := by decide +kernel
theorem dX3_fillForm_87 : decode cX3_fillForm 87 = .ok (.aload_n 0, 1) := by decide +kernel
theorem dX3_fillForm_88 : decode cX3_fillForm 88 = .ok (.dup, 1) := by decide +kernel
theorem dX3_fillForm_89 : decode cX3_fillForm 89 = .ok (.getfield 25, 3) := by decide +kernel
theorem dX3_fillForm_92 : decode cX3_fillForm 92 = .ok (.iconst 1, 1) := by decide +kernel
theorem dX3_fillForm_93 : decode cX3_fillForm 93 = .ok (.iadd, 1) := by decide +kernel
theorem dX3_fillForm_94 : decode cX3_fillForm 94 = .ok (.putfield 25, 3) := by decide +kernel
theorem dX3_fillForm_97 : decode cX3_fillForm 97 = .ok (.iinc 6 1, 3) := by decide +kernel
theorem dX3_fillForm_100 : decode cX3_fillForm 100 = .ok (.goto (-90), 3) := by decide +kernel
theorem dX3_fillForm_103 : decode cX3_fillForm 103 = .ok (.return_, 1) := by decide +kernel
theorem dX3_lay_0 : decode cX3_lay 0 = .ok (.aload_n 0, 1) := by decide +kernel
theorem dX3_lay_1 : decode cX3_lay 1 = .ok (.iload_n 3, 1) := by decide +kernel
theorem dX3_lay_2 : decode cX3_lay 2 = .ok (.invokevirtual 70, 3) := by decide +kernel
theorem dX3_lay_5 : decode cX3_lay 5 = .ok (.istore 4, 2) := by decide +kernel
theorem dX3_lay_7 : decode cX3_lay 7 = .ok (.aload_n 0, 1) := by decide +kernel
theorem dX3_lay_8 : decode cX3_lay 8 = .ok (.iload_n 3, 1) := by decide +kernel
theorem dX3_lay_9 : decode cX3_lay 9 = .ok (.invokevirtual 73, 3) := by decide +kernel
theorem dX3_lay_12 : decode cX3_lay 12 = .ok (.istore 5, 2) := by decide +kernel
theorem dX3_lay_14 : decode cX3_lay 14 = .ok (.lconst 0, 1) := by decide +kernel
theorem dX3_lay_15 : decode cX3_lay 15 = .ok (.lstore 6, 2) := by decide +kernel
theorem dX3_lay_17 : decode cX3_lay 17 = .ok (.iconst 0, 1) := by decide +kernel
theorem dX3_lay_18 : decode cX3_lay 18 = .ok (.istore 8, 2) := by decide +kernel
theorem dX3_lay_20 : decode cX3_lay 20 = .ok (.iload 8, 2) := by decide +kernel
theorem dX3_lay_22 : decode cX3_lay 22 = .ok (.bipush 16, 2) := by decide +kernel
theorem dX3_lay_24 : decode cX3_lay 24 = .ok (.if_icmp .ge 94, 3) := by decide +kernel
theorem dX3_lay_27 : decode cX3_lay 27 = .ok (.iload_n 1, 1) := by decide +kernel
theorem dX3_lay_28 : decode cX3_lay 28 = .ok (.iload 8, 2) := by decide +kernel
theorem dX3_lay_30 : decode cX3_lay 30 = .ok (.iushr, 1) := by decide +kernel
theorem dX3_lay_31 : decode cX3_lay 31 = .ok (.ifCond .eq 87, 3) := by decide +kernel
theorem dX3_lay_34 : decode cX3_lay 34 = .ok (.iload_n 1, 1) := by decide +kernel
theorem dX3_lay_35 : decode cX3_lay 35 = .ok (.iload 8, 2) := by decide +kernel
theorem dX3_lay_37 : decode cX3_lay 37 = .ok (.invokestatic 76, 3) := by decide +kernel
theorem dX3_lay_40 : decode cX3_lay 40 = .ok (.ifCond .eq 72, 3) := by decide +kernel
theorem dX3_lay_43 : decode cX3_lay 43 = .ok (.iload 4, 2) := by decide +kernel
theorem dX3_lay_45 : decode cX3_lay 45 = .ok (.iload 8, 2) := by decide +kernel
theorem dX3_lay_47 : decode cX3_lay 47 = .ok (.iconst 4, 1) := by decide +kernel
theorem dX3_lay_48 : decode cX3_lay 48 = .ok (.irem, 1) := by decide +kernel
theorem dX3_lay_49 : decode cX3_lay 49 = .ok (.iadd, 1) := by decide +kernel
theorem dX3_lay_50 : decode cX3_lay 50 = .ok (.istore 9, 2) := by decide +kernel
theorem dX3_lay_52 : decode cX3_lay 52 = .ok (.iload 5, 2) := by decide +kernel
theorem dX3_lay_54 : decode cX3_lay 54 = .ok (.iload 8, 2) := by decide +kernel
theorem dX3_lay_56 : decode cX3_lay 56 = .ok (.iconst 4, 1) := by decide +kernel
theorem dX3_lay_57 : decode cX3_lay 57 = .ok (.idiv, 1) := by decide +kernel
theorem dX3_lay_58 : decode cX3_lay 58 = .ok (.iadd, 1) := by decide +kernel
theorem dX3_lay_59 : decode cX3_lay 59 = .ok (.istore 10, 2) := by decide +kernel
theorem dX3_lay_61 : decode cX3_lay 61 = .ok (.iload 10, 2) := by decide +kernel
theorem dX3_lay_63 : decode cX3_lay 63 = .ok (.aload_n 0, 1) := by decide +kernel
theorem dX3_lay_64 : decode cX3_lay 64 = .ok (.getfield 82, 3) := by decide +kernel
theorem dX3_lay_67 : decode cX3_lay 67 = .ok (.imul, 1) := by decide +kernel
theorem dX3_lay_68 : decode cX3_lay 68 = .ok (.iload 9, 2) := by decide +kernel
theorem dX3_lay_70 : decode cX3_lay 70 = .ok (.iadd, 1) := by decide +kernel
theorem dX3_lay_71 : decode cX3_lay 71 = .ok (.istore 11, 2) := by decide +kernel
theorem dX3_lay_73 : decode cX3_lay 73 = .ok (.iload 9, 2) := by decide +kernel
theorem dX3_lay_75 : decode cX3_lay 75 = .ok (.aload_n 0, 1) := by decide +kernel
theorem dX3_lay_76 : decode cX3_lay 76 = .ok (.getfield 82, 3) := by decide +kernel
theorem dX3_lay_79 : decode cX3_lay 79 = .ok (.if_icmp .ge 22, 3) := by decide +kernel
theorem dX3_lay_82 : decode cX3_lay 82 = .ok (.iload 10, 2) := by decide +kernel
theorem dX3_lay_84 : decode cX3_lay 84 = .ok (.aload_n 0, 1) := by decide +kernel
theorem dX3_lay_85 : decode cX3_lay 85 = .ok (.getfield 85, 3) := by decide +kernel
theorem dX3_lay_88 : decode cX3_lay 88 = .ok (.if_icmp .ge 13, 3) := by decide +kernel
theorem dX3_lay_91 : decode cX3_lay 91 = .ok (.aload_n 0, 1) := by decide +kernel
theorem dX3_lay_92 : decode cX3_lay 92 = .ok (.iload 11, 2) := by decide +kernel
theorem dX3_lay_94 : decode cX3_lay 94 = .ok (.iload_n 2, 1) := by decide +kernel
theorem dX3_lay_95 : decode cX3_lay 95 = .ok (.invokevirtual 88, 3) := by decide +kernel
theorem dX3_lay_98 : decode cX3_lay 98 = .ok (.ifCond .ne 5, 3) := by decide +kernel
theorem dX3_lay_101 : decode cX3_lay 101 = .ok (.lconst 0, 1) := by decide +kernel
theorem dX3_lay_102 : decode cX3_lay 102 = .ok (.lreturn, 1) := by decide +kernel
theorem dX3_lay_103 : decode cX3_lay 103 = .ok (.lload 6, 2) := by decide +kernel
theorem dX3_lay_105 : decode cX3_lay 105 = .ok (.lconst 1, 1) := by decide +kernel
theorem dX3_lay_106 : decode cX3_lay 106 = .ok (.iload 11, 2) := by decide +kernel
theorem dX3_lay_108 : decode cX3_lay 108 = .ok (.lshl, 1) := by decide +kernel
theorem dX3_lay_109 : decode cX3_lay 109 = .ok (.lor, 1) := by decide +kernel
theorem dX3_lay_110 : decode cX3_lay 110 = .ok (.lstore 6, 2) := by decide +kernel
theorem dX3_lay_112 : decode cX3_lay 112 = .ok (.iinc 8 1, 3) := by decide +kernel
theorem dX3_lay_115 : decode cX3_lay 115 = .ok (.goto (-95), 3) := by decide +kernel
theorem dX3_lay_118 : decode cX3_lay 118 = .ok (.lload 6, 2) := by decide +kernel
theorem dX3_lay_120 : decode cX3_lay 120 = .ok (.lreturn, 1) := by decide +kernel
theorem dX3_fillOrder_0 : decode cX3_fillOrder 0 = .ok (.iconst 0, 1) := by decide +kernel
theorem dX3_fillOrder_1 : decode cX3_fillOrder 1 = .ok (.istore_n 1, 1) := by decide +kernel
theorem dX3_fillOrder_2 : decode cX3_fillOrder 2 = .ok (.iload_n 1, 1) := by decide +kernel
theorem dX3_fillOrder_3 : decode cX3_fillOrder 3 = .ok (.aload_n 0, 1) := by decide +kernel
theorem dX3_fillOrder_4 : decode cX3_fillOrder 4 = .ok (.getfield 22, 3) := by decide +kernel
theorem dX3_fillOrder_7 : decode cX3_fillOrder 7 = .ok (.arraylength, 1) := by decide +kernel
theorem dX3_fillOrder_8 : decode cX3_fillOrder 8 = .ok (.if_icmp .ge 16, 3) := by decide +kernel
theorem dX3_fillOrder_11 : decode cX3_fillOrder 11 = .ok (.aload_n 0, 1) := by decide +kernel
theorem dX3_fillOrder_12 : decode cX3_fillOrder 12 = .ok (.getfield 22, 3) := by decide +kernel
theorem dX3_fillOrder_15 : decode cX3_fillOrder 15 = .ok (.iload_n 1, 1) := by decide +kernel
theorem dX3_fillOrder_16 : decode cX3_fillOrder 16 = .ok (.iconst 0, 1) := by decide +kernel
theorem dX3_fillOrder_17 : decode cX3_fillOrder 17 = .ok (.iastore, 1) := by decide +kernel
theorem dX3_fillOrder_18 : decode cX3_fillOrder 18 = .ok (.iinc 1 1, 3) := by decide +kernel
theorem dX3_fillOrder_21 : decode cX3_fillOrder 21 = .ok (.goto (-19), 3) := by decide +kernel
theorem dX3_fillOrder_24 : decode cX3_fillOrder 24 = .ok (.iconst 0, 1) := by decide +kernel
theorem dX3_fillOrder_25 : decode cX3_fillOrder 25 = .ok (.istore_n 1, 1) := by decide +kernel
theorem dX3_fillOrder_26 : decode cX3_fillOrder 26 = .ok (.iload_n 1, 1) := by decide +kernel
theorem dX3_fillOrder_27 : decode cX3_fillOrder 27 = .ok (.aload_n 0, 1) := by decide +kernel
theorem dX3_fillOrder_28 : decode cX3_fillOrder 28 = .ok (.getfield 25, 3) := by decide +kernel
theorem dX3_fillOrder_31 : decode cX3_fillOrder 31 = .ok (.if_icmp .ge 36, 3) := by decide +kernel
theorem dX3_fillOrder_34 : decode cX3_fillOrder 34 = .ok (.aload_n 0, 1) := by decide +kernel
theorem dX3_fillOrder_35 : decode cX3_fillOrder 35 = .ok (.iload_n 1, 1) := by decide +kernel
theorem dX3_fillOrder_36 : decode cX3_fillOrder 36 = .ok (.invokevirtual 91, 3) := by decide +kernel
theorem dX3_fillOrder_39 : decode cX3_fillOrder 39 = .ok (.invokestatic 95, 3) := by decide +kernel
theorem dX3_fillOrder_42 : decode cX3_fillOrder 42 = .ok (.istore_n 2, 1) := by decide +kernel
theorem dX3_fillOrder_43 : decode cX3_fillOrder 43 = .ok (.aload_n 0, 1) := by decide +kernel
theorem dX3_fillOrder_44 : decode cX3_fillOrder 44 = .ok (.getfield 22, 3) := by decide +kernel
theorem dX3_fillOrder_47 : decode cX3_fillOrder 47 = .ok (.iload_n 2, 1) := by decide +kernel
theorem dX3_fillOrder_48 : decode cX3_fillOrder 48 = .ok (.aload_n 0, 1) := by decide +kernel
theorem dX3_fillOrder_49 : decode cX3_fillOrder 49 = .ok (.getfield 22, 3) := by decide +kernel
theorem dX3_fillOrder_52 : decode cX3_fillOrder 52 = .ok (.iload_n 2, 1) := by decide +kernel
theorem dX3_fillOrder_53 : decode cX3_fillOrder 53 = .ok (.invokestatic 99, 3) := by decide +kernel
theorem dX3_fillOrder_56 : decode cX3_fillOrder 56 = .ok (.iconst 1, 1) := by decide +kernel
theorem dX3_fillOrder_57 : decode cX3_fillOrder 57 = .ok (.iadd, 1) := by decide +kernel
theorem dX3_fillOrder_58 : decode cX3_fillOrder 58 = .ok (.invokestatic 103, 3) := by decide +kernel
theorem dX3_fillOrder_61 : decode cX3_fillOrder 61 = .ok (.iinc 1 1, 3) := by decide +kernel
theorem dX3_fillOrder_64 : decode cX3_fillOrder 64 = .ok (.goto (-38), 3) := by decide +kernel
theorem dX3_fillOrder_67 : decode cX3_fillOrder 67 = .ok (.iconst 0, 1) := by decide +kernel
theorem dX3_fillOrder_68 : decode cX3_fillOrder 68 = .ok (.istore_n 1, 1) := by decide +kernel
theorem dX3_fillOrder_69 : decode cX3_fillOrder 69 = .ok (.iconst 0, 1) := by decide +kernel
theorem dX3_fillOrder_70 : decode cX3_fillOrder 70 = .ok (.istore_n 2, 1) := by decide +kernel
theorem dX3_fillOrder_71 : decode cX3_fillOrder 71 = .ok (.iload_n 2, 1) := by decide +kernel
theorem dX3_fillOrder_72 : decode cX3_fillOrder 72 = .ok (.aload_n 0, 1) := by decide +kernel
theorem dX3_fillOrder_73 : decode cX3_fillOrder 73 = .ok (.getfield 22, 3) := by decide +kernel
theorem dX3_fillOrder_76 : decode cX3_fillOrder 76 = .ok (.arraylength, 1) := by decide +kernel
theorem dX3_fillOrder_77 : decode cX3_fillOrder 77 = .ok (.if_icmp .ge 25, 3) := by decide +kernel
theorem dX3_fillOrder_80 : decode cX3_fillOrder 80 = .ok (.iload_n 1, 1) := by decide +kernel
theorem dX3_fillOrder_81 : decode cX3_fillOrder 81 = .ok (.aload_n 0, 1) := by decide +kernel
theorem dX3_fillOrder_82 : decode cX3_fillOrder 82 = .ok (.getfield 22, 3) := by decide +kernel
theorem dX3_fillOrder_85 : decode cX3_fillOrder 85 = .ok (.iload_n 2, 1) := by decide +kernel
theorem dX3_fillOrder_86 : decode cX3_fillOrder 86 = .ok (.iaload, 1) := by decide +kernel
theorem dX3_fillOrder_87 : decode cX3_fillOrder 87 = .ok (.iadd, 1) := by decide +kernel
theorem dX3_fillOrder_88 : decode cX3_fillOrder 88 = .ok (.istore_n 1, 1) := by decide +kernel
theorem dX3_fillOrder_89 : decode cX3_fillOrder 89 = .ok (.aload_n 0, 1) := by decide +kernel
theorem dX3_fillOrder_90 : decode cX3_fillOrder 90 = .ok (.getfield 22, 3) := by decide +kernel
theorem dX3_fillOrder_93 : decode cX3_fillOrder 93 = .ok (.iload_n 2, 1) := by decide +kernel
theorem dX3_fillOrder_94 : decode cX3_fillOrder 94 = .ok (.iload_n 1, 1) := by decide +kernel
theorem dX3_fillOrder_95 : decode cX3_fillOrder 95 = .ok (.iastore, 1) := by decide +kernel
theorem dX3_fillOrder_96 : decode cX3_fillOrder 96 = .ok (.iinc 2 1, 3) := by decide +kernel
theorem dX3_fillOrder_99 : decode cX3_fillOrder 99 = .ok (.goto (-28), 3) := by decide +kernel
theorem dX3_fillOrder_102 : decode cX3_fillOrder 102 = .ok (.aload_n 0, 1) := by decide +kernel
theorem dX3_fillOrder_103 : decode cX3_fillOrder 103 = .ok (.getfield 25, 3) := by decide +kernel
theorem dX3_fillOrder_106 : decode cX3_fillOrder 106 = .ok (.iconst 1, 1) := by decide +kernel
theorem dX3_fillOrder_107 : decode cX3_fillOrder 107 = .ok (.isub, 1) := by decide +kernel
theorem dX3_fillOrder_108 : decode cX3_fillOrder 108 = .ok (.istore_n 2, 1) := by decide +kernel
theorem dX3_fillOrder_109 : decode cX3_fillOrder 109 = .ok (.iload_n 2, 1) := by decide +kernel
theorem dX3_fillOrder_110 : decode cX3_fillOrder 110 = .ok (.ifCond .lt 52, 3) := by decide +kernel
theorem dX3_fillOrder_113 : decode cX3_fillOrder 113 = .ok (.aload_n 0, 1) := by decide +kernel
theorem dX3_fillOrder_114 : decode cX3_fillOrder 114 = .ok (.iload_n 2, 1) := by decide +kernel
theorem dX3_fillOrder_115 : decode cX3_fillOrder 115 = .ok (.invokevirtual 91, 3) := by decide +kernel
theorem dX3_fillOrder_118 : decode cX3_fillOrder 118 = .ok (.invokestatic 95, 3) := by decide +kernel
theorem dX3_fillOrder_121 : decode cX3_fillOrder 121 = .ok (.istore_n 3, 1) := by decide +kernel
theorem dX3_fillOrder_122 : decode cX3_fillOrder 122 = .ok (.aload_n 0, 1) := by decide +kernel
theorem dX3_fillOrder_123 : decode cX3_fillOrder 123 = .ok (.getfield 22, 3) := by decide +kernel
theorem dX3_fillOrder_126 : decode cX3_fillOrder 126 = .ok (.iload_n 3, 1) := by decide +kernel
theorem dX3_fillOrder_127 : decode cX3_fillOrder 127 = .ok (.aload_n 0, 1) := by decide +kernel
theorem dX3_fillOrder_128 : decode cX3_fillOrder 128 = .ok (.getfield 22, 3) := by decide +kernel
theorem dX3_fillOrder_131 : decode cX3_fillOrder 131 = .ok (.iload_n 3, 1) := by decide +kernel
theorem dX3_fillOrder_132 : decode cX3_fillOrder 132 = .ok (.invokestatic 99, 3) := by decide +kernel
theorem dX3_fillOrder_135 : decode cX3_fillOrder 135 = .ok (.iconst 1, 1) := by decide +kernel
theorem dX3_fillOrder_136 : decode cX3_fillOrder 136 = .ok (.isub, 1) := by decide +kernel
theorem dX3_fillOrder_137 : decode cX3_fillOrder 137 = .ok (.invokestatic 103, 3) := by decide +kernel
theorem dX3_fillOrder_140 : decode cX3_fillOrder 140 = .ok (.aload_n 0, 1) := by decide +kernel
theorem dX3_fillOrder_141 : decode cX3_fillOrder 141 = .ok (.getfield 19, 3) := by decide +kernel
theorem dX3_fillOrder_144 : decode cX3_fillOrder 144 = .ok (.aload_n 0, 1) := by decide +kernel
theorem dX3_fillOrder_145 : decode cX3_fillOrder 145 = .ok (.getfield 22, 3) := by decide +kernel
theorem dX3_fillOrder_148 : decode cX3_fillOrder 148 = .ok (.iload_n 3, 1) := by decide +kernel
theorem dX3_fillOrder_149 : decode cX3_fillOrder 149 = .ok (.invokestatic 99, 3) := by decide +kernel
theorem dX3_fillOrder_152 : decode cX3_fillOrder 152 = .ok (.iload_n 2, 1) := by decide +kernel
theorem dX3_fillOrder_153 : decode cX3_fillOrder 153 = .ok (.invokestatic 103, 3) := by decide +kernel
theorem dX3_fillOrder_156 : decode cX3_fillOrder 156 = .ok (.iinc 2 (-1), 3) := by decide +kernel
theorem dX3_fillOrder_159 : decode cX3_fillOrder 159 = .ok (.goto (-50), 3) := by decide +kernel
theorem dX3_fillOrder_162 : decode cX3_fillOrder 162 = .ok (.return_, 1) := by decide +kernel
theorem dX3_maskOf_0 : decode cX3_maskOf 0 = .ok (.iload_n 1, 1) := by decide +kernel
theorem dX3_maskOf_1 : decode cX3_maskOf 1 = .ok (.ifCond .lt 27, 3) := by decide +kernel
theorem dX3_maskOf_4 : decode cX3_maskOf 4 = .ok (.iload_n 1, 1) := by decide +kernel
theorem dX3_maskOf_5 : decode cX3_maskOf 5 = .ok (.aload_n 0, 1) := by decide +kernel
theorem dX3_maskOf_6 : decode cX3_maskOf 6 = .ok (.getfield 25, 3) := by decide +kernel
theorem dX3_maskOf_9 : decode cX3_maskOf 9 = .ok (.if_icmp .ge 19, 3) := by decide +kernel
theorem dX3_maskOf_12 : decode cX3_maskOf 12 = .ok (.iload_n 1, 1) := by decide +kernel
theorem dX3_maskOf_13 : decode cX3_maskOf 13 = .ok (.sipush 1280, 3) := by decide +kernel
theorem dX3_maskOf_16 : decode cX3_maskOf 16 = .ok (.if_icmp .ge 12, 3) := by decide +kernel
theorem dX3_maskOf_19 : decode cX3_maskOf 19 = .ok (.aload_n 0, 1) := by decide +kernel
theorem dX3_maskOf_20 : decode cX3_maskOf 20 = .ok (.getfield 9, 3) := by decide +kernel
theorem dX3_maskOf_23 : decode cX3_maskOf 23 = .ok (.iload_n 1, 1) := by decide +kernel
theorem dX3_maskOf_24 : decode cX3_maskOf 24 = .ok (.laload, 1) := by decide +kernel
theorem dX3_maskOf_25 : decode cX3_maskOf 25 = .ok (.goto 4, 3) := by decide +kernel
theorem dX3_maskOf_28 : decode cX3_maskOf 28 = .ok (.lconst 0, 1) := by decide +kernel
theorem dX3_maskOf_29 : decode cX3_maskOf 29 = .ok (.lreturn, 1) := by decide +kernel
theorem dX3_pieceOf_0 : decode cX3_pieceOf 0 = .ok (.aload_n 0, 1) := by decide +kernel
theorem dX3_pieceOf_1 : decode cX3_pieceOf 1 = .ok (.getfield 15, 3) := by decide +kernel
theorem dX3_pieceOf_4 : decode cX3_pieceOf 4 = .ok (.iload_n 1, 1) := by decide +kernel
theorem dX3_pieceOf_5 : decode cX3_pieceOf 5 = .ok (.invokestatic 99, 3) := by decide +kernel
theorem dX3_pieceOf_8 : decode cX3_pieceOf 8 = .ok (.sipush 255, 3) := by decide +kernel
theorem dX3_pieceOf_11 : decode cX3_pieceOf 11 = .ok (.iand, 1) := by decide +kernel
theorem dX3_pieceOf_12 : decode cX3_pieceOf 12 = .ok (.ireturn, 1) := by decide +kernel
theorem dX3_formOf_0 : decode cX3_formOf 0 = .ok (.aload_n 0, 1) := by decide +kernel
theorem dX3_formOf_1 : decode cX3_formOf 1 = .ok (.getfield 15, 3) := by decide +kernel
theorem dX3_formOf_4 : decode cX3_formOf 4 = .ok (.iload_n 1, 1) := by decide +kernel
theorem dX3_formOf_5 : decode cX3_formOf 5 = .ok (.invokestatic 99, 3) := by decide +kernel
theorem dX3_formOf_8 : decode cX3_formOf 8 = .ok (.bipush 8, 2) := by decide +kernel
theorem dX3_formOf_10 : decode cX3_formOf 10 = .ok (.iushr, 1) := by decide +kernel
theorem dX3_formOf_11 : decode cX3_formOf 11 = .ok (.sipush 255, 3) := by decide +kernel
theorem dX3_formOf_14 : decode cX3_formOf 14 = .ok (.iand, 1) := by decide +kernel
theorem dX3_formOf_15 : decode cX3_formOf 15 = .ok (.ireturn, 1) := by decide +kernel
theorem dX3_cornerOf_0 : decode cX3_cornerOf 0 = .ok (.aload_n 0, 1) := by decide +kernel
theorem dX3_cornerOf_1 : decode cX3_cornerOf 1 = .ok (.getfield 15, 3) := by decide +kernel
theorem dX3_cornerOf_4 : decode cX3_cornerOf 4 = .ok (.iload_n 1, 1) := by decide +kernel
theorem dX3_cornerOf_5 : decode cX3_cornerOf 5 = .ok (.invokestatic 99, 3) := by decide +kernel
theorem dX3_cornerOf_8 : decode cX3_cornerOf 8 = .ok (.bipush 16, 2) := by decide +kernel
theorem dX3_cornerOf_10 : decode cX3_cornerOf 10 = .ok (.iushr, 1) := by decide +kernel
theorem dX3_cornerOf_11 : decode cX3_cornerOf 11 = .ok (.ireturn, 1) := by decide +kernel
theorem dX3_sizeOf_0 : decode cX3_sizeOf 0 = .ok (.iconst 0, 1) := by decide +kernel
theorem dX3_sizeOf_1 : decode cX3_sizeOf 1 = .ok (.istore_n 2, 1) := by decide +kernel
theorem dX3_sizeOf_2 : decode cX3_sizeOf 2 = .ok (.iconst 0, 1) := by decide +kernel
theorem dX3_sizeOf_3 : decode cX3_sizeOf 3 = .ok (.istore_n 3, 1) := by decide +kernel
theorem dX3_sizeOf_4 : decode cX3_sizeOf 4 = .ok (.iload_n 3, 1) := by decide +kernel
theorem dX3_sizeOf_5 : decode cX3_sizeOf 5 = .ok (.aload_n 0, 1) := by decide +kernel
theorem dX3_sizeOf_6 : decode cX3_sizeOf 6 = .ok (.getfield 25, 3) := by decide +kernel
theorem dX3_sizeOf_9 : decode cX3_sizeOf 9 = .ok (.if_icmp .ge 21, 3) := by decide +kernel
theorem dX3_sizeOf_12 : decode cX3_sizeOf 12 = .ok (.aload_n 0, 1) := by decide +kernel
theorem dX3_sizeOf_13 : decode cX3_sizeOf 13 = .ok (.iload_n 3, 1) := by decide +kernel
theorem dX3_sizeOf_14 : decode cX3_sizeOf 14 = .ok (.invokevirtual 107, 3) := by decide +kernel
theorem dX3_sizeOf_17 : decode cX3_sizeOf 17 = .ok (.iload_n 1, 1) := by decide +kernel
theorem dX3_sizeOf_18 : decode cX3_sizeOf 18 = .ok (.if_icmp .ne 6, 3) := by decide +kernel
theorem dX3_sizeOf_21 : decode cX3_sizeOf 21 = .ok (.iinc 2 1, 3) := by decide +kernel
theorem dX3_sizeOf_24 : decode cX3_sizeOf 24 = .ok (.iinc 3 1, 3) := by decide +kernel
theorem dX3_sizeOf_27 : decode cX3_sizeOf 27 = .ok (.goto (-23), 3) := by decide +kernel
theorem dX3_sizeOf_30 : decode cX3_sizeOf 30 = .ok (.iload_n 2, 1) := by decide +kernel
theorem dX3_sizeOf_31 : decode cX3_sizeOf 31 = .ok (.ireturn, 1) := by decide +kernel
theorem dX4_init_0 : decode cX4_init 0 = .ok (.aload_n 0, 1) := by decide +kernel
theorem dX4_init_1 : decode cX4_init 1 = .ok (.invokespecial 3, 3) := by decide +kernel
theorem dX4_init_4 : decode cX4_init 4 = .ok (.aload_n 0, 1) := by decide +kernel
theorem dX4_init_5 : decode cX4_init 5 = .ok (.iconst 4, 1) := by decide +kernel
theorem dX4_init_6 : decode cX4_init 6 = .ok (.putfield 9, 3) := by decide +kernel
theorem dX4_init_9 : decode cX4_init 9 = .ok (.aload_n 0, 1) := by decide +kernel
theorem dX4_init_10 : decode cX4_init 10 = .ok (.iconst 4, 1) := by decide +kernel
theorem dX4_init_11 : decode cX4_init 11 = .ok (.putfield 15, 3) := by decide +kernel
theorem dX4_init_14 : decode cX4_init 14 = .ok (.aload_n 0, 1) := by decide +kernel
theorem dX4_init_15 : decode cX4_init 15 = .ok (.iconst 0, 1) := by decide +kernel
theorem dX4_init_16 : decode cX4_init 16 = .ok (.putfield 18, 3) := by decide +kernel
theorem dX4_init_19 : decode cX4_init 19 = .ok (.aload_n 0, 1) := by decide +kernel
theorem dX4_init_20 : decode cX4_init 20 = .ok (.iconst 0, 1) := by decide +kernel
theorem dX4_init_21 : decode cX4_init 21 = .ok (.putfield 21, 3) := by decide +kernel
theorem dX4_init_24 : decode cX4_init 24 = .ok (.aload_n 0, 1) := by decide +kernel
theorem dX4_init_25 : decode cX4_init 25 = .ok (.iconst 0, 1) := by decide +kernel
theorem dX4_init_26 : decode cX4_init 26 = .ok (.putfield 24, 3) := by decide +kernel
theorem dX4_init_29 : decode cX4_init 29 = .ok (.aload_n 0, 1) := by decide +kernel
theorem dX4_init_30 : decode cX4_init 30 = .ok (.bipush 36, 2) := by decide +kernel
theorem dX4_init_32 : decode cX4_init 32 = .ok (.newarray .int, 2) := by decide +kernel
theorem dX4_init_34 : decode cX4_init 34 = .ok (.putfield 27, 3) := by decide +kernel
theorem dX4_init_37 : decode cX4_init 37 = .ok (.aload_n 0, 1) := by decide +kernel
theorem dX4_init_38 : decode cX4_init 38 = .ok (.bipush 8, 2) := by decide +kernel
theorem dX4_init_40 : decode cX4_init 40 = .ok (.newarray .int, 2) := by decide +kernel
theorem dX4_init_42 : decode cX4_init 42 = .ok (.putfield 31, 3) := by decide +kernel
theorem dX4_init_45 : decode cX4_init 45 = .ok (.aload_n 0, 1) := by decide +kernel
theorem dX4_init_46 : decode cX4_init 46 = .ok (.bipush 8, 2) := by decide +kernel
theorem dX4_init_48 : decode cX4_init 48 = .ok (.newarray .int, 2) := by decide +kernel
theorem dX4_init_50 : decode cX4_init 50 = .ok (.putfield 34, 3) := by decide +kernel
theorem dX4_init_53 : decode cX4_init 53 = .ok (.aload_n 0, 1) := by decide +kernel
theorem dX4_init_54 : decode cX4_init 54 = .ok (.bipush 8, 2) := by decide +kernel
theorem dX4_init_56 : decode cX4_init 56 = .ok (.newarray .int, 2) := by decide +kernel
theorem dX4_init_58 : decode cX4_init 58 = .ok (.putfield 37, 3) := by decide +kernel
theorem dX4_init_61 : decode cX4_init 61 = .ok (.aload_n 0, 1) := by decide +kernel
theorem dX4_init_62 : decode cX4_init 62 = .ok (.bipush 8, 2) := by decide +kernel
theorem dX4_init_64 : decode cX4_init 64 = .ok (.newarray .int, 2) := by decide +kernel
theorem dX4_init_66 : decode cX4_init 66 = .ok (.putfield 40, 3) := by decide +kernel
theorem dX4_init_69 : decode cX4_init 69 = .ok (.return_, 1) := by decide +kernel
theorem dX4_copyFrom_0 : decode cX4_copyFrom 0 = .ok (.aload_n 0, 1) := by decide +kernel
theorem dX4_copyFrom_1 : decode cX4_copyFrom 1 = .ok (.aload_n 1, 1) := by decide +kernel
theorem dX4_copyFrom_2 : decode cX4_copyFrom 2 = .ok (.getfield 9, 3) := by decide +kernel
theorem dX4_copyFrom_5 : decode cX4_copyFrom 5 = .ok (.putfield 9, 3) := by decide +kernel
theorem dX4_copyFrom_8 : decode cX4_copyFrom 8 = .ok (.aload_n 0, 1) := by decide +kernel
theorem dX4_copyFrom_9 : decode cX4_copyFrom 9 = .ok (.aload_n 1, 1) := by decide +kernel
theorem dX4_copyFrom_10 : decode cX4_copyFrom 10 = .ok (.getfield 15, 3) := by decide +kernel
theorem dX4_copyFrom_13 : decode cX4_copyFrom 13 = .ok (.putfield 15, 3) := by decide +kernel
theorem dX4_copyFrom_16 : decode cX4_copyFrom 16 = .ok (.aload_n 0, 1) := by decide +kernel
theorem dX4_copyFrom_17 : decode cX4_copyFrom 17 = .ok (.aload_n 1, 1) := by decide +kernel
theorem dX4_copyFrom_18 : decode cX4_copyFrom 18 = .ok (.getfield 18, 3) := by decide +kernel
theorem dX4_copyFrom_21 : decode cX4_copyFrom 21 = .ok (.putfield 18, 3) := by decide +kernel
theorem dX4_copyFrom_24 : decode cX4_copyFrom 24 = .ok (.aload_n 0, 1) := by decide +kernel
theorem dX4_copyFrom_25 : decode cX4_copyFrom 25 = .ok (.aload_n 1, 1) := by decide +kernel
theorem dX4_copyFrom_26 : decode cX4_copyFrom 26 = .ok (.getfield 21, 3) := by decide +kernel
theorem dX4_copyFrom_29 : decode cX4_copyFrom 29 = .ok (.putfield 21, 3) := by decide +kernel
theorem dX4_copyFrom_32 : decode cX4_copyFrom 32 = .ok (.aload_n 0, 1) := by decide +kernel
theorem dX4_copyFrom_33 : decode cX4_copyFrom 33 = .ok (.aload_n 1, 1) := by decide +kernel
theorem dX4_copyFrom_34 : decode cX4_copyFrom 34 = .ok (.getfield 24, 3) := by decide +kernel
theorem dX4_copyFrom_37 : decode cX4_copyFrom 37 = .ok (.putfield 24, 3) := by decide +kernel
theorem dX4_copyFrom_40 : decode cX4_copyFrom 40 = .ok (.iconst 0, 1) := by decide +kernel
theorem dX4_copyFrom_41 : decode cX4_copyFrom 41 = .ok (.istore_n 2, 1) := by decide +kernel
theorem dX4_copyFrom_42 : decode cX4_copyFrom 42 = .ok (.iload_n 2, 1) := by decide +kernel
theorem dX4_copyFrom_43 : decode cX4_copyFrom 43 = .ok (.bipush 36, 2) := by decide +kernel
theorem dX4_copyFrom_45 : decode cX4_copyFrom 45 = .ok (.if_icmp .ge 21, 3) := by decide +kernel
theorem dX4_copyFrom_48 : decode cX4_copyFrom 48 = .ok (.aload_n 0, 1) := by decide +kernel
theorem dX4_copyFrom_49 : decode cX4_copyFrom 49 = .ok (.getfield 27, 3) := by decide +kernel
theorem dX4_copyFrom_52 : decode cX4_copyFrom 52 = .ok (.iload_n 2, 1) := by decide +kernel
theorem dX4_copyFrom_53 : decode cX4_copyFrom 53 = .ok (.aload_n 1, 1) := by decide +kernel
theorem dX4_copyFrom_54 : decode cX4_copyFrom 54 = .ok (.getfield 27, 3) := by decide +kernel
theorem dX4_copyFrom_57 : decode cX4_copyFrom 57 = .ok (.iload_n 2, 1) := by decide +kernel
theorem dX4_copyFrom_58 : decode cX4_copyFrom 58 = .ok (.iaload, 1) := by decide +kernel
theorem dX4_copyFrom_59 : decode cX4_copyFrom 59 = .ok (.iastore, 1) := by decide +kernel
theorem dX4_copyFrom_60 : decode cX4_copyFrom 60 = .ok (.iinc 2 1, 3) := by decide +kernel
theorem dX4_copyFrom_63 : decode cX4_copyFrom 63 = .ok (.goto (-21), 3) := by decide +kernel
theorem dX4_copyFrom_66 : decode cX4_copyFrom 66 = .ok (.iconst 0, 1) := by decide +kernel
theorem dX4_copyFrom_67 : decode cX4_copyFrom 67 = .ok (.istore_n 2, 1) := by decide +kernel
theorem dX4_copyFrom_68 : decode cX4_copyFrom 68 = .ok (.iload_n 2, 1) := by decide +kernel
theorem dX4_copyFrom_69 : decode cX4_copyFrom 69 = .ok (.bipush 8, 2) := by decide +kernel
theorem dX4_copyFrom_71 : decode cX4_copyFrom 71 = .ok (.if_icmp .ge 16, 3) := by decide +kernel
theorem dX4_copyFrom_74 : decode cX4_copyFrom 74 = .ok (.aload_n 0, 1) := by decide +kernel
theorem dX4_copyFrom_75 : decode cX4_copyFrom 75 = .ok (.iload_n 2, 1) := by decide +kernel
theorem dX4_copyFrom_76 : decode cX4_copyFrom 76 = .ok (.aload_n 1, 1) := by decide +kernel
theorem dX4_copyFrom_77 : decode cX4_copyFrom 77 = .ok (.iload_n 2, 1) := by decide +kernel
theorem dX4_copyFrom_78 : decode cX4_copyFrom 78 = .ok (.invokevirtual 43, 3) := by decide +kernel
theorem dX4_copyFrom_81 : decode cX4_copyFrom 81 = .ok (.iinc 2 1, 3) := by decide +kernel
theorem dX4_copyFrom_84 : decode cX4_copyFrom 84 = .ok (.goto (-16), 3) := by decide +kernel
theorem dX4_copyFrom_87 : decode cX4_copyFrom 87 = .ok (.return_, 1) := by decide +kernel
theorem dX4_copyPiece_0 : decode cX4_copyPiece 0 = .ok (.aload_n 0, 1) := by decide +kernel
theorem dX4_copyPiece_1 : decode cX4_copyPiece 1 = .ok (.getfield 31, 3) := by decide +kernel
theorem dX4_copyPiece_4 : decode cX4_copyPiece 4 = .ok (.iload_n 1, 1) := by decide +kernel
theorem dX4_copyPiece_5 : decode cX4_copyPiece 5 = .ok (.aload_n 2, 1) := by decide +kernel
theorem dX4_copyPiece_6 : decode cX4_copyPiece 6 = .ok (.iload_n 3, 1) := by decide +kernel
theorem dX4_copyPiece_7 : decode cX4_copyPiece 7 = .ok (.invokevirtual 47, 3) := by decide +kernel
theorem dX4_copyPiece_10 : decode cX4_copyPiece 10 = .ok (.invokestatic 51, 3) := by decide +kernel
theorem dX4_copyPiece_13 : decode cX4_copyPiece 13 = .ok (.aload_n 0, 1) := by decide +kernel
theorem dX4_copyPiece_14 : decode cX4_copyPiece 14 = .ok (.getfield 34, 3) := by decide +kernel
theorem dX4_copyPiece_17 : decode cX4_copyPiece 17 = .ok (.iload_n 1, 1) := by decide +kernel
theorem dX4_copyPiece_18 : decode cX4_copyPiece 18 = .ok (.aload_n 2, 1) := by decide +kernel
theorem dX4_copyPiece_19 : decode cX4_copyPiece 19 = .ok (.iload_n 3, 1) := by decide +kernel
theorem dX4_copyPiece_20 : decode cX4_copyPiece 20 = .ok (.invokevirtual 55, 3) := by decide +kernel
theorem dX4_copyPiece_23 : decode cX4_copyPiece 23 = .ok (.invokestatic 51, 3) := by decide +kernel
theorem dX4_copyPiece_26 : decode cX4_copyPiece 26 = .ok (.aload_n 0, 1) := by decide +kernel
theorem dX4_copyPiece_27 : decode cX4_copyPiece 27 = .ok (.getfield 37, 3) := by decide +kernel
theorem dX4_copyPiece_30 : decode cX4_copyPiece 30 = .ok (.iload_n 1, 1) := by decide +kernel
theorem dX4_copyPiece_31 : decode cX4_copyPiece 31 = .ok (.aload_n 2, 1) := by decide +kernel
theorem dX4_copyPiece_32 : decode cX4_copyPiece 32 = .ok (.iload_n 3, 1) := by decide +kernel
theorem dX4_copyPiece_33 : decode cX4_copyPiece 33 = .ok (.invokevirtual 58, 3) := by decide +kernel
theorem dX4_copyPiece_36 : decode cX4_copyPiece 36 = .ok (.invokestatic 51, 3) := by decide +kernel
theorem dX4_copyPiece_39 : decode cX4_copyPiece 39 = .ok (.aload_n 0, 1) := by decide +kernel
theorem dX4_copyPiece_40 : decode cX4_copyPiece 40 = .ok (.getfield 40, 3) := by decide +kernel
theorem dX4_copyPiece_43 : decode cX4_copyPiece 43 = .ok (.iload_n 1, 1) := by decide +kernel
theorem dX4_copyPiece_44 : decode cX4_copyPiece 44 = .ok (.aload_n 2, 1) := by decide +kernel
theorem dX4_copyPiece_45 : decode cX4_copyPiece 45 = .ok (.iload_n 3, 1) := by decide +kernel
theorem dX4_copyPiece_46 : decode cX4_copyPiece 46 = .ok (.invokevirtual 61, 3) := by decide +kernel
theorem dX4_copyPiece_49 : decode cX4_copyPiece 49 = .ok (.invokestatic 51, 3) := by decide +kernel
theorem dX4_copyPiece_52 : decode cX4_copyPiece 52 = .ok (.return_, 1) := by decide +kernel
theorem dX4_makeBoard_0 : decode cX4_makeBoard 0 = .ok (.aload_n 0, 1) := by decide +kernel
theorem dX4_makeBoard_1 : decode cX4_makeBoard 1 = .ok (.iload_n 1, 1) := by decide +kernel
theorem dX4_makeBoard_2 : decode cX4_makeBoard 2 = .ok (.putfield 9, 3) := by decide +kernel
theorem dX4_makeBoard_5 : decode cX4_makeBoard 5 = .ok (.aload_n 0, 1) := by decide +kernel
theorem dX4_makeBoard_6 : decode cX4_makeBoard 6 = .ok (.iload_n 2, 1) := by decide +kernel
theorem dX4_makeBoard_7 : decode cX4_makeBoard 7 = .ok (.putfield 15, 3) := by decide +kernel
theorem dX4_makeBoard_10 : decode cX4_makeBoard 10 = .ok (.iconst 0, 1) := by decide +kernel
theorem dX4_makeBoard_11 : decode cX4_makeBoard 11 = .ok (.istore_n 3, 1) := by decide +kernel
theorem dX4_makeBoard_12 : decode cX4_makeBoard 12 = .ok (.iload_n 3, 1) := by decide +kernel
theorem dX4_makeBoard_13 : decode cX4_makeBoard 13 = .ok (.bipush 36, 2) := by decide +kernel
theorem dX4_makeBoard_15 : decode cX4_makeBoard 15 = .ok (.if_icmp .ge 16, 3) := by decide +kernel
theorem dX4_makeBoard_18 : decode cX4_makeBoard 18 = .ok (.aload_n 0, 1) := by decide +kernel
theorem dX4_makeBoard_19 : decode cX4_makeBoard 19 = .ok (.getfield 27, 3) := by decide +kernel
theorem dX4_makeBoard_22 : decode cX4_makeBoard 22 = .ok (.iload_n 3, 1) := by decide +kernel
theorem dX4_makeBoard_23 : decode cX4_makeBoard 23 = .ok (.iconst 0, 1) := by decide +kernel
theorem dX4_makeBoard_24 : decode cX4_makeBoard 24 = .ok (.iastore, 1) := by decide +kernel
theorem dX4_makeBoard_25 : decode cX4_makeBoard 25 = .ok (.iinc 3 1, 3) := by decide +kernel
theorem dX4_makeBoard_28 : decode cX4_makeBoard 28 = .ok (.goto (-16), 3) := by decide +kernel
theorem dX4_makeBoard_31 : decode cX4_makeBoard 31 = .ok (.return_, 1) := by decide +kernel
theorem dX4_cellCount_0 : decode cX4_cellCount 0 = .ok (.aload_n 0, 1) := by decide +kernel
theorem dX4_cellCount_1 : decode cX4_cellCount 1 = .ok (.getfield 9, 3) := by decide +kernel
theorem dX4_cellCount_4 : decode cX4_cellCount 4 = .ok (.aload_n 0, 1) := by decide +kernel
theorem dX4_cellCount_5 : decode cX4_cellCount 5 = .ok (.getfield 15, 3) := by decide +kernel
theorem dX4_cellCount_8 : decode cX4_cellCount 8 = .ok (.imul, 1) := by decide +kernel
theorem dX4_cellCount_9 : decode cX4_cellCount 9 = .ok (.ireturn, 1) := by decide +kernel
theorem dX4_hasCell_0 : decode cX4_hasCell 0 = .ok (.iload_n 1, 1) := by decide +kernel
theorem dX4_hasCell_1 : decode cX4_hasCell 1 = .ok (.ifCond .lt 15, 3) := by decide +kernel
theorem dX4_hasCell_4 : decode cX4_hasCell 4 = .ok (.iload_n 1, 1) := by decide +kernel
theorem dX4_hasCell_5 : decode cX4_hasCell 5 = .ok (.aload_n 0, 1) := by decide +kernel
theorem dX4_hasCell_6 : decode cX4_hasCell 6 = .ok (.invokevirtual 64, 3) := by decide +kernel
theorem dX4_hasCell_9 : decode cX4_hasCell 9 = .ok (.if_icmp .ge 7, 3) := by decide +kernel
theorem dX4_hasCell_12 : decode cX4_hasCell 12 = .ok (.iconst 1, 1) := by decide +kernel
theorem dX4_hasCell_13 : decode cX4_hasCell 13 = .ok (.goto 4, 3) := by decide +kernel
theorem dX4_hasCell_16 : decode cX4_hasCell 16 = .ok (.iconst 0, 1) := by decide +kernel
theorem dX4_hasCell_17 : decode cX4_hasCell 17 = .ok (.ireturn, 1) := by decide +kernel
theorem dX4_cellAt_0 : decode cX4_cellAt 0 = .ok (.aload_n 0, 1) := by decide +kernel
theorem dX4_cellAt_1 : decode cX4_cellAt 1 = .ok (.getfield 27, 3) := by decide +kernel
theorem dX4_cellAt_4 : decode cX4_cellAt 4 = .ok (.iload_n 1, 1) := by decide +kernel
theorem dX4_cellAt_5 : decode cX4_cellAt 5 = .ok (.invokestatic 68, 3) := by decide +kernel
theorem dX4_cellAt_8 : decode cX4_cellAt 8 = .ok (.ireturn, 1) := by decide +kernel
theorem dX4_putCell_0 : decode cX4_putCell 0 = .ok (.aload_n 0, 1) := by decide +kernel
theorem dX4_putCell_1 : decode cX4_putCell 1 = .ok (.getfield 27, 3) := by decide +kernel
theorem dX4_putCell_4 : decode cX4_putCell 4 = .ok (.iload_n 1, 1) := by decide +kernel
theorem dX4_putCell_5 : decode cX4_putCell 5 = .ok (.iload_n 2, 1) := by decide +kernel
theorem dX4_putCell_6 : decode cX4_putCell 6 = .ok (.invokestatic 51, 3) := by decide +kernel
theorem dX4_putCell_9 : decode cX4_putCell 9 = .ok (.return_, 1) := by decide +kernel
theorem dX4_isHole_0 : decode cX4_isHole 0 = .ok (.aload_n 0, 1) := by decide +kernel
theorem dX4_isHole_1 : decode cX4_isHole 1 = .ok (.iload_n 1, 1) := by decide +kernel
theorem dX4_isHole_2 : decode cX4_isHole 2 = .ok (.invokevirtual 72, 3) := by decide +kernel
theorem dX4_isHole_5 : decode cX4_isHole 5 = .ok (.iconst (-1), 1) := by decide +kernel
theorem dX4_isHole_6 : decode cX4_isHole 6 = .ok (.if_icmp .ne 7, 3) := by decide +kernel
theorem dX4_isHole_9 : decode cX4_isHole 9 = .ok (.iconst 1, 1) := by decide +kernel
theorem dX4_isHole_10 : decode cX4_isHole 10 = .ok (.goto 4, 3) := by decide +kernel
theorem dX4_isHole_13 : decode cX4_isHole 13 = .ok (.iconst 0, 1) := by decide +kernel
theorem dX4_isHole_14 : decode cX4_isHole 14 = .ok (.ireturn, 1) := by decide +kernel
theorem dX4_columnOf_0 : decode cX4_columnOf 0 = .ok (.aload_n 0, 1) := by decide +kernel
theorem dX4_columnOf_1 : decode cX4_columnOf 1 = .ok (.getfield 9, 3) := by decide +kernel
theorem dX4_columnOf_4 : decode cX4_columnOf 4 = .ok (.ifCond .le 12, 3) := by decide +kernel
theorem dX4_columnOf_7 : decode cX4_columnOf 7 = .ok (.iload_n 1, 1) := by decide +kernel
theorem dX4_columnOf_8 : decode cX4_columnOf 8 = .ok (.aload_n 0, 1) := by decide +kernel
theorem dX4_columnOf_9 : decode cX4_columnOf 9 = .ok (.getfield 9, 3) := by decide +kernel
theorem dX4_columnOf_12 : decode cX4_columnOf 12 = .ok (.irem, 1) := by decide +kernel
theorem dX4_columnOf_13 : decode cX4_columnOf 13 = .ok (.goto 4, 3) := by decide +kernel
theorem dX4_columnOf_16 : decode cX4_columnOf 16 = .ok (.iconst 0, 1) := by decide +kernel
theorem dX4_columnOf_17 : decode cX4_columnOf 17 = .ok (.ireturn, 1) := by decide +kernel
theorem dX4_rowOf_0 : decode cX4_rowOf 0 = .ok (.aload_n 0, 1) := by decide +kernel
theorem dX4_rowOf_1 : decode cX4_rowOf 1 = .ok (.getfield 9, 3) := by decide +kernel
theorem dX4_rowOf_4 : decode cX4_rowOf 4 = .ok (.ifCond .le 12, 3) := by decide +kernel
theorem dX4_rowOf_7 : decode cX4_rowOf 7 = .ok (.iload_n 1, 1) := by decide +kernel
theorem dX4_rowOf_8 : decode cX4_rowOf 8 = .ok (.aload_n 0, 1) := by decide +kernel
theorem dX4_rowOf_9 : decode cX4_rowOf 9 = .ok (.getfield 9, 3) := by decide +kernel
theorem dX4_rowOf_12 : decode cX4_rowOf 12 = .ok (.idiv, 1) := by decide +kernel
theorem dX4_rowOf_13 : decode cX4_rowOf 13 = .ok (.goto 4, 3) := by decide +kernel
theorem dX4_rowOf_16 : decode cX4_rowOf 16 = .ok (.iconst 0, 1) := by decide +kernel
theorem dX4_rowOf_17 : decode cX4_rowOf 17 = .ok (.ireturn, 1) := by decide +kernel
theorem dX4_openCount_0 : decode cX4_openCount 0 = .ok (.aload_n 0, 1) := by decide +kernel
theorem dX4_openCount_1 : decode cX4_openCount 1 = .ok (.invokevirtual 75, 3) := by decide +kernel
theorem dX4_openCount_4 : decode cX4_openCount 4 = .ok (.invokestatic 79, 3) := by decide +kernel
theorem dX4_openCount_7 : decode cX4_openCount 7 = .ok (.ireturn, 1) := by decide +kernel
theorem dX4_openMask_0 : decode cX4_openMask 0 = .ok (.lconst 0, 1) := by decide +kernel
theorem dX4_openMask_1 : decode cX4_openMask 1 = .ok (.lstore_n 1, 1) := by decide +kernel
theorem dX4_openMask_2 : decode cX4_openMask 2 = .ok (.iconst 0, 1) := by decide +kernel
theorem dX4_openMask_3 : decode cX4_openMask 3 = .ok (.istore_n 3, 1) := by decide +kernel
theorem dX4_openMask_4 : decode cX4_openMask 4 = .ok (.iload_n 3, 1) := by decide +kernel
theorem dX4_openMask_5 : decode cX4_openMask 5 = .ok (.aload_n 0, 1) := by decide +kernel
theorem dX4_openMask_6 : decode cX4_openMask 6 = .ok (.invokevirtual 64, 3) := by decide +kernel
theorem dX4_openMask_9 : decode cX4_openMask 9 = .ok (.if_icmp .ge 23, 3) := by decide +kernel
theorem dX4_openMask_12 : decode cX4_openMask 12 = .ok (.aload_n 0, 1) := by decide +kernel
theorem dX4_openMask_13 : decode cX4_openMask 13 = .ok (.iload_n 3, 1) := by decide +kernel
theorem dX4_openMask_14 : decode cX4_openMask 14 = .ok (.invokevirtual 85, 3) := by decide +kernel
theorem dX4_openMask_17 : decode cX4_openMask 17 = .ok (.ifCond .ne 9, 3) := by decide +kernel
theorem dX4_openMask_20 : decode cX4_openMask 20 = .ok (.lload_n 1, 1) := by decide +kernel
theorem dX4_openMask_21 : decode cX4_openMask 21 = .ok (.lconst 1, 1) := by decide +kernel
theorem dX4_openMask_22 : decode cX4_openMask 22 = .ok (.iload_n 3, 1) := by decide +kernel
theorem dX4_openMask_23 : decode cX4_openMask 23 = .ok (.lshl, 1) := by decide +kernel
theorem dX4_openMask_24 : decode cX4_openMask 24 = .ok (.lor, 1) := by decide +kernel
theorem dX4_openMask_25 : decode cX4_openMask 25 = .ok (.lstore_n 1, 1) := by decide +kernel
theorem dX4_openMask_26 : decode cX4_openMask 26 = .ok (.iinc 3 1, 3) := by decide +kernel
theorem dX4_openMask_29 : decode cX4_openMask 29 = .ok (.goto (-25), 3) := by decide +kernel
theorem dX4_openMask_32 : decode cX4_openMask 32 = .ok (.lload_n 1, 1) := by decide +kernel
theorem dX4_openMask_33 : decode cX4_openMask 33 = .ok (.lreturn, 1) := by decide +kernel
theorem dX4_takesColour_0 : decode cX4_takesColour 0 = .ok (.aload_n 0, 1) := by decide +kernel
theorem dX4_takesColour_1 : decode cX4_takesColour 1 = .ok (.getfield 27, 3) := by decide +kernel
theorem dX4_takesColour_4 : decode cX4_takesColour 4 = .ok (.iload_n 1, 1) := by decide +kernel
theorem dX4_takesColour_5 : decode cX4_takesColour 5 = .ok (.invokestatic 68, 3) := by decide +kernel
theorem dX4_takesColour_8 : decode cX4_takesColour 8 = .ok (.istore_n 3, 1) := by decide +kernel
theorem dX4_takesColour_9 : decode cX4_takesColour 9 = .ok (.iload_n 3, 1) := by decide +kernel
theorem dX4_takesColour_10 : decode cX4_takesColour 10 = .ok (.ifCond .eq 8, 3) := by decide +kernel
theorem dX4_takesColour_13 : decode cX4_takesColour 13 = .ok (.iload_n 3, 1) := by decide +kernel
theorem dX4_takesColour_14 : decode cX4_takesColour 14 = .ok (.iload_n 2, 1) := by decide +kernel
theorem dX4_takesColour_15 : decode cX4_takesColour 15 = .ok (.if_icmp .ne 7, 3) := by decide +kernel
theorem dX4_takesColour_18 : decode cX4_takesColour 18 = .ok (.iconst 1, 1) := by decide +kernel
theorem dX4_takesColour_19 : decode cX4_takesColour 19 = .ok (.goto 4, 3) := by decide +kernel
theorem dX4_takesColour_22 : decode cX4_takesColour 22 = .ok (.iconst 0, 1) := by decide +kernel
theorem dX4_takesColour_23 : decode cX4_takesColour 23 = .ok (.ireturn, 1) := by decide +kernel
theorem dX4_hasPiece_0 : decode cX4_hasPiece 0 = .ok (.iload_n 1, 1) := by decide +kernel
theorem dX4_hasPiece_1 : decode cX4_hasPiece 1 = .ok (.ifCond .lt 15, 3) := by decide +kernel
theorem dX4_hasPiece_4 : decode cX4_hasPiece 4 = .ok (.iload_n 1, 1) := by decide +kernel
theorem dX4_hasPiece_5 : decode cX4_hasPiece 5 = .ok (.aload_n 0, 1) := by decide +kernel
theorem dX4_hasPiece_6 : decode cX4_hasPiece 6 = .ok (.getfield 24, 3) := by decide +kernel
theorem dX4_hasPiece_9 : decode cX4_hasPiece 9 = .ok (.if_icmp .ge 7, 3) := by decide +kernel
theorem dX4_hasPiece_12 : decode cX4_hasPiece 12 = .ok (.iconst 1, 1) := by decide +kernel
theorem dX4_hasPiece_13 : decode cX4_hasPiece 13 = .ok (.goto 4, 3) := by decide +kernel
theorem dX4_hasPiece_16 : decode cX4_hasPiece 16 = .ok (.iconst 0, 1) := by decide +kernel
theorem dX4_hasPiece_17 : decode cX4_hasPiece 17 = .ok (.ireturn, 1) := by decide +kernel
theorem dX4_shapeOf_0 : decode cX4_shapeOf 0 = .ok (.aload_n 0, 1) := by decide +kernel
theorem dX4_shapeOf_1 : decode cX4_shapeOf 1 = .ok (.getfield 31, 3) := by decide +kernel
theorem dX4_shapeOf_4 : decode cX4_shapeOf 4 = .ok (.iload_n 1, 1) := by decide +kernel
theorem dX4_shapeOf_5 : decode cX4_shapeOf 5 = .ok (.invokestatic 68, 3) := by decide +kernel
theorem dX4_shapeOf_8 : decode cX4_shapeOf 8 = .ok (.ireturn, 1) := by decide +kernel
theorem dX4_freedomOf_0 : decode cX4_freedomOf 0 = .ok (.aload_n 0, 1) := by decide +kernel
theorem dX4_freedomOf_1 : decode cX4_freedomOf 1 = .ok (.getfield 34, 3) := by decide +kernel
theorem dX4_freedomOf_4 : decode cX4_freedomOf 4 = .ok (.iload_n 1, 1) := by decide +kernel
theorem dX4_freedomOf_5 : decode cX4_freedomOf 5 = .ok (.invokestatic 68, 3) := by decide +kernel
theorem dX4_freedomOf_8 : decode cX4_freedomOf 8 = .ok (.ireturn, 1) := by decide +kernel
theorem dX4_colourOf_0 : decode cX4_colourOf 0 = .ok (.aload_n 0, 1) := by decide +kernel
theorem dX4_colourOf_1 : decode cX4_colourOf 1 = .ok (.getfield 37, 3) := by decide +kernel
theorem dX4_colourOf_4 : decode cX4_colourOf 4 = .ok (.iload_n 1, 1) := by decide +kernel
theorem dX4_colourOf_5 : decode cX4_colourOf 5 = .ok (.invokestatic 68, 3) := by decide +kernel
theorem dX4_colourOf_8 : decode cX4_colourOf 8 = .ok (.ireturn, 1) := by decide +kernel
theorem dX4_copiesOf_0 : decode cX4_copiesOf 0 = .ok (.aload_n 0, 1) := by decide +kernel
theorem dX4_copiesOf_1 : decode cX4_copiesOf 1 = .ok (.getfield 40, 3) := by decide +kernel
theorem dX4_copiesOf_4 : decode cX4_copiesOf 4 = .ok (.iload_n 1, 1) := by decide +kernel
theorem dX4_copiesOf_5 : decode cX4_copiesOf 5 = .ok (.invokestatic 68, 3) := by decide +kernel
theorem dX4_copiesOf_8 : decode cX4_copiesOf 8 = .ok (.ireturn, 1) := by decide +kernel
theorem dX4_append_0 : decode cX4_append 0 = .ok (.aload_n 0, 1) := by decide +kernel
theorem dX4_append_1 : decode cX4_append 1 = .ok (.getfield 24, 3) := by decide +kernel
theorem dX4_append_4 : decode cX4_append 4 = .ok (.bipush 8, 2) := by decide +kernel
theorem dX4_append_6 : decode cX4_append 6 = .ok (.if_icmp .ge 62, 3) := by decide +kernel
theorem dX4_append_9 : decode cX4_append 9 = .ok (.aload_n 0, 1) := by decide +kernel
theorem dX4_append_10 : decode cX4_append 10 = .ok (.getfield 31, 3) := by decide +kernel
theorem dX4_append_13 : decode cX4_append 13 = .ok (.aload_n 0, 1) := by decide +kernel
theorem dX4_append_14 : decode cX4_append 14 = .ok (.getfield 24, 3) := by decide +kernel
theorem dX4_append_17 : decode cX4_append 17 = .ok (.iload_n 1, 1) := by decide +kernel
theorem dX4_append_18 : decode cX4_append 18 = .ok (.invokestatic 51, 3) := by decide +kernel
theorem dX4_append_21 : decode cX4_append 21 = .ok (.aload_n 0, 1) := by decide +kernel
theorem dX4_append_22 : decode cX4_append 22 = .ok (.getfield 34, 3) := by decide +kernel
theorem dX4_append_25 : decode cX4_append 25 = .ok (.aload_n 0, 1) := by decide +kernel
theorem dX4_append_26 : decode cX4_append 26 = .ok (.getfield 24, 3) := by decide +kernel
theorem dX4_append_29 : decode cX4_append 29 = .ok (.iload_n 2, 1) := by decide +kernel
theorem dX4_append_30 : decode cX4_append 30 = .ok (.invokestatic 51, 3) := by decide +kernel
theorem dX4_append_33 : decode cX4_append 33 = .ok (.aload_n 0, 1) := by decide +kernel
theorem dX4_append_34 : decode cX4_append 34 = .ok (.getfield 37, 3) := by decide +kernel
theorem dX4_append_37 : decode cX4_append 37 = .ok (.aload_n 0, 1) := by decide +kernel
theorem dX4_append_38 : decode cX4_append 38 = .ok (.getfield 24, 3) := by decide +kernel
theorem dX4_append_41 : decode cX4_append 41 = .ok (.iload_n 3, 1) := by decide +kernel
theorem dX4_append_42 : decode cX4_append 42 = .ok (.invokestatic 51, 3) := by decide +kernel
theorem dX4_append_45 : decode cX4_append 45 = .ok (.aload_n 0, 1) := by decide +kernel
theorem dX4_append_46 : decode cX4_append 46 = .ok (.getfield 40, 3) := by decide +kernel
theorem dX4_append_49 : decode cX4_append 49 = .ok (.aload_n 0, 1) := by decide +kernel
theorem dX4_append_50 : decode cX4_append 50 = .ok (.getfield 24, 3) := by decide +kernel
theorem dX4_append_53 : decode cX4_append 53 = .ok (.iload 4, 2) := by decide +kernel
theorem dX4_append_55 : decode cX4_append 55 = .ok (.invokestatic 51, 3) := by decide +kernel
theorem dX4_append_58 : decode cX4_append 58 = .ok (.aload_n 0, 1) := by decide +kernel
theorem dX4_append_59 : decode cX4_append 59 = .ok (.dup, 1) := by decide +kernel
theorem dX4_append_60 : decode cX4_append 60 = .ok (.getfield 24, 3) := by decide +kernel
theorem dX4_append_63 : decode cX4_append 63 = .ok (.iconst 1, 1) := by decide +kernel
theorem dX4_append_64 : decode cX4_append 64 = .ok (.iadd, 1) := by decide +kernel
theorem dX4_append_65 : decode cX4_append 65 = .ok (.putfield 24, 3) := by decide +kernel
theorem dX4_append_68 : decode cX4_append 68 = .ok (.return_, 1) := by decide +kernel
theorem dX4_dropPiece_0 : decode cX4_dropPiece 0 = .ok (.iload_n 1, 1) := by decide +kernel
theorem dX4_dropPiece_1 : decode cX4_dropPiece 1 = .ok (.iconst 1, 1) := by decide +kernel
theorem dX4_dropPiece_2 : decode cX4_dropPiece 2 = .ok (.iadd, 1) := by decide +kernel
theorem dX4_dropPiece_3 : decode cX4_dropPiece 3 = .ok (.istore_n 2, 1) := by decide +kernel
theorem dX4_dropPiece_4 : decode cX4_dropPiece 4 = .ok (.iload_n 2, 1) := by decide +kernel
theorem dX4_dropPiece_5 : decode cX4_dropPiece 5 = .ok (.aload_n 0, 1) := by decide +kernel
theorem dX4_dropPiece_6 : decode cX4_dropPiece 6 = .ok (.getfield 24, 3) := by decide +kernel
theorem dX4_dropPiece_9 : decode cX4_dropPiece 9 = .ok (.if_icmp .ge 18, 3) := by decide +kernel
theorem dX4_dropPiece_12 : decode cX4_dropPiece 12 = .ok (.aload_n 0, 1) := by decide +kernel
theorem dX4_dropPiece_13 : decode cX4_dropPiece 13 = .ok (.iload_n 2, 1) := by decide +kernel
theorem dX4_dropPiece_14 : decode cX4_dropPiece 14 = .ok (.iconst 1, 1) := by decide +kernel
theorem dX4_dropPiece_15 : decode cX4_dropPiece 15 = .ok (.isub, 1) := by decide +kernel
theorem dX4_dropPiece_16 : decode cX4_dropPiece 16 = .ok (.aload_n 0, 1) := by decide +kernel
theorem dX4_dropPiece_17 : decode cX4_dropPiece 17 = .ok (.iload_n 2, 1) := by decide +kernel
theorem dX4_dropPiece_18 : decode cX4_dropPiece 18 = .ok (.invokevirtual 43, 3) := by decide +kernel
theorem dX4_dropPiece_21 : decode cX4_dropPiece 21 = .ok (.iinc 2 1, 3) := by decide +kernel
theorem dX4_dropPiece_24 : decode cX4_dropPiece 24 = .ok (.goto (-20), 3) := by decide +kernel
theorem dX4_dropPiece_27 : decode cX4_dropPiece 27 = .ok (.aload_n 0, 1) := by decide +kernel
theorem dX4_dropPiece_28 : decode cX4_dropPiece 28 = .ok (.dup, 1) := by decide +kernel
theorem dX4_dropPiece_29 : decode cX4_dropPiece 29 = .ok (.getfield 24, 3) := by decide +kernel
theorem dX4_dropPiece_32 : decode cX4_dropPiece 32 = .ok (.iconst 1, 1) := by decide +kernel
theorem dX4_dropPiece_33 : decode cX4_dropPiece 33 = .ok (.isub, 1) := by decide +kernel
theorem dX4_dropPiece_34 : decode cX4_dropPiece 34 = .ok (.putfield 24, 3) := by decide +kernel
theorem dX4_dropPiece_37 : decode cX4_dropPiece 37 = .ok (.return_, 1) := by decide +kernel
theorem dX4_copyCount_0 : decode cX4_copyCount 0 = .ok (.iconst 0, 1) := by decide +kernel
theorem dX4_copyCount_1 : decode cX4_copyCount 1 = .ok (.istore_n 1, 1) := by decide +kernel
theorem dX4_copyCount_2 : decode cX4_copyCount 2 = .ok (.iconst 0, 1) := by decide +kernel
theorem dX4_copyCount_3 : decode cX4_copyCount 3 = .ok (.istore_n 2, 1) := by decide +kernel
theorem dX4_copyCount_4 : decode cX4_copyCount 4 = .ok (.iload_n 2, 1) := by decide +kernel
theorem dX4_copyCount_5 : decode cX4_copyCount 5 = .ok (.aload_n 0, 1) := by decide +kernel
theorem dX4_copyCount_6 : decode cX4_copyCount 6 = .ok (.getfield 24, 3) := by decide +kernel
theorem dX4_copyCount_9 : decode cX4_copyCount 9 = .ok (.if_icmp .ge 17, 3) := by decide +kernel
theorem dX4_copyCount_12 : decode cX4_copyCount 12 = .ok (.iload_n 1, 1) := by decide +kernel
theorem dX4_copyCount_13 : decode cX4_copyCount 13 = .ok (.aload_n 0, 1) := by decide +kernel
theorem dX4_copyCount_14 : decode cX4_copyCount 14 = .ok (.iload_n 2, 1) := by decide +kernel
theorem dX4_copyCount_15 : decode cX4_copyCount 15 = .ok (.invokevirtual 61, 3) := by decide +kernel
theorem dX4_copyCount_18 : decode cX4_copyCount 18 = .ok (.iadd, 1) := by decide +kernel
theorem dX4_copyCount_19 : decode cX4_copyCount 19 = .ok (.istore_n 1, 1) := by decide +kernel
theorem dX4_copyCount_20 : decode cX4_copyCount 20 = .ok (.iinc 2 1, 3) := by decide +kernel
theorem dX4_copyCount_23 : decode cX4_copyCount 23 = .ok (.goto (-19), 3) := by decide +kernel
theorem dX4_copyCount_26 : decode cX4_copyCount 26 = .ok (.iload_n 1, 1) := by decide +kernel
theorem dX4_copyCount_27 : decode cX4_copyCount 27 = .ok (.ireturn, 1) := by decide +kernel
theorem dX4_squareCount_0 : decode cX4_squareCount 0 = .ok (.iconst 0, 1) := by decide +kernel
theorem dX4_squareCount_1 : decode cX4_squareCount 1 = .ok (.istore_n 1, 1) := by decide +kernel
theorem dX4_squareCount_2 : decode cX4_squareCount 2 = .ok (.iconst 0, 1) := by decide +kernel
theorem dX4_squareCount_3 : decode cX4_squareCount 3 = .ok (.istore_n 2, 1) := by decide +kernel
theorem dX4_squareCount_4 : decode cX4_squareCount 4 = .ok (.iload_n 2, 1) := by decide +kernel
theorem dX4_squareCount_5 : decode cX4_squareCount 5 = .ok (.aload_n 0, 1) := by decide +kernel
theorem dX4_squareCount_6 : decode cX4_squareCount 6 = .ok (.getfield 24, 3) := by decide +kernel
theorem dX4_squareCount_9 : decode cX4_squareCount 9 = .ok (.if_icmp .ge 26, 3) := by decide +kernel
theorem dX4_squareCount_12 : decode cX4_squareCount 12 = .ok (.iload_n 1, 1) := by decide +kernel
theorem dX4_squareCount_13 : decode cX4_squareCount 13 = .ok (.aload_n 0, 1) := by decide +kernel
theorem dX4_squareCount_14 : decode cX4_squareCount 14 = .ok (.iload_n 2, 1) := by decide +kernel
theorem dX4_squareCount_15 : decode cX4_squareCount 15 = .ok (.invokevirtual 61, 3) := by decide +kernel
theorem dX4_squareCount_18 : decode cX4_squareCount 18 = .ok (.aload_n 0, 1) := by decide +kernel
theorem dX4_squareCount_19 : decode cX4_squareCount 19 = .ok (.iload_n 2, 1) := by decide +kernel
theorem dX4_squareCount_20 : decode cX4_squareCount 20 = .ok (.invokevirtual 47, 3) := by decide +kernel
theorem dX4_squareCount_23 : decode cX4_squareCount 23 = .ok (.invokestatic 89, 3) := by decide +kernel
theorem dX4_squareCount_26 : decode cX4_squareCount 26 = .ok (.imul, 1) := by decide +kernel
theorem dX4_squareCount_27 : decode cX4_squareCount 27 = .ok (.iadd, 1) := by decide +kernel
theorem dX4_squareCount_28 : decode cX4_squareCount 28 = .ok (.istore_n 1, 1) := by decide +kernel
theorem dX4_squareCount_29 : decode cX4_squareCount 29 = .ok (.iinc 2 1, 3) := by decide +kernel
theorem dX4_squareCount_32 : decode cX4_squareCount 32 = .ok (.goto (-28), 3) := by decide +kernel
theorem dX4_squareCount_35 : decode cX4_squareCount 35 = .ok (.iload_n 1, 1) := by decide +kernel
theorem dX4_squareCount_36 : decode cX4_squareCount 36 = .ok (.ireturn, 1) := by decide +kernel
theorem dX5_init_0 : decode cX5_init 0 = .ok (.aload_n 0, 1) := by decide +kernel
theorem dX5_init_1 : decode cX5_init 1 = .ok (.invokespecial 3, 3) := by decide +kernel
theorem dX5_init_4 : decode cX5_init 4 = .ok (.aload_n 0, 1) := by decide +kernel
theorem dX5_init_5 : decode cX5_init 5 = .ok (.sipush 160, 3) := by decide +kernel
theorem dX5_init_8 : decode cX5_init 8 = .ok (.newarray .int, 2) := by decide +kernel
theorem dX5_init_10 : decode cX5_init 10 = .ok (.putfield 9, 3) := by decide +kernel
theorem dX5_init_13 : decode cX5_init 13 = .ok (.aload_n 0, 1) := by decide +kernel
theorem dX5_init_14 : decode cX5_init 14 = .ok (.iconst 0, 1) := by decide +kernel
theorem dX5_init_15 : decode cX5_init 15 = .ok (.putfield 15, 3) := by decide +kernel
theorem dX5_init_18 : decode cX5_init 18 = .ok (.aload_n 0, 1) := by decide +kernel
theorem dX5_init_19 : decode cX5_init 19 = .ok (.new 19, 3) := by decide +kernel
theorem dX5_init_22 : decode cX5_init 22 = .ok (.dup, 1) := by decide +kernel
theorem dX5_init_23 : decode cX5_init 23 = .ok (.invokespecial 21, 3) := by decide +kernel
theorem dX5_init_26 : decode cX5_init 26 = .ok (.putfield 22, 3) := by decide +kernel
theorem dX5_init_29 : decode cX5_init 29 = .ok (.aload_n 0, 1) := by decide +kernel
theorem dX5_init_30 : decode cX5_init 30 = .ok (.iconst 0, 1) := by decide +kernel
theorem dX5_init_31 : decode cX5_init 31 = .ok (.putfield 26, 3) := by decide +kernel
theorem dX5_init_34 : decode cX5_init 34 = .ok (.aload_n 0, 1) := by decide +kernel
theorem dX5_init_35 : decode cX5_init 35 = .ok (.iconst 0, 1) := by decide +kernel
theorem dX5_init_36 : decode cX5_init 36 = .ok (.putfield 29, 3) := by decide +kernel
theorem dX5_init_39 : decode cX5_init 39 = .ok (.aload_n 0, 1) := by decide +kernel
theorem dX5_init_40 : decode cX5_init 40 = .ok (.iconst 0, 1) := by decide +kernel
theorem dX5_init_41 : decode cX5_init 41 = .ok (.putfield 32, 3) := by decide +kernel
theorem dX5_init_44 : decode cX5_init 44 = .ok (.aload_n 0, 1) := by decide +kernel
theorem dX5_init_45 : decode cX5_init 45 = .ok (.iconst 0, 1) := by decide +kernel
theorem dX5_init_46 : decode cX5_init 46 = .ok (.putfield 35, 3) := by decide +kernel
theorem dX5_init_49 : decode cX5_init 49 = .ok (.return_, 1) := by decide +kernel
theorem dX5_append_0 : decode cX5_append 0 = .ok (.aload_n 0, 1) := by decide +kernel
theorem dX5_append_1 : decode cX5_append 1 = .ok (.getfield 15, 3) := by decide +kernel
theorem dX5_append_4 : decode cX5_append 4 = .ok (.ifCond .lt 33, 3) := by decide +kernel
theorem dX5_append_7 : decode cX5_append 7 = .ok (.aload_n 0, 1) := by decide +kernel
theorem dX5_append_8 : decode cX5_append 8 = .ok (.getfield 15, 3) := by decide +kernel
theorem dX5_append_11 : decode cX5_append 11 = .ok (.sipush 160, 3) := by decide +kernel
theorem dX5_append_14 : decode cX5_append 14 = .ok (.if_icmp .ge 23, 3) := by decide +kernel
theorem dX5_append_17 : decode cX5_append 17 = .ok (.aload_n 0, 1) := by decide +kernel
theorem dX5_append_18 : decode cX5_append 18 = .ok (.getfield 9, 3) := by decide +kernel
theorem dX5_append_21 : decode cX5_append 21 = .ok (.aload_n 0, 1) := by decide +kernel
theorem dX5_append_22 : decode cX5_append 22 = .ok (.getfield 15, 3) := by decide +kernel
theorem dX5_append_25 : decode cX5_append 25 = .ok (.iload_n 1, 1) := by decide +kernel
theorem dX5_append_26 : decode cX5_append 26 = .ok (.iastore, 1) := by decide +kernel
theorem dX5_append_27 : decode cX5_append 27 = .ok (.aload_n 0, 1) := by decide +kernel
theorem dX5_append_28 : decode cX5_append 28 = .ok (.dup, 1) := by decide +kernel
theorem dX5_append_29 : decode cX5_append 29 = .ok (.getfield 15, 3) := by decide +kernel
theorem dX5_append_32 : decode cX5_append 32 = .ok (.iconst 1, 1) := by decide +kernel
theorem dX5_append_33 : decode cX5_append 33 = .ok (.iadd, 1) := by decide +kernel
theorem dX5_append_34 : decode cX5_append 34 = .ok (.putfield 15, 3) := by decide +kernel
theorem dX5_append_37 : decode cX5_append 37 = .ok (.return_, 1) := by decide +kernel
theorem dX5_handOver_0 : decode cX5_handOver 0 = .ok (.aload_n 0, 1) := by decide +kernel
theorem dX5_handOver_1 : decode cX5_handOver 1 = .ok (.getfield 22, 3) := by decide +kernel
theorem dX5_handOver_4 : decode cX5_handOver 4 = .ok (.aload_n 1, 1) := by decide +kernel
theorem dX5_handOver_5 : decode cX5_handOver 5 = .ok (.getfield 38, 3) := by decide +kernel
theorem dX5_handOver_8 : decode cX5_handOver 8 = .ok (.putfield 38, 3) := by decide +kernel
theorem dX5_handOver_11 : decode cX5_handOver 11 = .ok (.aload_n 0, 1) := by decide +kernel
theorem dX5_handOver_12 : decode cX5_handOver 12 = .ok (.getfield 22, 3) := by decide +kernel
theorem dX5_handOver_15 : decode cX5_handOver 15 = .ok (.aload_n 1, 1) := by decide +kernel
theorem dX5_handOver_16 : decode cX5_handOver 16 = .ok (.getfield 41, 3) := by decide +kernel
theorem dX5_handOver_19 : decode cX5_handOver 19 = .ok (.putfield 41, 3) := by decide +kernel
theorem dX5_handOver_22 : decode cX5_handOver 22 = .ok (.aload_n 1, 1) := by decide +kernel
theorem dX5_handOver_23 : decode cX5_handOver 23 = .ok (.aload_n 0, 1) := by decide +kernel
theorem dX5_handOver_24 : decode cX5_handOver 24 = .ok (.getfield 22, 3) := by decide +kernel
theorem dX5_handOver_27 : decode cX5_handOver 27 = .ok (.invokevirtual 44, 3) := by decide +kernel
theorem dX5_handOver_30 : decode cX5_handOver 30 = .ok (.return_, 1) := by decide +kernel
theorem dX5_read_0 : decode cX5_read 0 = .ok (.aload_n 0, 1) := by decide +kernel
theorem dX5_read_1 : decode cX5_read 1 = .ok (.iconst 0, 1) := by decide +kernel
theorem dX5_read_2 : decode cX5_read 2 = .ok (.putfield 26, 3) := by decide +kernel
theorem dX5_read_5 : decode cX5_read 5 = .ok (.aload_n 0, 1) := by decide +kernel
theorem dX5_read_6 : decode cX5_read 6 = .ok (.getfield 22, 3) := by decide +kernel
theorem dX5_read_9 : decode cX5_read 9 = .ok (.iconst 0, 1) := by decide +kernel
theorem dX5_read_10 : decode cX5_read 10 = .ok (.putfield 48, 3) := by decide +kernel
theorem dX5_read_13 : decode cX5_read 13 = .ok (.aload_n 0, 1) := by decide +kernel
theorem dX5_read_14 : decode cX5_read 14 = .ok (.invokevirtual 51, 3) := by decide +kernel
theorem dX5_read_17 : decode cX5_read 17 = .ok (.ifCond .ne 8, 3) := by decide +kernel
theorem dX5_read_20 : decode cX5_read 20 = .ok (.aload_n 0, 1) := by decide +kernel
theorem dX5_read_21 : decode cX5_read 21 = .ok (.getfield 26, 3) := by decide +kernel
theorem dX5_read_24 : decode cX5_read 24 = .ok (.ireturn, 1) := by decide +kernel
theorem dX5_read_25 : decode cX5_read 25 = .ok (.iconst 0, 1) := by decide +kernel
theorem dX5_read_26 : decode cX5_read 26 = .ok (.istore_n 1, 1) := by decide +kernel
theorem dX5_read_27 : decode cX5_read 27 = .ok (.iload_n 1, 1) := by decide +kernel
theorem dX5_read_28 : decode cX5_read 28 = .ok (.bipush 8, 2) := by decide +kernel
theorem dX5_read_30 : decode cX5_read 30 = .ok (.if_icmp .ge 40, 3) := by decide +kernel
theorem dX5_read_33 : decode cX5_read 33 = .ok (.aload_n 0, 1) := by decide +kernel
theorem dX5_read_34 : decode cX5_read 34 = .ok (.invokevirtual 55, 3) := by decide +kernel
theorem dX5_read_37 : decode cX5_read 37 = .ok (.bipush 124, 2) := by decide +kernel
theorem dX5_read_39 : decode cX5_read 39 = .ok (.if_icmp .ne 31, 3) := by decide +kernel
theorem dX5_read_42 : decode cX5_read 42 = .ok (.aload_n 0, 1) := by decide +kernel
theorem dX5_read_43 : decode cX5_read 43 = .ok (.dup, 1) := by decide +kernel
theorem dX5_read_44 : decode cX5_read 44 = .ok (.getfield 26, 3) := by decide +kernel
theorem dX5_read_47 : decode cX5_read 47 = .ok (.iconst 1, 1) := by decide +kernel
theorem dX5_read_48 : decode cX5_read 48 = .ok (.iadd, 1) := by decide +kernel
theorem dX5_read_49 : decode cX5_read 49 = .ok (.putfield 26, 3) := by decide +kernel
theorem dX5_read_52 : decode cX5_read 52 = .ok (.aload_n 0, 1) := by decide +kernel
theorem dX5_read_53 : decode cX5_read 53 = .ok (.invokevirtual 59, 3) := by decide +kernel
theorem dX5_read_56 : decode cX5_read 56 = .ok (.ifCond .ne 8, 3) := by decide +kernel
theorem dX5_read_59 : decode cX5_read 59 = .ok (.aload_n 0, 1) := by decide +kernel
theorem dX5_read_60 : decode cX5_read 60 = .ok (.getfield 26, 3) := by decide +kernel
theorem dX5_read_63 : decode cX5_read 63 = .ok (.ireturn, 1) := by decide +kernel
theorem dX5_read_64 : decode cX5_read 64 = .ok (.iinc 1 1, 3) := by decide +kernel
theorem dX5_read_67 : decode cX5_read 67 = .ok (.goto (-40), 3) := by decide +kernel
theorem dX5_read_70 : decode cX5_read 70 = .ok (.aload_n 0, 1) := by decide +kernel
theorem dX5_read_71 : decode cX5_read 71 = .ok (.invokevirtual 55, 3) := by decide +kernel
theorem dX5_read_74 : decode cX5_read 74 = .ok (.iconst (-1), 1) := by decide +kernel
theorem dX5_read_75 : decode cX5_read 75 = .ok (.if_icmp .ne 7, 3) := by decide +kernel
theorem dX5_read_78 : decode cX5_read 78 = .ok (.iconst (-1), 1) := by decide +kernel
theorem dX5_read_79 : decode cX5_read 79 = .ok (.goto 7, 3) := by decide +kernel
theorem dX5_read_82 : decode cX5_read 82 = .ok (.aload_n 0, 1) := by decide +kernel
theorem dX5_read_83 : decode cX5_read 83 = .ok (.getfield 26, 3) := by decide +kernel
theorem dX5_read_86 : decode cX5_read 86 = .ok (.ireturn, 1) := by decide +kernel
theorem dX5_look_0 : decode cX5_look 0 = .ok (.aload_n 0, 1) := by decide +kernel
theorem dX5_look_1 : decode cX5_look 1 = .ok (.getfield 26, 3) := by decide +kernel
theorem dX5_look_4 : decode cX5_look 4 = .ok (.ifCond .lt 28, 3) := by decide +kernel
theorem dX5_look_7 : decode cX5_look 7 = .ok (.aload_n 0, 1) := by decide +kernel
theorem dX5_look_8 : decode cX5_look 8 = .ok (.getfield 26, 3) := by decide +kernel
theorem dX5_look_11 : decode cX5_look 11 = .ok (.aload_n 0, 1) := by decide +kernel
theorem dX5_look_12 : decode cX5_look 12 = .ok (.getfield 15, 3) := by decide +kernel
theorem dX5_look_15 : decode cX5_look 15 = .ok (.if_icmp .ge 17, 3) := by decide +kernel
theorem dX5_look_18 : decode cX5_look 18 = .ok (.aload_n 0, 1) := by decide +kernel
theorem dX5_look_19 : decode cX5_look 19 = .ok (.getfield 26, 3) := by decide +kernel
theorem dX5_look_22 : decode cX5_look 22 = .ok (.sipush 160, 3) := by decide +kernel
theorem dX5_look_25 : decode cX5_look 25 = .ok (.if_icmp .ge 7, 3) := by decide +kernel
theorem dX5_look_28 : decode cX5_look 28 = .ok (.iconst 1, 1) := by decide +kernel
theorem dX5_look_29 : decode cX5_look 29 = .ok (.goto 4, 3) := by decide +kernel
theorem dX5_look_32 : decode cX5_look 32 = .ok (.iconst 0, 1) := by decide +kernel
theorem dX5_look_33 : decode cX5_look 33 = .ok (.istore_n 1, 1) := by decide +kernel
theorem dX5_look_34 : decode cX5_look 34 = .ok (.iload_n 1, 1) := by decide +kernel
theorem dX5_look_35 : decode cX5_look 35 = .ok (.ifCond .eq 15, 3) := by decide +kernel
theorem dX5_look_38 : decode cX5_look 38 = .ok (.aload_n 0, 1) := by decide +kernel
theorem dX5_look_39 : decode cX5_look 39 = .ok (.getfield 9, 3) := by decide +kernel
theorem dX5_look_42 : decode cX5_look 42 = .ok (.aload_n 0, 1) := by decide +kernel
theorem dX5_look_43 : decode cX5_look 43 = .ok (.getfield 26, 3) := by decide +kernel
theorem dX5_look_46 : decode cX5_look 46 = .ok (.iaload, 1) := by decide +kernel
theorem dX5_look_47 : decode cX5_look 47 = .ok (.goto 4, 3) := by decide +kernel
theorem dX5_look_50 : decode cX5_look 50 = .ok (.iconst (-1), 1) := by decide +kernel
theorem dX5_look_51 : decode cX5_look 51 = .ok (.ireturn, 1) := by decide +kernel
theorem dX5_readBoard_0 : decode cX5_readBoard 0 = .ok (.aload_n 0, 1) := by decide +kernel
theorem dX5_readBoard_1 : decode cX5_readBoard 1 = .ok (.bipush 6, 2) := by decide +kernel
theorem dX5_readBoard_3 : decode cX5_readBoard 3 = .ok (.iconst 1, 1) := by decide +kernel
theorem dX5_readBoard_4 : decode cX5_readBoard 4 = .ok (.invokevirtual 62, 3) := by decide +kernel
theorem dX5_readBoard_7 : decode cX5_readBoard 7 = .ok (.ifCond .ne 5, 3) := by decide +kernel
theorem dX5_readBoard_10 : decode cX5_readBoard 10 = .ok (.iconst 0, 1) := by decide +kernel
theorem dX5_readBoard_11 : decode cX5_readBoard 11 = .ok (.ireturn, 1) := by decide +kernel
theorem dX5_readBoard_12 : decode cX5_readBoard 12 = .ok (.aload_n 0, 1) := by decide +kernel
theorem dX5_readBoard_13 : decode cX5_readBoard 13 = .ok (.getfield 22, 3) := by decide +kernel
theorem dX5_readBoard_16 : decode cX5_readBoard 16 = .ok (.aload_n 0, 1) := by decide +kernel
theorem dX5_readBoard_17 : decode cX5_readBoard 17 = .ok (.getfield 29, 3) := by decide +kernel
theorem dX5_readBoard_20 : decode cX5_readBoard 20 = .ok (.putfield 66, 3) := by decide +kernel
theorem dX5_readBoard_23 : decode cX5_readBoard 23 = .ok (.aload_n 0, 1) := by decide +kernel
theorem dX5_readBoard_24 : decode cX5_readBoard 24 = .ok (.getfield 22, 3) := by decide +kernel
theorem dX5_readBoard_27 : decode cX5_readBoard 27 = .ok (.aload_n 0, 1) := by decide +kernel
theorem dX5_readBoard_28 : decode cX5_readBoard 28 = .ok (.getfield 32, 3) := by decide +kernel
theorem dX5_readBoard_31 : decode cX5_readBoard 31 = .ok (.putfield 69, 3) := by decide +kernel
theorem dX5_readBoard_34 : decode cX5_readBoard 34 = .ok (.iconst 1, 1) := by decide +kernel
theorem dX5_readBoard_35 : decode cX5_readBoard 35 = .ok (.ireturn, 1) := by decide +kernel
theorem dX5_readRows_0 : decode cX5_readRows 0 = .ok (.aload_n 0, 1) := by decide +kernel
theorem dX5_readRows_1 : decode cX5_readRows 1 = .ok (.iload_n 1, 1) := by decide +kernel
theorem dX5_readRows_2 : decode cX5_readRows 2 = .ok (.putfield 29, 3) := by decide +kernel
theorem dX5_readRows_5 : decode cX5_readRows 5 = .ok (.iconst 0, 1) := by decide +kernel
theorem dX5_readRows_6 : decode cX5_readRows 6 = .ok (.istore_n 3, 1) := by decide +kernel
theorem dX5_readRows_7 : decode cX5_readRows 7 = .ok (.iload_n 3, 1) := by decide +kernel
theorem dX5_readRows_8 : decode cX5_readRows 8 = .ok (.iload_n 1, 1) := by decide +kernel
theorem dX5_readRows_9 : decode cX5_readRows 9 = .ok (.if_icmp .ge 79, 3) := by decide +kernel
theorem dX5_readRows_12 : decode cX5_readRows 12 = .ok (.aload_n 0, 1) := by decide +kernel
theorem dX5_readRows_13 : decode cX5_readRows 13 = .ok (.iload_n 3, 1) := by decide +kernel
theorem dX5_readRows_14 : decode cX5_readRows 14 = .ok (.iload_n 2, 1) := by decide +kernel
theorem dX5_readRows_15 : decode cX5_readRows 15 = .ok (.invokevirtual 72, 3) := by decide +kernel
theorem dX5_readRows_18 : decode cX5_readRows 18 = .ok (.istore 4, 2) := by decide +kernel
theorem dX5_readRows_20 : decode cX5_readRows 20 = .ok (.iload_n 3, 1) := by decide +kernel
theorem dX5_readRows_21 : decode cX5_readRows 21 = .ok (.ifCond .ne 9, 3) := by decide +kernel
theorem dX5_readRows_24 : decode cX5_readRows 24 = .ok (.aload_n 0, 1) := by decide +kernel
theorem dX5_readRows_25 : decode cX5_readRows 25 = .ok (.iload 4, 2) := by decide +kernel
theorem dX5_readRows_27 : decode cX5_readRows 27 = .ok (.putfield 29, 3) := by decide +kernel
theorem dX5_readRows_30 : decode cX5_readRows 30 = .ok (.iload 4, 2) := by decide +kernel
theorem dX5_readRows_32 : decode cX5_readRows 32 = .ok (.ifCond .eq 12, 3) := by decide +kernel
theorem dX5_readRows_35 : decode cX5_readRows 35 = .ok (.iload 4, 2) := by decide +kernel
theorem dX5_readRows_37 : decode cX5_readRows 37 = .ok (.aload_n 0, 1) := by decide +kernel
theorem dX5_readRows_38 : decode cX5_readRows 38 = .ok (.getfield 29, 3) := by decide +kernel
theorem dX5_readRows_41 : decode cX5_readRows 41 = .ok (.if_icmp .ge 5, 3) := by decide +kernel
theorem dX5_readRows_44 : decode cX5_readRows 44 = .ok (.iconst 0, 1) := by decide +kernel
theorem dX5_readRows_45 : decode cX5_readRows 45 = .ok (.ireturn, 1) := by decide +kernel
theorem dX5_readRows_46 : decode cX5_readRows 46 = .ok (.aload_n 0, 1) := by decide +kernel
theorem dX5_readRows_47 : decode cX5_readRows 47 = .ok (.iload_n 3, 1) := by decide +kernel
theorem dX5_readRows_48 : decode cX5_readRows 48 = .ok (.iconst 1, 1) := by decide +kernel
theorem dX5_readRows_49 : decode cX5_readRows 49 = .ok (.iadd, 1) := by decide +kernel
theorem dX5_readRows_50 : decode cX5_readRows 50 = .ok (.putfield 32, 3) := by decide +kernel
theorem dX5_readRows_53 : decode cX5_readRows 53 = .ok (.aload_n 0, 1) := by decide +kernel
theorem dX5_readRows_54 : decode cX5_readRows 54 = .ok (.getfield 32, 3) := by decide +kernel
theorem dX5_readRows_57 : decode cX5_readRows 57 = .ok (.iload_n 1, 1) := by decide +kernel
theorem dX5_readRows_58 : decode cX5_readRows 58 = .ok (.if_icmp .eq 12, 3) := by decide +kernel
theorem dX5_readRows_61 : decode cX5_readRows 61 = .ok (.aload_n 0, 1) := by decide +kernel
theorem dX5_readRows_62 : decode cX5_readRows 62 = .ok (.invokevirtual 55, 3) := by decide +kernel
theorem dX5_readRows_65 : decode cX5_readRows 65 = .ok (.bipush 47, 2) := by decide +kernel
theorem dX5_readRows_67 : decode cX5_readRows 67 = .ok (.if_icmp .eq 5, 3) := by decide +kernel
theorem dX5_readRows_70 : decode cX5_readRows 70 = .ok (.iconst 1, 1) := by decide +kernel
theorem dX5_readRows_71 : decode cX5_readRows 71 = .ok (.ireturn, 1) := by decide +kernel
theorem dX5_readRows_72 : decode cX5_readRows 72 = .ok (.aload_n 0, 1) := by decide +kernel
theorem dX5_readRows_73 : decode cX5_readRows 73 = .ok (.dup, 1) := by decide +kernel
theorem dX5_readRows_74 : decode cX5_readRows 74 = .ok (.getfield 26, 3) := by decide +kernel
theorem dX5_readRows_77 : decode cX5_readRows 77 = .ok (.iconst 1, 1) := by decide +kernel
theorem dX5_readRows_78 : decode cX5_readRows 78 = .ok (.iadd, 1) := by decide +kernel
theorem dX5_readRows_79 : decode cX5_readRows 79 = .ok (.putfield 26, 3) := by decide +kernel
theorem dX5_readRows_82 : decode cX5_readRows 82 = .ok (.iinc 3 1, 3) := by decide +kernel
theorem dX5_readRows_85 : decode cX5_readRows 85 = .ok (.goto (-78), 3) := by decide +kernel
theorem dX5_readRows_88 : decode cX5_readRows 88 = .ok (.iconst 1, 1) := by decide +kernel
theorem dX5_readRows_89 : decode cX5_readRows 89 = .ok (.ireturn, 1) := by decide +kernel
theorem dX5_readRow_0 : decode cX5_readRow 0 = .ok (.iconst 0, 1) := by decide +kernel
theorem dX5_readRow_1 : decode cX5_readRow 1 = .ok (.istore_n 3, 1) := by decide +kernel
theorem dX5_readRow_2 : decode cX5_readRow 2 = .ok (.iload_n 3, 1) := by decide +kernel
theorem dX5_readRow_3 : decode cX5_readRow 3 = .ok (.aload_n 0, 1) := by decide +kernel
theorem dX5_readRow_4 : decode cX5_readRow 4 = .ok (.getfield 29, 3) := by decide +kernel
theorem dX5_readRow_7 : decode cX5_readRow 7 = .ok (.if_icmp .ge 44, 3) := by decide +kernel
theorem dX5_readRow_10 : decode cX5_readRow 10 = .ok (.iload_n 2, 1) := by decide +kernel
theorem dX5_readRow_11 : decode cX5_readRow 11 = .ok (.ifCond .eq 15, 3) := by decide +kernel
theorem dX5_readRow_14 : decode cX5_readRow 14 = .ok (.aload_n 0, 1) := by decide +kernel
theorem dX5_readRow_15 : decode cX5_readRow 15 = .ok (.iload_n 1, 1) := by decide +kernel
theorem dX5_readRow_16 : decode cX5_readRow 16 = .ok (.iload_n 3, 1) := by decide +kernel
theorem dX5_readRow_17 : decode cX5_readRow 17 = .ok (.invokevirtual 76, 3) := by decide +kernel
theorem dX5_readRow_20 : decode cX5_readRow 20 = .ok (.ifCond .eq 31, 3) := by decide +kernel
theorem dX5_readRow_23 : decode cX5_readRow 23 = .ok (.goto 12, 3) := by decide +kernel
theorem dX5_readRow_26 : decode cX5_readRow 26 = .ok (.aload_n 0, 1) := by decide +kernel
theorem dX5_readRow_27 : decode cX5_readRow 27 = .ok (.iload_n 1, 1) := by decide +kernel
theorem dX5_readRow_28 : decode cX5_readRow 28 = .ok (.iload_n 3, 1) := by decide +kernel
theorem dX5_readRow_29 : decode cX5_readRow 29 = .ok (.invokevirtual 80, 3) := by decide +kernel
theorem dX5_readRow_32 : decode cX5_readRow 32 = .ok (.ifCond .eq 19, 3) := by decide +kernel
theorem dX5_readRow_35 : decode cX5_readRow 35 = .ok (.aload_n 0, 1) := by decide +kernel
theorem dX5_readRow_36 : decode cX5_readRow 36 = .ok (.dup, 1) := by decide +kernel
theorem dX5_readRow_37 : decode cX5_readRow 37 = .ok (.getfield 26, 3) := by decide +kernel
theorem dX5_readRow_40 : decode cX5_readRow 40 = .ok (.iconst 1, 1) := by decide +kernel
theorem dX5_readRow_41 : decode cX5_readRow 41 = .ok (.iadd, 1) := by decide +kernel
theorem dX5_readRow_42 : decode cX5_readRow 42 = .ok (.putfield 26, 3) := by decide +kernel
theorem dX5_readRow_45 : decode cX5_readRow 45 = .ok (.iinc 3 1, 3) := by decide +kernel
theorem dX5_readRow_48 : decode cX5_readRow 48 = .ok (.goto (-46), 3) := by decide +kernel
theorem dX5_readRow_51 : decode cX5_readRow 51 = .ok (.iload_n 3, 1) := by decide +kernel
theorem dX5_readRow_52 : decode cX5_readRow 52 = .ok (.ireturn, 1) := by decide +kernel
theorem dX5_readCell_0 : decode cX5_readCell 0 = .ok (.aload_n 0, 1) := by decide +kernel
theorem dX5_readCell_1 : decode cX5_readCell 1 = .ok (.invokevirtual 55, 3) := by decide +kernel
theorem dX5_readCell_4 : decode cX5_readCell 4 = .ok (.istore_n 3, 1) := by decide +kernel
theorem dX5_readCell_5 : decode cX5_readCell 5 = .ok (.iload_n 1, 1) := by decide +kernel
theorem dX5_readCell_6 : decode cX5_readCell 6 = .ok (.aload_n 0, 1) := by decide +kernel
theorem dX5_readCell_7 : decode cX5_readCell 7 = .ok (.getfield 29, 3) := by decide +kernel
theorem dX5_readCell_10 : decode cX5_readCell 10 = .ok (.imul, 1) := by decide +kernel
theorem dX5_readCell_11 : decode cX5_readCell 11 = .ok (.iload_n 2, 1) := by decide +kernel
theorem dX5_readCell_12 : decode cX5_readCell 12 = .ok (.iadd, 1) := by decide +kernel
theorem dX5_readCell_13 : decode cX5_readCell 13 = .ok (.istore 4, 2) := by decide +kernel
theorem dX5_readCell_15 : decode cX5_readCell 15 = .ok (.iload_n 3, 1) := by decide +kernel
theorem dX5_readCell_16 : decode cX5_readCell 16 = .ok (.bipush 46, 2) := by decide +kernel
theorem dX5_readCell_18 : decode cX5_readCell 18 = .ok (.if_icmp .ne 16, 3) := by decide +kernel
theorem dX5_readCell_21 : decode cX5_readCell 21 = .ok (.aload_n 0, 1) := by decide +kernel
theorem dX5_readCell_22 : decode cX5_readCell 22 = .ok (.getfield 22, 3) := by decide +kernel
theorem dX5_readCell_25 : decode cX5_readCell 25 = .ok (.iload 4, 2) := by decide +kernel
theorem dX5_readCell_27 : decode cX5_readCell 27 = .ok (.iconst 0, 1) := by decide +kernel
theorem dX5_readCell_28 : decode cX5_readCell 28 = .ok (.invokevirtual 83, 3) := by decide +kernel
theorem dX5_readCell_31 : decode cX5_readCell 31 = .ok (.goto 51, 3) := by decide +kernel
theorem dX5_readCell_34 : decode cX5_readCell 34 = .ok (.iload_n 3, 1) := by decide +kernel
theorem dX5_readCell_35 : decode cX5_readCell 35 = .ok (.bipush 35, 2) := by decide +kernel
theorem dX5_readCell_37 : decode cX5_readCell 37 = .ok (.if_icmp .ne 16, 3) := by decide +kernel
theorem dX5_readCell_40 : decode cX5_readCell 40 = .ok (.aload_n 0, 1) := by decide +kernel
theorem dX5_readCell_41 : decode cX5_readCell 41 = .ok (.getfield 22, 3) := by decide +kernel
theorem dX5_readCell_44 : decode cX5_readCell 44 = .ok (.iload 4, 2) := by decide +kernel
theorem dX5_readCell_46 : decode cX5_readCell 46 = .ok (.iconst (-1), 1) := by decide +kernel
theorem dX5_readCell_47 : decode cX5_readCell 47 = .ok (.invokevirtual 83, 3) := by decide +kernel
theorem dX5_readCell_50 : decode cX5_readCell 50 = .ok (.goto 32, 3) := by decide +kernel
theorem dX5_readCell_53 : decode cX5_readCell 53 = .ok (.iload_n 3, 1) := by decide +kernel
theorem dX5_readCell_54 : decode cX5_readCell 54 = .ok (.bipush 49, 2) := by decide +kernel
theorem dX5_readCell_56 : decode cX5_readCell 56 = .ok (.bipush 51, 2) := by decide +kernel
theorem dX5_readCell_58 : decode cX5_readCell 58 = .ok (.invokestatic 87, 3) := by decide +kernel
theorem dX5_readCell_61 : decode cX5_readCell 61 = .ok (.ifCond .eq 19, 3) := by decide +kernel
theorem dX5_readCell_64 : decode cX5_readCell 64 = .ok (.aload_n 0, 1) := by decide +kernel
theorem dX5_readCell_65 : decode cX5_readCell 65 = .ok (.getfield 22, 3) := by decide +kernel
theorem dX5_readCell_68 : decode cX5_readCell 68 = .ok (.iload 4, 2) := by decide +kernel
theorem dX5_readCell_70 : decode cX5_readCell 70 = .ok (.iload_n 3, 1) := by decide +kernel
theorem dX5_readCell_71 : decode cX5_readCell 71 = .ok (.bipush 48, 2) := by decide +kernel
theorem dX5_readCell_73 : decode cX5_readCell 73 = .ok (.isub, 1) := by decide +kernel
theorem dX5_readCell_74 : decode cX5_readCell 74 = .ok (.invokevirtual 83, 3) := by decide +kernel
theorem dX5_readCell_77 : decode cX5_readCell 77 = .ok (.goto 5, 3) := by decide +kernel
theorem dX5_readCell_80 : decode cX5_readCell 80 = .ok (.iconst 0, 1) := by decide +kernel
theorem dX5_readCell_81 : decode cX5_readCell 81 = .ok (.ireturn, 1) := by decide +kernel
theorem dX5_readCell_82 : decode cX5_readCell 82 = .ok (.iconst 1, 1) := by decide +kernel
theorem dX5_readCell_83 : decode cX5_readCell 83 = .ok (.ireturn, 1) := by decide +kernel
theorem dX5_readSquare_0 : decode cX5_readSquare 0 = .ok (.aload_n 0, 1) := by decide +kernel
theorem dX5_readSquare_1 : decode cX5_readSquare 1 = .ok (.invokevirtual 55, 3) := by decide +kernel
theorem dX5_readSquare_4 : decode cX5_readSquare 4 = .ok (.istore_n 3, 1) := by decide +kernel
theorem dX5_readSquare_5 : decode cX5_readSquare 5 = .ok (.iload_n 3, 1) := by decide +kernel
theorem dX5_readSquare_6 : decode cX5_readSquare 6 = .ok (.bipush 111, 2) := by decide +kernel
theorem dX5_readSquare_8 : decode cX5_readSquare 8 = .ok (.if_icmp .ne 19, 3) := by decide +kernel
theorem dX5_readSquare_11 : decode cX5_readSquare 11 = .ok (.aload_n 0, 1) := by decide +kernel
theorem dX5_readSquare_12 : decode cX5_readSquare 12 = .ok (.dup, 1) := by decide +kernel
theorem dX5_readSquare_13 : decode cX5_readSquare 13 = .ok (.getfield 35, 3) := by decide +kernel
theorem dX5_readSquare_16 : decode cX5_readSquare 16 = .ok (.iconst 1, 1) := by decide +kernel
theorem dX5_readSquare_17 : decode cX5_readSquare 17 = .ok (.iload_n 1, 1) := by decide +kernel
theorem dX5_readSquare_18 : decode cX5_readSquare 18 = .ok (.iconst 4, 1) := by decide +kernel
theorem dX5_readSquare_19 : decode cX5_readSquare 19 = .ok (.imul, 1) := by decide +kernel
theorem dX5_readSquare_20 : decode cX5_readSquare 20 = .ok (.iload_n 2, 1) := by decide +kernel
theorem dX5_readSquare_21 : decode cX5_readSquare 21 = .ok (.iadd, 1) := by decide +kernel
theorem dX5_readSquare_22 : decode cX5_readSquare 22 = .ok (.ishl, 1) := by decide +kernel
theorem dX5_readSquare_23 : decode cX5_readSquare 23 = .ok (.ior, 1) := by decide +kernel
theorem dX5_readSquare_24 : decode cX5_readSquare 24 = .ok (.putfield 35, 3) := by decide +kernel
theorem dX5_readSquare_27 : decode cX5_readSquare 27 = .ok (.iload_n 3, 1) := by decide +kernel
theorem dX5_readSquare_28 : decode cX5_readSquare 28 = .ok (.bipush 111, 2) := by decide +kernel
theorem dX5_readSquare_30 : decode cX5_readSquare 30 = .ok (.if_icmp .eq 9, 3) := by decide +kernel
theorem dX5_readSquare_33 : decode cX5_readSquare 33 = .ok (.iload_n 3, 1) := by decide +kernel
theorem dX5_readSquare_34 : decode cX5_readSquare 34 = .ok (.bipush 46, 2) := by decide +kernel
theorem dX5_readSquare_36 : decode cX5_readSquare 36 = .ok (.if_icmp .ne 7, 3) := by decide +kernel
theorem dX5_readSquare_39 : decode cX5_readSquare 39 = .ok (.iconst 1, 1) := by decide +kernel
theorem dX5_readSquare_40 : decode cX5_readSquare 40 = .ok (.goto 4, 3) := by decide +kernel
theorem dX5_readSquare_43 : decode cX5_readSquare 43 = .ok (.iconst 0, 1) := by decide +kernel
theorem dX5_readSquare_44 : decode cX5_readSquare 44 = .ok (.ireturn, 1) := by decide +kernel
theorem dX5_readPiece_0 : decode cX5_readPiece 0 = .ok (.aload_n 0, 1) := by decide +kernel
theorem dX5_readPiece_1 : decode cX5_readPiece 1 = .ok (.iconst 0, 1) := by decide +kernel
theorem dX5_readPiece_2 : decode cX5_readPiece 2 = .ok (.putfield 35, 3) := by decide +kernel
theorem dX5_readPiece_5 : decode cX5_readPiece 5 = .ok (.aload_n 0, 1) := by decide +kernel
theorem dX5_readPiece_6 : decode cX5_readPiece 6 = .ok (.iconst 4, 1) := by decide +kernel
theorem dX5_readPiece_7 : decode cX5_readPiece 7 = .ok (.iconst 0, 1) := by decide +kernel
theorem dX5_readPiece_8 : decode cX5_readPiece 8 = .ok (.invokevirtual 62, 3) := by decide +kernel
theorem dX5_readPiece_11 : decode cX5_readPiece 11 = .ok (.ifCond .eq 24, 3) := by decide +kernel
theorem dX5_readPiece_14 : decode cX5_readPiece 14 = .ok (.aload_n 0, 1) := by decide +kernel
theorem dX5_readPiece_15 : decode cX5_readPiece 15 = .ok (.getfield 35, 3) := by decide +kernel
theorem dX5_readPiece_18 : decode cX5_readPiece 18 = .ok (.invokestatic 91, 3) := by decide +kernel
theorem dX5_readPiece_21 : decode cX5_readPiece 21 = .ok (.ifCond .eq 14, 3) := by decide +kernel
theorem dX5_readPiece_24 : decode cX5_readPiece 24 = .ok (.aload_n 0, 1) := by decide +kernel
theorem dX5_readPiece_25 : decode cX5_readPiece 25 = .ok (.invokevirtual 97, 3) := by decide +kernel
theorem dX5_readPiece_28 : decode cX5_readPiece 28 = .ok (.ifCond .eq 7, 3) := by decide +kernel
theorem dX5_readPiece_31 : decode cX5_readPiece 31 = .ok (.iconst 1, 1) := by decide +kernel
theorem dX5_readPiece_32 : decode cX5_readPiece 32 = .ok (.goto 4, 3) := by decide +kernel
theorem dX5_readPiece_35 : decode cX5_readPiece 35 = .ok (.iconst 0, 1) := by decide +kernel
theorem dX5_readPiece_36 : decode cX5_readPiece 36 = .ok (.ireturn, 1) := by decide +kernel
theorem dX5_readOptions_0 : decode cX5_readOptions 0 = .ok (.iconst 0, 1) := by decide +kernel
theorem dX5_readOptions_1 : decode cX5_readOptions 1 = .ok (.istore_n 1, 1) := by decide +kernel
theorem dX5_readOptions_2 : decode cX5_readOptions 2 = .ok (.iconst 0, 1) := by decide +kernel
theorem dX5_readOptions_3 : decode cX5_readOptions 3 = .ok (.istore_n 2, 1) := by decide +kernel
theorem dX5_readOptions_4 : decode cX5_readOptions 4 = .ok (.iconst 0, 1) := by decide +kernel
theorem dX5_readOptions_5 : decode cX5_readOptions 5 = .ok (.istore_n 3, 1) := by decide +kernel
theorem dX5_readOptions_6 : decode cX5_readOptions 6 = .ok (.iconst 0, 1) := by decide +kernel
theorem dX5_readOptions_7 : decode cX5_readOptions 7 = .ok (.istore 4, 2) := by decide +kernel
theorem dX5_readOptions_9 : decode cX5_readOptions 9 = .ok (.iload 4, 2) := by decide +kernel
theorem dX5_readOptions_11 : decode cX5_readOptions 11 = .ok (.iconst 3, 1) := by decide +kernel
theorem dX5_readOptions_12 : decode cX5_readOptions 12 = .ok (.if_icmp .ge 126, 3) := by decide +kernel
theorem dX5_readOptions_15 : decode cX5_readOptions 15 = .ok (.aload_n 0, 1) := by decide +kernel
theorem dX5_readOptions_16 : decode cX5_readOptions 16 = .ok (.invokevirtual 55, 3) := by decide +kernel
theorem dX5_readOptions_19 : decode cX5_readOptions 19 = .ok (.istore 5, 2) := by decide +kernel
theorem dX5_readOptions_21 : decode cX5_readOptions 21 = .ok (.iload 5, 2) := by decide +kernel
theorem dX5_readOptions_23 : decode cX5_readOptions 23 = .ok (.bipush 116, 2) := by decide +kernel
theorem dX5_readOptions_25 : decode cX5_readOptions 25 = .ok (.if_icmp .eq 10, 3) := by decide +kernel
theorem dX5_readOptions_28 : decode cX5_readOptions 28 = .ok (.iload 5, 2) := by decide +kernel
theorem dX5_readOptions_30 : decode cX5_readOptions 30 = .ok (.bipush 109, 2) := by decide +kernel
theorem dX5_readOptions_32 : decode cX5_readOptions 32 = .ok (.if_icmp .ne 33, 3) := by decide +kernel
theorem dX5_readOptions_35 : decode cX5_readOptions 35 = .ok (.iload_n 1, 1) := by decide +kernel
theorem dX5_readOptions_36 : decode cX5_readOptions 36 = .ok (.ifCond .ne 29, 3) := by decide +kernel
theorem dX5_readOptions_39 : decode cX5_readOptions 39 = .ok (.iload 5, 2) := by decide +kernel
theorem dX5_readOptions_41 : decode cX5_readOptions 41 = .ok (.bipush 116, 2) := by decide +kernel
theorem dX5_readOptions_43 : decode cX5_readOptions 43 = .ok (.if_icmp .ne 7, 3) := by decide +kernel
theorem dX5_readOptions_46 : decode cX5_readOptions 46 = .ok (.iconst 1, 1) := by decide +kernel
theorem dX5_readOptions_47 : decode cX5_readOptions 47 = .ok (.goto 4, 3) := by decide +kernel
theorem dX5_readOptions_50 : decode cX5_readOptions 50 = .ok (.iconst 2, 1) := by decide +kernel
theorem dX5_readOptions_51 : decode cX5_readOptions 51 = .ok (.istore_n 1, 1) := by decide +kernel
theorem dX5_readOptions_52 : decode cX5_readOptions 52 = .ok (.aload_n 0, 1) := by decide +kernel
theorem dX5_readOptions_53 : decode cX5_readOptions 53 = .ok (.dup, 1) := by decide +kernel
theorem dX5_readOptions_54 : decode cX5_readOptions 54 = .ok (.getfield 26, 3) := by decide +kernel
theorem dX5_readOptions_57 : decode cX5_readOptions 57 = .ok (.iconst 1, 1) := by decide +kernel
theorem dX5_readOptions_58 : decode cX5_readOptions 58 = .ok (.iadd, 1) := by decide +kernel
theorem dX5_readOptions_59 : decode cX5_readOptions 59 = .ok (.putfield 26, 3) := by decide +kernel
theorem dX5_readOptions_62 : decode cX5_readOptions 62 = .ok (.goto 70, 3) := by decide +kernel
theorem dX5_readOptions_65 : decode cX5_readOptions 65 = .ok (.iload 5, 2) := by decide +kernel
theorem dX5_readOptions_67 : decode cX5_readOptions 67 = .ok (.bipush 99, 2) := by decide +kernel
theorem dX5_readOptions_69 : decode cX5_readOptions 69 = .ok (.if_icmp .ne 29, 3) := by decide +kernel
theorem dX5_readOptions_72 : decode cX5_readOptions 72 = .ok (.iload_n 2, 1) := by decide +kernel
theorem dX5_readOptions_73 : decode cX5_readOptions 73 = .ok (.ifCond .ne 25, 3) := by decide +kernel
theorem dX5_readOptions_76 : decode cX5_readOptions 76 = .ok (.aload_n 0, 1) := by decide +kernel
theorem dX5_readOptions_77 : decode cX5_readOptions 77 = .ok (.dup, 1) := by decide +kernel
theorem dX5_readOptions_78 : decode cX5_readOptions 78 = .ok (.getfield 26, 3) := by decide +kernel
theorem dX5_readOptions_81 : decode cX5_readOptions 81 = .ok (.iconst 1, 1) := by decide +kernel
theorem dX5_readOptions_82 : decode cX5_readOptions 82 = .ok (.iadd, 1) := by decide +kernel
theorem dX5_readOptions_83 : decode cX5_readOptions 83 = .ok (.putfield 26, 3) := by decide +kernel
theorem dX5_readOptions_86 : decode cX5_readOptions 86 = .ok (.aload_n 0, 1) := by decide +kernel
theorem dX5_readOptions_87 : decode cX5_readOptions 87 = .ok (.iconst 3, 1) := by decide +kernel
theorem dX5_readOptions_88 : decode cX5_readOptions 88 = .ok (.invokevirtual 100, 3) := by decide +kernel
theorem dX5_readOptions_91 : decode cX5_readOptions 91 = .ok (.istore_n 2, 1) := by decide +kernel
theorem dX5_readOptions_92 : decode cX5_readOptions 92 = .ok (.iload_n 2, 1) := by decide +kernel
theorem dX5_readOptions_93 : decode cX5_readOptions 93 = .ok (.ifCond .ne 39, 3) := by decide +kernel
theorem dX5_readOptions_96 : decode cX5_readOptions 96 = .ok (.iconst 0, 1) := by decide +kernel
theorem dX5_readOptions_97 : decode cX5_readOptions 97 = .ok (.ireturn, 1) := by decide +kernel
theorem dX5_readOptions_98 : decode cX5_readOptions 98 = .ok (.iload 5, 2) := by decide +kernel
theorem dX5_readOptions_100 : decode cX5_readOptions 100 = .ok (.bipush 120, 2) := by decide +kernel
theorem dX5_readOptions_102 : decode cX5_readOptions 102 = .ok (.if_icmp .ne 30, 3) := by decide +kernel
theorem dX5_readOptions_105 : decode cX5_readOptions 105 = .ok (.iload_n 3, 1) := by decide +kernel
theorem dX5_readOptions_106 : decode cX5_readOptions 106 = .ok (.ifCond .ne 26, 3) := by decide +kernel
theorem dX5_readOptions_109 : decode cX5_readOptions 109 = .ok (.aload_n 0, 1) := by decide +kernel
theorem dX5_readOptions_110 : decode cX5_readOptions 110 = .ok (.dup, 1) := by decide +kernel
theorem dX5_readOptions_111 : decode cX5_readOptions 111 = .ok (.getfield 26, 3) := by decide +kernel
theorem dX5_readOptions_114 : decode cX5_readOptions 114 = .ok (.iconst 1, 1) := by decide +kernel
theorem dX5_readOptions_115 : decode cX5_readOptions 115 = .ok (.iadd, 1) := by decide +kernel
theorem dX5_readOptions_116 : decode cX5_readOptions 116 = .ok (.putfield 26, 3) := by decide +kernel
theorem dX5_readOptions_119 : decode cX5_readOptions 119 = .ok (.aload_n 0, 1) := by decide +kernel
theorem dX5_readOptions_120 : decode cX5_readOptions 120 = .ok (.bipush 9, 2) := by decide +kernel
theorem dX5_readOptions_122 : decode cX5_readOptions 122 = .ok (.invokevirtual 100, 3) := by decide +kernel
theorem dX5_readOptions_125 : decode cX5_readOptions 125 = .ok (.istore_n 3, 1) := by decide +kernel
theorem dX5_readOptions_126 : decode cX5_readOptions 126 = .ok (.iload_n 3, 1) := by decide +kernel
theorem dX5_readOptions_127 : decode cX5_readOptions 127 = .ok (.ifCond .ne 5, 3) := by decide +kernel
theorem dX5_readOptions_130 : decode cX5_readOptions 130 = .ok (.iconst 0, 1) := by decide +kernel
theorem dX5_readOptions_131 : decode cX5_readOptions 131 = .ok (.ireturn, 1) := by decide +kernel
theorem dX5_readOptions_132 : decode cX5_readOptions 132 = .ok (.iinc 4 1, 3) := by decide +kernel
theorem dX5_readOptions_135 : decode cX5_readOptions 135 = .ok (.goto (-126), 3) := by decide +kernel
theorem dX5_readOptions_138 : decode cX5_readOptions 138 = .ok (.aload_n 0, 1) := by decide +kernel
theorem dX5_readOptions_139 : decode cX5_readOptions 139 = .ok (.getfield 22, 3) := by decide +kernel
theorem dX5_readOptions_142 : decode cX5_readOptions 142 = .ok (.aload_n 0, 1) := by decide +kernel
theorem dX5_readOptions_143 : decode cX5_readOptions 143 = .ok (.getfield 35, 3) := by decide +kernel
theorem dX5_readOptions_146 : decode cX5_readOptions 146 = .ok (.invokestatic 104, 3) := by decide +kernel
theorem dX5_readOptions_149 : decode cX5_readOptions 149 = .ok (.iload_n 1, 1) := by decide +kernel
theorem dX5_readOptions_150 : decode cX5_readOptions 150 = .ok (.iload_n 2, 1) := by decide +kernel
theorem dX5_readOptions_151 : decode cX5_readOptions 151 = .ok (.iload_n 3, 1) := by decide +kernel
theorem dX5_readOptions_152 : decode cX5_readOptions 152 = .ok (.iconst 1, 1) := by decide +kernel
theorem dX5_readOptions_153 : decode cX5_readOptions 153 = .ok (.invokestatic 107, 3) := by decide +kernel
theorem dX5_readOptions_156 : decode cX5_readOptions 156 = .ok (.invokevirtual 113, 3) := by decide +kernel
theorem dX5_readOptions_159 : decode cX5_readOptions 159 = .ok (.iconst 1, 1) := by decide +kernel
theorem dX5_readOptions_160 : decode cX5_readOptions 160 = .ok (.ireturn, 1) := by decide +kernel
theorem dX5_readDigit_0 : decode cX5_readDigit 0 = .ok (.aload_n 0, 1) := by decide +kernel
theorem dX5_readDigit_1 : decode cX5_readDigit 1 = .ok (.invokevirtual 55, 3) := by decide +kernel
theorem dX5_readDigit_4 : decode cX5_readDigit 4 = .ok (.bipush 48, 2) := by decide +kernel
theorem dX5_readDigit_6 : decode cX5_readDigit 6 = .ok (.isub, 1) := by decide +kernel
theorem dX5_readDigit_7 : decode cX5_readDigit 7 = .ok (.istore_n 2, 1) := by decide +kernel
theorem dX5_readDigit_8 : decode cX5_readDigit 8 = .ok (.iload_n 2, 1) := by decide +kernel
theorem dX5_readDigit_9 : decode cX5_readDigit 9 = .ok (.iconst 1, 1) := by decide +kernel
theorem dX5_readDigit_10 : decode cX5_readDigit 10 = .ok (.if_icmp .lt 8, 3) := by decide +kernel
theorem dX5_readDigit_13 : decode cX5_readDigit 13 = .ok (.iload_n 2, 1) := by decide +kernel
theorem dX5_readDigit_14 : decode cX5_readDigit 14 = .ok (.iload_n 1, 1) := by decide +kernel
theorem dX5_readDigit_15 : decode cX5_readDigit 15 = .ok (.if_icmp .le 5, 3) := by decide +kernel
theorem dX5_readDigit_18 : decode cX5_readDigit 18 = .ok (.iconst 0, 1) := by decide +kernel
theorem dX5_readDigit_19 : decode cX5_readDigit 19 = .ok (.ireturn, 1) := by decide +kernel
theorem dX5_readDigit_20 : decode cX5_readDigit 20 = .ok (.aload_n 0, 1) := by decide +kernel
theorem dX5_readDigit_21 : decode cX5_readDigit 21 = .ok (.dup, 1) := by decide +kernel
theorem dX5_readDigit_22 : decode cX5_readDigit 22 = .ok (.getfield 26, 3) := by decide +kernel
theorem dX5_readDigit_25 : decode cX5_readDigit 25 = .ok (.iconst 1, 1) := by decide +kernel
theorem dX5_readDigit_26 : decode cX5_readDigit 26 = .ok (.iadd, 1) := by decide +kernel
theorem dX5_readDigit_27 : decode cX5_readDigit 27 = .ok (.putfield 26, 3) := by decide +kernel
theorem dX5_readDigit_30 : decode cX5_readDigit 30 = .ok (.iload_n 2, 1) := by decide +kernel
theorem dX5_readDigit_31 : decode cX5_readDigit 31 = .ok (.ireturn, 1) := by decide +kernel
theorem dX6_isShape_0 : decode cX6_isShape 0 = .ok (.iload_n 0, 1) := by decide +kernel
theorem dX6_isShape_1 : decode cX6_isShape 1 = .ok (.ldc 9, 2) := by decide +kernel
theorem dX6_isShape_3 : decode cX6_isShape 3 = .ok (.iand, 1) := by decide +kernel
theorem dX6_isShape_4 : decode cX6_isShape 4 = .ok (.ifCond .eq 5, 3) := by decide +kernel
theorem dX6_isShape_7 : decode cX6_isShape 7 = .ok (.iconst 0, 1) := by decide +kernel
theorem dX6_isShape_8 : decode cX6_isShape 8 = .ok (.ireturn, 1) := by decide +kernel
theorem dX6_isShape_9 : decode cX6_isShape 9 = .ok (.iload_n 0, 1) := by decide +kernel
theorem dX6_isShape_10 : decode cX6_isShape 10 = .ok (.invokestatic 10, 3) := by decide +kernel
theorem dX6_isShape_13 : decode cX6_isShape 13 = .ok (.istore_n 1, 1) := by decide +kernel
theorem dX6_isShape_14 : decode cX6_isShape 14 = .ok (.iload_n 1, 1) := by decide +kernel
theorem dX6_isShape_15 : decode cX6_isShape 15 = .ok (.iconst 1, 1) := by decide +kernel
theorem dX6_isShape_16 : decode cX6_isShape 16 = .ok (.if_icmp .lt 19, 3) := by decide +kernel
theorem dX6_isShape_19 : decode cX6_isShape 19 = .ok (.iload_n 1, 1) := by decide +kernel
theorem dX6_isShape_20 : decode cX6_isShape 20 = .ok (.iconst 5, 1) := by decide +kernel
theorem dX6_isShape_21 : decode cX6_isShape 21 = .ok (.if_icmp .gt 14, 3) := by decide +kernel
theorem dX6_isShape_24 : decode cX6_isShape 24 = .ok (.iload_n 0, 1) := by decide +kernel
theorem dX6_isShape_25 : decode cX6_isShape 25 = .ok (.invokestatic 16, 3) := by decide +kernel
theorem dX6_isShape_28 : decode cX6_isShape 28 = .ok (.ifCond .eq 7, 3) := by decide +kernel
theorem dX6_isShape_31 : decode cX6_isShape 31 = .ok (.iconst 1, 1) := by decide +kernel
theorem dX6_isShape_32 : decode cX6_isShape 32 = .ok (.goto 4, 3) := by decide +kernel
theorem dX6_isShape_35 : decode cX6_isShape 35 = .ok (.iconst 0, 1) := by decide +kernel
theorem dX6_isShape_36 : decode cX6_isShape 36 = .ok (.ireturn, 1) := by decide +kernel
theorem dX6_hangsTogether_0 : decode cX6_hangsTogether 0 = .ok (.iload_n 0, 1) := by decide +kernel
theorem dX6_hangsTogether_1 : decode cX6_hangsTogether 1 = .ok (.iload_n 0, 1) := by decide +kernel
theorem dX6_hangsTogether_2 : decode cX6_hangsTogether 2 = .ok (.ineg, 1) := by decide +kernel
theorem dX6_hangsTogether_3 : decode cX6_hangsTogether 3 = .ok (.iand, 1) := by decide +kernel
theorem dX6_hangsTogether_4 : decode cX6_hangsTogether 4 = .ok (.istore_n 1, 1) := by decide +kernel
theorem dX6_hangsTogether_5 : decode cX6_hangsTogether 5 = .ok (.iconst 1, 1) := by decide +kernel
theorem dX6_hangsTogether_6 : decode cX6_hangsTogether 6 = .ok (.istore_n 2, 1) := by decide +kernel
theorem dX6_hangsTogether_7 : decode cX6_hangsTogether 7 = .ok (.iload_n 2, 1) := by decide +kernel
theorem dX6_hangsTogether_8 : decode cX6_hangsTogether 8 = .ok (.iconst 5, 1) := by decide +kernel
theorem dX6_hangsTogether_9 : decode cX6_hangsTogether 9 = .ok (.if_icmp .ge 50, 3) := by decide +kernel
theorem dX6_hangsTogether_12 : decode cX6_hangsTogether 12 = .ok (.iload_n 1, 1) := by decide +kernel
theorem dX6_hangsTogether_13 : decode cX6_hangsTogether 13 = .ok (.ldc 22, 2) := by decide +kernel
theorem dX6_hangsTogether_15 : decode cX6_hangsTogether 15 = .ok (.iand, 1) := by decide +kernel
theorem dX6_hangsTogether_16 : decode cX6_hangsTogether 16 = .ok (.iconst 1, 1) := by decide +kernel
theorem dX6_hangsTogether_17 : decode cX6_hangsTogether 17 = .ok (.ishl, 1) := by decide +kernel
theorem dX6_hangsTogether_18 : decode cX6_hangsTogether 18 = .ok (.istore_n 3, 1) := by decide +kernel
theorem dX6_hangsTogether_19 : decode cX6_hangsTogether 19 = .ok (.iload_n 1, 1) := by decide +kernel
theorem dX6_hangsTogether_20 : decode cX6_hangsTogether 20 = .ok (.sipush (-4370), 3) := by decide +kernel
theorem dX6_hangsTogether_23 : decode cX6_hangsTogether 23 = .ok (.iand, 1) := by decide +kernel
theorem dX6_hangsTogether_24 : decode cX6_hangsTogether 24 = .ok (.iconst 1, 1) := by decide +kernel
theorem dX6_hangsTogether_25 : decode cX6_hangsTogether 25 = .ok (.iushr, 1) := by decide +kernel
theorem dX6_hangsTogether_26 : decode cX6_hangsTogether 26 = .ok (.istore 4, 2) := by decide +kernel
theorem dX6_hangsTogether_28 : decode cX6_hangsTogether 28 = .ok (.iload_n 1, 1) := by decide +kernel
theorem dX6_hangsTogether_29 : decode cX6_hangsTogether 29 = .ok (.iconst 4, 1) := by decide +kernel
theorem dX6_hangsTogether_30 : decode cX6_hangsTogether 30 = .ok (.ishl, 1) := by decide +kernel
theorem dX6_hangsTogether_31 : decode cX6_hangsTogether 31 = .ok (.istore 5, 2) := by decide +kernel
theorem dX6_hangsTogether_33 : decode cX6_hangsTogether 33 = .ok (.iload_n 1, 1) := by decide +kernel
theorem dX6_hangsTogether_34 : decode cX6_hangsTogether 34 = .ok (.iconst 4, 1) := by decide +kernel
theorem dX6_hangsTogether_35 : decode cX6_hangsTogether 35 = .ok (.iushr, 1) := by decide +kernel
theorem dX6_hangsTogether_36 : decode cX6_hangsTogether 36 = .ok (.istore 6, 2) := by decide +kernel
theorem dX6_hangsTogether_38 : decode cX6_hangsTogether 38 = .ok (.iload_n 1, 1) := by decide +kernel
theorem dX6_hangsTogether_39 : decode cX6_hangsTogether 39 = .ok (.iload_n 3, 1) := by decide +kernel
theorem dX6_hangsTogether_40 : decode cX6_hangsTogether 40 = .ok (.iload 4, 2) := by decide +kernel
theorem dX6_hangsTogether_42 : decode cX6_hangsTogether 42 = .ok (.ior, 1) := by decide +kernel
theorem dX6_hangsTogether_43 : decode cX6_hangsTogether 43 = .ok (.iload 5, 2) := by decide +kernel
theorem dX6_hangsTogether_45 : decode cX6_hangsTogether 45 = .ok (.ior, 1) := by decide +kernel
theorem dX6_hangsTogether_46 : decode cX6_hangsTogether 46 = .ok (.iload 6, 2) := by decide +kernel
theorem dX6_hangsTogether_48 : decode cX6_hangsTogether 48 = .ok (.ior, 1) := by decide +kernel
theorem dX6_hangsTogether_49 : decode cX6_hangsTogether 49 = .ok (.iload_n 0, 1) := by decide +kernel
theorem dX6_hangsTogether_50 : decode cX6_hangsTogether 50 = .ok (.iand, 1) := by decide +kernel
theorem dX6_hangsTogether_51 : decode cX6_hangsTogether 51 = .ok (.ior, 1) := by decide +kernel
theorem dX6_hangsTogether_52 : decode cX6_hangsTogether 52 = .ok (.istore_n 1, 1) := by decide +kernel
theorem dX6_hangsTogether_53 : decode cX6_hangsTogether 53 = .ok (.iinc 2 1, 3) := by decide +kernel
theorem dX6_hangsTogether_56 : decode cX6_hangsTogether 56 = .ok (.goto (-49), 3) := by decide +kernel
theorem dX6_hangsTogether_59 : decode cX6_hangsTogether 59 = .ok (.iload_n 1, 1) := by decide +kernel
theorem dX6_hangsTogether_60 : decode cX6_hangsTogether 60 = .ok (.iload_n 0, 1) := by decide +kernel
theorem dX6_hangsTogether_61 : decode cX6_hangsTogether 61 = .ok (.if_icmp .ne 7, 3) := by decide +kernel
theorem dX6_hangsTogether_64 : decode cX6_hangsTogether 64 = .ok (.iconst 1, 1) := by decide +kernel
theorem dX6_hangsTogether_65 : decode cX6_hangsTogether 65 = .ok (.goto 4, 3) := by decide +kernel
theorem dX6_hangsTogether_68 : decode cX6_hangsTogether 68 = .ok (.iconst 0, 1) := by decide +kernel
theorem dX6_hangsTogether_69 : decode cX6_hangsTogether 69 = .ok (.ireturn, 1) := by decide +kernel
theorem dX6_normalize_0 : decode cX6_normalize 0 = .ok (.iload_n 0, 1) := by decide +kernel
theorem dX6_normalize_1 : decode cX6_normalize 1 = .ok (.istore_n 1, 1) := by decide +kernel
theorem dX6_normalize_2 : decode cX6_normalize 2 = .ok (.iconst 1, 1) := by decide +kernel
theorem dX6_normalize_3 : decode cX6_normalize 3 = .ok (.istore_n 2, 1) := by decide +kernel
theorem dX6_normalize_4 : decode cX6_normalize 4 = .ok (.iload_n 2, 1) := by decide +kernel
theorem dX6_normalize_5 : decode cX6_normalize 5 = .ok (.iconst 4, 1) := by decide +kernel
theorem dX6_normalize_6 : decode cX6_normalize 6 = .ok (.if_icmp .ge 21, 3) := by decide +kernel
theorem dX6_normalize_9 : decode cX6_normalize 9 = .ok (.iload_n 1, 1) := by decide +kernel
theorem dX6_normalize_10 : decode cX6_normalize 10 = .ok (.sipush 4369, 3) := by decide +kernel
theorem dX6_normalize_13 : decode cX6_normalize 13 = .ok (.iand, 1) := by decide +kernel
theorem dX6_normalize_14 : decode cX6_normalize 14 = .ok (.ifCond .ne 13, 3) := by decide +kernel
theorem dX6_normalize_17 : decode cX6_normalize 17 = .ok (.iload_n 1, 1) := by decide +kernel
theorem dX6_normalize_18 : decode cX6_normalize 18 = .ok (.iconst 1, 1) := by decide +kernel
theorem dX6_normalize_19 : decode cX6_normalize 19 = .ok (.iushr, 1) := by decide +kernel
theorem dX6_normalize_20 : decode cX6_normalize 20 = .ok (.istore_n 1, 1) := by decide +kernel
theorem dX6_normalize_21 : decode cX6_normalize 21 = .ok (.iinc 2 1, 3) := by decide +kernel
theorem dX6_normalize_24 : decode cX6_normalize 24 = .ok (.goto (-20), 3) := by decide +kernel
theorem dX6_normalize_27 : decode cX6_normalize 27 = .ok (.iconst 1, 1) := by decide +kernel
theorem dX6_normalize_28 : decode cX6_normalize 28 = .ok (.istore_n 2, 1) := by decide +kernel
theorem dX6_normalize_29 : decode cX6_normalize 29 = .ok (.iload_n 2, 1) := by decide +kernel
theorem dX6_normalize_30 : decode cX6_normalize 30 = .ok (.iconst 4, 1) := by decide +kernel
theorem dX6_normalize_31 : decode cX6_normalize 31 = .ok (.if_icmp .ge 20, 3) := by decide +kernel
theorem dX6_normalize_34 : decode cX6_normalize 34 = .ok (.iload_n 1, 1) := by decide +kernel
theorem dX6_normalize_35 : decode cX6_normalize 35 = .ok (.bipush 15, 2) := by decide +kernel
theorem dX6_normalize_37 : decode cX6_normalize 37 = .ok (.iand, 1) := by decide +kernel
theorem dX6_normalize_38 : decode cX6_normalize 38 = .ok (.ifCond .ne 13, 3) := by decide +kernel
theorem dX6_normalize_41 : decode cX6_normalize 41 = .ok (.iload_n 1, 1) := by decide +kernel
theorem dX6_normalize_42 : decode cX6_normalize 42 = .ok (.iconst 4, 1) := by decide +kernel
theorem dX6_normalize_43 : decode cX6_normalize 43 = .ok (.iushr, 1) := by decide +kernel
theorem dX6_normalize_44 : decode cX6_normalize 44 = .ok (.istore_n 1, 1) := by decide +kernel
theorem dX6_normalize_45 : decode cX6_normalize 45 = .ok (.iinc 2 1, 3) := by decide +kernel
theorem dX6_normalize_48 : decode cX6_normalize 48 = .ok (.goto (-19), 3) := by decide +kernel
theorem dX6_normalize_51 : decode cX6_normalize 51 = .ok (.iload_n 1, 1) := by decide +kernel
theorem dX6_normalize_52 : decode cX6_normalize 52 = .ok (.ireturn, 1) := by decide +kernel
theorem dX6_turn_0 : decode cX6_turn 0 = .ok (.iconst 0, 1) := by decide +kernel
theorem dX6_turn_1 : decode cX6_turn 1 = .ok (.istore_n 1, 1) := by decide +kernel
theorem dX6_turn_2 : decode cX6_turn 2 = .ok (.iconst 0, 1) := by decide +kernel
theorem dX6_turn_3 : decode cX6_turn 3 = .ok (.istore_n 2, 1) := by decide +kernel
theorem dX6_turn_4 : decode cX6_turn 4 = .ok (.iload_n 2, 1) := by decide +kernel
theorem dX6_turn_5 : decode cX6_turn 5 = .ok (.bipush 16, 2) := by decide +kernel
theorem dX6_turn_7 : decode cX6_turn 7 = .ok (.if_icmp .ge 39, 3) := by decide +kernel
theorem dX6_turn_10 : decode cX6_turn 10 = .ok (.iload_n 0, 1) := by decide +kernel
theorem dX6_turn_11 : decode cX6_turn 11 = .ok (.iload_n 2, 1) := by decide +kernel
theorem dX6_turn_12 : decode cX6_turn 12 = .ok (.invokestatic 23, 3) := by decide +kernel
theorem dX6_turn_15 : decode cX6_turn 15 = .ok (.ifCond .eq 25, 3) := by decide +kernel
theorem dX6_turn_18 : decode cX6_turn 18 = .ok (.iload_n 2, 1) := by decide +kernel
theorem dX6_turn_19 : decode cX6_turn 19 = .ok (.iconst 4, 1) := by decide +kernel
theorem dX6_turn_20 : decode cX6_turn 20 = .ok (.irem, 1) := by decide +kernel
theorem dX6_turn_21 : decode cX6_turn 21 = .ok (.istore_n 3, 1) := by decide +kernel
theorem dX6_turn_22 : decode cX6_turn 22 = .ok (.iconst 3, 1) := by decide +kernel
theorem dX6_turn_23 : decode cX6_turn 23 = .ok (.iload_n 2, 1) := by decide +kernel
theorem dX6_turn_24 : decode cX6_turn 24 = .ok (.iconst 4, 1) := by decide +kernel
theorem dX6_turn_25 : decode cX6_turn 25 = .ok (.idiv, 1) := by decide +kernel
theorem dX6_turn_26 : decode cX6_turn 26 = .ok (.isub, 1) := by decide +kernel
theorem dX6_turn_27 : decode cX6_turn 27 = .ok (.istore 4, 2) := by decide +kernel
theorem dX6_turn_29 : decode cX6_turn 29 = .ok (.iload_n 1, 1) := by decide +kernel
theorem dX6_turn_30 : decode cX6_turn 30 = .ok (.iconst 1, 1) := by decide +kernel
theorem dX6_turn_31 : decode cX6_turn 31 = .ok (.iload_n 3, 1) := by decide +kernel
theorem dX6_turn_32 : decode cX6_turn 32 = .ok (.iconst 4, 1) := by decide +kernel
theorem dX6_turn_33 : decode cX6_turn 33 = .ok (.imul, 1) := by decide +kernel
theorem dX6_turn_34 : decode cX6_turn 34 = .ok (.iload 4, 2) := by decide +kernel
theorem dX6_turn_36 : decode cX6_turn 36 = .ok (.iadd, 1) := by decide +kernel
theorem dX6_turn_37 : decode cX6_turn 37 = .ok (.ishl, 1) := by decide +kernel
theorem dX6_turn_38 : decode cX6_turn 38 = .ok (.ior, 1) := by decide +kernel
theorem dX6_turn_39 : decode cX6_turn 39 = .ok (.istore_n 1, 1) := by decide +kernel
theorem dX6_turn_40 : decode cX6_turn 40 = .ok (.iinc 2 1, 3) := by decide +kernel
theorem dX6_turn_43 : decode cX6_turn 43 = .ok (.goto (-39), 3) := by decide +kernel
theorem dX6_turn_46 : decode cX6_turn 46 = .ok (.iload_n 1, 1) := by decide +kernel
theorem dX6_turn_47 : decode cX6_turn 47 = .ok (.invokestatic 27, 3) := by decide +kernel
theorem dX6_turn_50 : decode cX6_turn 50 = .ok (.ireturn, 1) := by decide +kernel
theorem dX6_mirror_0 : decode cX6_mirror 0 = .ok (.iconst 0, 1) := by decide +kernel
theorem dX6_mirror_1 : decode cX6_mirror 1 = .ok (.istore_n 1, 1) := by decide +kernel
theorem dX6_mirror_2 : decode cX6_mirror 2 = .ok (.iconst 0, 1) := by decide +kernel
theorem dX6_mirror_3 : decode cX6_mirror 3 = .ok (.istore_n 2, 1) := by decide +kernel
theorem dX6_mirror_4 : decode cX6_mirror 4 = .ok (.iload_n 2, 1) := by decide +kernel
theorem dX6_mirror_5 : decode cX6_mirror 5 = .ok (.bipush 16, 2) := by decide +kernel
theorem dX6_mirror_7 : decode cX6_mirror 7 = .ok (.if_icmp .ge 39, 3) := by decide +kernel
theorem dX6_mirror_10 : decode cX6_mirror 10 = .ok (.iload_n 0, 1) := by decide +kernel
theorem dX6_mirror_11 : decode cX6_mirror 11 = .ok (.iload_n 2, 1) := by decide +kernel
theorem dX6_mirror_12 : decode cX6_mirror 12 = .ok (.invokestatic 23, 3) := by decide +kernel
theorem dX6_mirror_15 : decode cX6_mirror 15 = .ok (.ifCond .eq 25, 3) := by decide +kernel
theorem dX6_mirror_18 : decode cX6_mirror 18 = .ok (.iload_n 2, 1) := by decide +kernel
theorem dX6_mirror_19 : decode cX6_mirror 19 = .ok (.iconst 4, 1) := by decide +kernel
theorem dX6_mirror_20 : decode cX6_mirror 20 = .ok (.idiv, 1) := by decide +kernel
theorem dX6_mirror_21 : decode cX6_mirror 21 = .ok (.istore_n 3, 1) := by decide +kernel
theorem dX6_mirror_22 : decode cX6_mirror 22 = .ok (.iconst 3, 1) := by decide +kernel
theorem dX6_mirror_23 : decode cX6_mirror 23 = .ok (.iload_n 2, 1) := by decide +kernel
theorem dX6_mirror_24 : decode cX6_mirror 24 = .ok (.iconst 4, 1) := by decide +kernel
theorem dX6_mirror_25 : decode cX6_mirror 25 = .ok (.irem, 1) := by decide +kernel
theorem dX6_mirror_26 : decode cX6_mirror 26 = .ok (.isub, 1) := by decide +kernel
theorem dX6_mirror_27 : decode cX6_mirror 27 = .ok (.istore 4, 2) := by decide +kernel
theorem dX6_mirror_29 : decode cX6_mirror 29 = .ok (.iload_n 1, 1) := by decide +kernel
theorem dX6_mirror_30 : decode cX6_mirror 30 = .ok (.iconst 1, 1) := by decide +kernel
theorem dX6_mirror_31 : decode cX6_mirror 31 = .ok (.iload_n 3, 1) := by decide +kernel
theorem dX6_mirror_32 : decode cX6_mirror 32 = .ok (.iconst 4, 1) := by decide +kernel
theorem dX6_mirror_33 : decode cX6_mirror 33 = .ok (.imul, 1) := by decide +kernel
theorem dX6_mirror_34 : decode cX6_mirror 34 = .ok (.iload 4, 2) := by decide +kernel
theorem dX6_mirror_36 : decode cX6_mirror 36 = .ok (.iadd, 1) := by decide +kernel
theorem dX6_mirror_37 : decode cX6_mirror 37 = .ok (.ishl, 1) := by decide +kernel
theorem dX6_mirror_38 : decode cX6_mirror 38 = .ok (.ior, 1) := by decide +kernel
theorem dX6_mirror_39 : decode cX6_mirror 39 = .ok (.istore_n 1, 1) := by decide +kernel
theorem dX6_mirror_40 : decode cX6_mirror 40 = .ok (.iinc 2 1, 3) := by decide +kernel
theorem dX6_mirror_43 : decode cX6_mirror 43 = .ok (.goto (-39), 3) := by decide +kernel
theorem dX6_mirror_46 : decode cX6_mirror 46 = .ok (.iload_n 1, 1) := by decide +kernel
theorem dX6_mirror_47 : decode cX6_mirror 47 = .ok (.invokestatic 27, 3) := by decide +kernel
theorem dX6_mirror_50 : decode cX6_mirror 50 = .ok (.ireturn, 1) := by decide +kernel
theorem dX6_hasSquare_0 : decode cX6_hasSquare 0 = .ok (.iload_n 0, 1) := by decide +kernel
theorem dX6_hasSquare_1 : decode cX6_hasSquare 1 = .ok (.iload_n 1, 1) := by decide +kernel
theorem dX6_hasSquare_2 : decode cX6_hasSquare 2 = .ok (.iushr, 1) := by decide +kernel
theorem dX6_hasSquare_3 : decode cX6_hasSquare 3 = .ok (.iconst 1, 1) := by decide +kernel
theorem dX6_hasSquare_4 : decode cX6_hasSquare 4 = .ok (.iand, 1) := by decide +kernel
theorem dX6_hasSquare_5 : decode cX6_hasSquare 5 = .ok (.ifCond .eq 7, 3) := by decide +kernel
theorem dX6_hasSquare_8 : decode cX6_hasSquare 8 = .ok (.iconst 1, 1) := by decide +kernel
theorem dX6_hasSquare_9 : decode cX6_hasSquare 9 = .ok (.goto 4, 3) := by decide +kernel
theorem dX6_hasSquare_12 : decode cX6_hasSquare 12 = .ok (.iconst 0, 1) := by decide +kernel
theorem dX6_hasSquare_13 : decode cX6_hasSquare 13 = .ok (.ireturn, 1) := by decide +kernel
theorem dX7_init_0 : decode cX7_init 0 = .ok (.aload_n 0, 1) := by decide +kernel
theorem dX7_init_1 : decode cX7_init 1 = .ok (.invokespecial 3, 3) := by decide +kernel
theorem dX7_init_4 : decode cX7_init 4 = .ok (.aload_n 0, 1) := by decide +kernel
theorem dX7_init_5 : decode cX7_init 5 = .ok (.sipush 1280, 3) := by decide +kernel
theorem dX7_init_8 : decode cX7_init 8 = .ok (.newarray .boolean, 2) := by decide +kernel
theorem dX7_init_10 : decode cX7_init 10 = .ok (.putfield 9, 3) := by decide +kernel
theorem dX7_init_13 : decode cX7_init 13 = .ok (.return_, 1) := by decide +kernel
theorem dX7_sift_0 : decode cX7_sift 0 = .ok (.iconst 0, 1) := by decide +kernel
theorem dX7_sift_1 : decode cX7_sift 1 = .ok (.istore_n 2, 1) := by decide +kernel
theorem dX7_sift_2 : decode cX7_sift 2 = .ok (.iload_n 2, 1) := by decide +kernel
theorem dX7_sift_3 : decode cX7_sift 3 = .ok (.sipush 1280, 3) := by decide +kernel
theorem dX7_sift_6 : decode cX7_sift 6 = .ok (.if_icmp .ge 16, 3) := by decide +kernel
theorem dX7_sift_9 : decode cX7_sift 9 = .ok (.aload_n 0, 1) := by decide +kernel
theorem dX7_sift_10 : decode cX7_sift 10 = .ok (.getfield 9, 3) := by decide +kernel
theorem dX7_sift_13 : decode cX7_sift 13 = .ok (.iload_n 2, 1) := by decide +kernel
theorem dX7_sift_14 : decode cX7_sift 14 = .ok (.iconst 0, 1) := by decide +kernel
theorem dX7_sift_15 : decode cX7_sift 15 = .ok (.bastore, 1) := by decide +kernel
theorem dX7_sift_16 : decode cX7_sift 16 = .ok (.iinc 2 1, 3) := by decide +kernel
theorem dX7_sift_19 : decode cX7_sift 19 = .ok (.goto (-17), 3) := by decide +kernel
theorem dX7_sift_22 : decode cX7_sift 22 = .ok (.iconst 1, 1) := by decide +kernel
theorem dX7_sift_23 : decode cX7_sift 23 = .ok (.istore_n 2, 1) := by decide +kernel
theorem dX7_sift_24 : decode cX7_sift 24 = .ok (.iconst 0, 1) := by decide +kernel
theorem dX7_sift_25 : decode cX7_sift 25 = .ok (.istore_n 3, 1) := by decide +kernel
theorem dX7_sift_26 : decode cX7_sift 26 = .ok (.iload_n 3, 1) := by decide +kernel
theorem dX7_sift_27 : decode cX7_sift 27 = .ok (.sipush 1280, 3) := by decide +kernel
theorem dX7_sift_30 : decode cX7_sift 30 = .ok (.if_icmp .gt 19, 3) := by decide +kernel
theorem dX7_sift_33 : decode cX7_sift 33 = .ok (.iload_n 2, 1) := by decide +kernel
theorem dX7_sift_34 : decode cX7_sift 34 = .ok (.ifCond .eq 15, 3) := by decide +kernel
theorem dX7_sift_37 : decode cX7_sift 37 = .ok (.aload_n 0, 1) := by decide +kernel
theorem dX7_sift_38 : decode cX7_sift 38 = .ok (.aload_n 1, 1) := by decide +kernel
theorem dX7_sift_39 : decode cX7_sift 39 = .ok (.invokevirtual 15, 3) := by decide +kernel
theorem dX7_sift_42 : decode cX7_sift 42 = .ok (.istore_n 2, 1) := by decide +kernel
theorem dX7_sift_43 : decode cX7_sift 43 = .ok (.iinc 3 1, 3) := by decide +kernel
theorem dX7_sift_46 : decode cX7_sift 46 = .ok (.goto (-20), 3) := by decide +kernel
theorem dX7_sift_49 : decode cX7_sift 49 = .ok (.return_, 1) := by decide +kernel
theorem dX7_strikeSome_0 : decode cX7_strikeSome 0 = .ok (.iconst 0, 1) := by decide +kernel
theorem dX7_strikeSome_1 : decode cX7_strikeSome 1 = .ok (.istore_n 2, 1) := by decide +kernel
theorem dX7_strikeSome_2 : decode cX7_strikeSome 2 = .ok (.iconst 0, 1) := by decide +kernel
theorem dX7_strikeSome_3 : decode cX7_strikeSome 3 = .ok (.istore_n 3, 1) := by decide +kernel
theorem dX7_strikeSome_4 : decode cX7_strikeSome 4 = .ok (.iload_n 3, 1) := by decide +kernel
theorem dX7_strikeSome_5 : decode cX7_strikeSome 5 = .ok (.aload_n 0, 1) := by decide +kernel
theorem dX7_strikeSome_6 : decode cX7_strikeSome 6 = .ok (.aload_n 1, 1) := by decide +kernel
theorem dX7_strikeSome_7 : decode cX7_strikeSome 7 = .ok (.invokevirtual 19, 3) := by decide +kernel
theorem dX7_strikeSome_10 : decode cX7_strikeSome 10 = .ok (.if_icmp .ge 36, 3) := by decide +kernel
theorem dX7_strikeSome_13 : decode cX7_strikeSome 13 = .ok (.aload_n 0, 1) := by decide +kernel
theorem dX7_strikeSome_14 : decode cX7_strikeSome 14 = .ok (.getfield 9, 3) := by decide +kernel
theorem dX7_strikeSome_17 : decode cX7_strikeSome 17 = .ok (.iload_n 3, 1) := by decide +kernel
theorem dX7_strikeSome_18 : decode cX7_strikeSome 18 = .ok (.baload, 1) := by decide +kernel
theorem dX7_strikeSome_19 : decode cX7_strikeSome 19 = .ok (.ifCond .ne 21, 3) := by decide +kernel
theorem dX7_strikeSome_22 : decode cX7_strikeSome 22 = .ok (.aload_n 0, 1) := by decide +kernel
theorem dX7_strikeSome_23 : decode cX7_strikeSome 23 = .ok (.aload_n 1, 1) := by decide +kernel
theorem dX7_strikeSome_24 : decode cX7_strikeSome 24 = .ok (.iload_n 3, 1) := by decide +kernel
theorem dX7_strikeSome_25 : decode cX7_strikeSome 25 = .ok (.invokevirtual 23, 3) := by decide +kernel
theorem dX7_strikeSome_28 : decode cX7_strikeSome 28 = .ok (.ifCond .ne 12, 3) := by decide +kernel
theorem dX7_strikeSome_31 : decode cX7_strikeSome 31 = .ok (.aload_n 0, 1) := by decide +kernel
theorem dX7_strikeSome_32 : decode cX7_strikeSome 32 = .ok (.getfield 9, 3) := by decide +kernel
theorem dX7_strikeSome_35 : decode cX7_strikeSome 35 = .ok (.iload_n 3, 1) := by decide +kernel
theorem dX7_strikeSome_36 : decode cX7_strikeSome 36 = .ok (.iconst 1, 1) := by decide +kernel
theorem dX7_strikeSome_37 : decode cX7_strikeSome 37 = .ok (.bastore, 1) := by decide +kernel
theorem dX7_strikeSome_38 : decode cX7_strikeSome 38 = .ok (.iconst 1, 1) := by decide +kernel
theorem dX7_strikeSome_39 : decode cX7_strikeSome 39 = .ok (.istore_n 2, 1) := by decide +kernel
theorem dX7_strikeSome_40 : decode cX7_strikeSome 40 = .ok (.iinc 3 1, 3) := by decide +kernel
theorem dX7_strikeSome_43 : decode cX7_strikeSome 43 = .ok (.goto (-39), 3) := by decide +kernel
theorem dX7_strikeSome_46 : decode cX7_strikeSome 46 = .ok (.iload_n 2, 1) := by decide +kernel
theorem dX7_strikeSome_47 : decode cX7_strikeSome 47 = .ok (.ireturn, 1) := by decide +kernel
theorem dX7_limitOf_0 : decode cX7_limitOf 0 = .ok (.aload_n 1, 1) := by decide +kernel
theorem dX7_limitOf_1 : decode cX7_limitOf 1 = .ok (.getfield 27, 3) := by decide +kernel
theorem dX7_limitOf_4 : decode cX7_limitOf 4 = .ok (.aload_n 0, 1) := by decide +kernel
theorem dX7_limitOf_5 : decode cX7_limitOf 5 = .ok (.getfield 9, 3) := by decide +kernel
theorem dX7_limitOf_8 : decode cX7_limitOf 8 = .ok (.arraylength, 1) := by decide +kernel
theorem dX7_limitOf_9 : decode cX7_limitOf 9 = .ok (.invokestatic 33, 3) := by decide +kernel
theorem dX7_limitOf_12 : decode cX7_limitOf 12 = .ok (.ireturn, 1) := by decide +kernel
theorem dX7_leavesAllCoverable_0 : decode cX7_leavesAllCoverable 0 = .ok (.aload_n 1, 1) := by decide +kernel
theorem dX7_leavesAllCoverable_1 : decode cX7_leavesAllCoverable 1 = .ok (.iload_n 2, 1) := by decide +kernel
theorem dX7_leavesAllCoverable_2 : decode cX7_leavesAllCoverable 2 = .ok (.invokevirtual 39, 3) := by decide +kernel
theorem dX7_leavesAllCoverable_5 : decode cX7_leavesAllCoverable 5 = .ok (.lstore_n 3, 1) := by decide +kernel
theorem dX7_leavesAllCoverable_6 : decode cX7_leavesAllCoverable 6 = .ok (.lload_n 3, 1) := by decide +kernel
theorem dX7_leavesAllCoverable_7 : decode cX7_leavesAllCoverable 7 = .ok (.lstore 5, 2) := by decide +kernel
theorem dX7_leavesAllCoverable_9 : decode cX7_leavesAllCoverable 9 = .ok (.aload_n 0, 1) := by decide +kernel
theorem dX7_leavesAllCoverable_10 : decode cX7_leavesAllCoverable 10 = .ok (.aload_n 1, 1) := by decide +kernel
theorem dX7_leavesAllCoverable_11 : decode cX7_leavesAllCoverable 11 = .ok (.invokevirtual 19, 3) := by decide +kernel
theorem dX7_leavesAllCoverable_14 : decode cX7_leavesAllCoverable 14 = .ok (.istore 7, 2) := by decide +kernel
theorem dX7_leavesAllCoverable_16 : decode cX7_leavesAllCoverable 16 = .ok (.iconst 0, 1) := by decide +kernel
theorem dX7_leavesAllCoverable_17 : decode cX7_leavesAllCoverable 17 = .ok (.istore 8, 2) := by decide +kernel
theorem dX7_leavesAllCoverable_19 : decode cX7_leavesAllCoverable 19 = .ok (.iload 8, 2) := by decide +kernel
theorem dX7_leavesAllCoverable_21 : decode cX7_leavesAllCoverable 21 = .ok (.iload 7, 2) := by decide +kernel
theorem dX7_leavesAllCoverable_23 : decode cX7_leavesAllCoverable 23 = .ok (.if_icmp .ge 53, 3) := by decide +kernel
theorem dX7_leavesAllCoverable_26 : decode cX7_leavesAllCoverable 26 = .ok (.lload 5, 2) := by decide +kernel
theorem dX7_leavesAllCoverable_28 : decode cX7_leavesAllCoverable 28 = .ok (.aload_n 1, 1) := by decide +kernel
theorem dX7_leavesAllCoverable_29 : decode cX7_leavesAllCoverable 29 = .ok (.getfield 43, 3) := by decide +kernel
theorem dX7_leavesAllCoverable_32 : decode cX7_leavesAllCoverable 32 = .ok (.lcmp, 1) := by decide +kernel
theorem dX7_leavesAllCoverable_33 : decode cX7_leavesAllCoverable 33 = .ok (.ifCond .eq 43, 3) := by decide +kernel
theorem dX7_leavesAllCoverable_36 : decode cX7_leavesAllCoverable 36 = .ok (.aload_n 1, 1) := by decide +kernel
theorem dX7_leavesAllCoverable_37 : decode cX7_leavesAllCoverable 37 = .ok (.iload 8, 2) := by decide +kernel
theorem dX7_leavesAllCoverable_39 : decode cX7_leavesAllCoverable 39 = .ok (.invokevirtual 39, 3) := by decide +kernel
theorem dX7_leavesAllCoverable_42 : decode cX7_leavesAllCoverable 42 = .ok (.lstore 9, 2) := by decide +kernel
theorem dX7_leavesAllCoverable_44 : decode cX7_leavesAllCoverable 44 = .ok (.aload_n 0, 1) := by decide +kernel
theorem dX7_leavesAllCoverable_45 : decode cX7_leavesAllCoverable 45 = .ok (.getfield 9, 3) := by decide +kernel
theorem dX7_leavesAllCoverable_48 : decode cX7_leavesAllCoverable 48 = .ok (.iload 8, 2) := by decide +kernel
theorem dX7_leavesAllCoverable_50 : decode cX7_leavesAllCoverable 50 = .ok (.baload, 1) := by decide +kernel
theorem dX7_leavesAllCoverable_51 : decode cX7_leavesAllCoverable 51 = .ok (.ifCond .ne 19, 3) := by decide +kernel
theorem dX7_leavesAllCoverable_54 : decode cX7_leavesAllCoverable 54 = .ok (.lload 9, 2) := by decide +kernel
theorem dX7_leavesAllCoverable_56 : decode cX7_leavesAllCoverable 56 = .ok (.lload_n 3, 1) := by decide +kernel
theorem dX7_leavesAllCoverable_57 : decode cX7_leavesAllCoverable 57 = .ok (.land, 1) := by decide +kernel
theorem dX7_leavesAllCoverable_58 : decode cX7_leavesAllCoverable 58 = .ok (.lconst 0, 1) := by decide +kernel
theorem dX7_leavesAllCoverable_59 : decode cX7_leavesAllCoverable 59 = .ok (.lcmp, 1) := by decide +kernel
theorem dX7_leavesAllCoverable_60 : decode cX7_leavesAllCoverable 60 = .ok (.ifCond .ne 10, 3) := by decide +kernel
theorem dX7_leavesAllCoverable_63 : decode cX7_leavesAllCoverable 63 = .ok (.lload 5, 2) := by decide +kernel
theorem dX7_leavesAllCoverable_65 : decode cX7_leavesAllCoverable 65 = .ok (.lload 9, 2) := by decide +kernel
theorem dX7_leavesAllCoverable_67 : decode cX7_leavesAllCoverable 67 = .ok (.lor, 1) := by decide +kernel
theorem dX7_leavesAllCoverable_68 : decode cX7_leavesAllCoverable 68 = .ok (.lstore 5, 2) := by decide +kernel
theorem dX7_leavesAllCoverable_70 : decode cX7_leavesAllCoverable 70 = .ok (.iinc 8 1, 3) := by decide +kernel
theorem dX7_leavesAllCoverable_73 : decode cX7_leavesAllCoverable 73 = .ok (.goto (-54), 3) := by decide +kernel
theorem dX7_leavesAllCoverable_76 : decode cX7_leavesAllCoverable 76 = .ok (.lload 5, 2) := by decide +kernel
theorem dX7_leavesAllCoverable_78 : decode cX7_leavesAllCoverable 78 = .ok (.aload_n 1, 1) := by decide +kernel
theorem dX7_leavesAllCoverable_79 : decode cX7_leavesAllCoverable 79 = .ok (.getfield 43, 3) := by decide +kernel
theorem dX7_leavesAllCoverable_82 : decode cX7_leavesAllCoverable 82 = .ok (.lcmp, 1) := by decide +kernel
theorem dX7_leavesAllCoverable_83 : decode cX7_leavesAllCoverable 83 = .ok (.ifCond .ne 7, 3) := by decide +kernel
theorem dX7_leavesAllCoverable_86 : decode cX7_leavesAllCoverable 86 = .ok (.iconst 1, 1) := by decide +kernel
theorem dX7_leavesAllCoverable_87 : decode cX7_leavesAllCoverable 87 = .ok (.goto 4, 3) := by decide +kernel
theorem dX7_leavesAllCoverable_90 : decode cX7_leavesAllCoverable 90 = .ok (.iconst 0, 1) := by decide +kernel
theorem dX7_leavesAllCoverable_91 : decode cX7_leavesAllCoverable 91 = .ok (.ireturn, 1) := by decide +kernel
