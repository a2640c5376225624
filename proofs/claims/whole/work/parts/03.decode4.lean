theorem dX12_turns_0 : decode cX12_turns 0 = .ok (.aload_n 0, 1) := by decide +kernel
theorem dX12_turns_1 : decode cX12_turns 1 = .ok (.dup, 1) := by decide +kernel
theorem dX12_turns_2 : decode cX12_turns 2 = .ok (.getfield 210, 3) := by decide +kernel
theorem dX12_turns_5 : decode cX12_turns 5 = .ok (.aload_n 0, 1) := by decide +kernel
theorem dX12_turns_6 : decode cX12_turns 6 = .ok (.getfield 32, 3) := by decide +kernel
theorem dX12_turns_9 : decode cX12_turns 9 = .ok (.iload_n 1, 1) := by decide +kernel
theorem dX12_turns_10 : decode cX12_turns 10 = .ok (.laload, 1) := by decide +kernel
theorem dX12_turns_11 : decode cX12_turns 11 = .ok (.lxor, 1) := by decide +kernel
theorem dX12_turns_12 : decode cX12_turns 12 = .ok (.putfield 210, 3) := by decide +kernel
theorem dX12_turns_15 : decode cX12_turns 15 = .ok (.aload_n 0, 1) := by decide +kernel
theorem dX12_turns_16 : decode cX12_turns 16 = .ok (.getfield 51, 3) := by decide +kernel
theorem dX12_turns_19 : decode cX12_turns 19 = .ok (.aload_n 0, 1) := by decide +kernel
theorem dX12_turns_20 : decode cX12_turns 20 = .ok (.aload_n 0, 1) := by decide +kernel
theorem dX12_turns_21 : decode cX12_turns 21 = .ok (.getfield 23, 3) := by decide +kernel
theorem dX12_turns_24 : decode cX12_turns 24 = .ok (.iload_n 1, 1) := by decide +kernel
theorem dX12_turns_25 : decode cX12_turns 25 = .ok (.iaload, 1) := by decide +kernel
theorem dX12_turns_26 : decode cX12_turns 26 = .ok (.iconst 2, 1) := by decide +kernel
theorem dX12_turns_27 : decode cX12_turns 27 = .ok (.invokevirtual 95, 3) := by decide +kernel
theorem dX12_turns_30 : decode cX12_turns 30 = .ok (.dup2, 1) := by decide +kernel
theorem dX12_turns_31 : decode cX12_turns 31 = .ok (.laload, 1) := by decide +kernel
theorem dX12_turns_32 : decode cX12_turns 32 = .ok (.aload_n 0, 1) := by decide +kernel
theorem dX12_turns_33 : decode cX12_turns 33 = .ok (.getfield 32, 3) := by decide +kernel
theorem dX12_turns_36 : decode cX12_turns 36 = .ok (.iload_n 1, 1) := by decide +kernel
theorem dX12_turns_37 : decode cX12_turns 37 = .ok (.laload, 1) := by decide +kernel
theorem dX12_turns_38 : decode cX12_turns 38 = .ok (.lxor, 1) := by decide +kernel
theorem dX12_turns_39 : decode cX12_turns 39 = .ok (.lastore, 1) := by decide +kernel
theorem dX12_turns_40 : decode cX12_turns 40 = .ok (.aload_n 0, 1) := by decide +kernel
theorem dX12_turns_41 : decode cX12_turns 41 = .ok (.getfield 54, 3) := by decide +kernel
theorem dX12_turns_44 : decode cX12_turns 44 = .ok (.aload_n 0, 1) := by decide +kernel
theorem dX12_turns_45 : decode cX12_turns 45 = .ok (.getfield 23, 3) := by decide +kernel
theorem dX12_turns_48 : decode cX12_turns 48 = .ok (.iload_n 1, 1) := by decide +kernel
theorem dX12_turns_49 : decode cX12_turns 49 = .ok (.iaload, 1) := by decide +kernel
theorem dX12_turns_50 : decode cX12_turns 50 = .ok (.dup2, 1) := by decide +kernel
theorem dX12_turns_51 : decode cX12_turns 51 = .ok (.iaload, 1) := by decide +kernel
theorem dX12_turns_52 : decode cX12_turns 52 = .ok (.iload_n 2, 1) := by decide +kernel
theorem dX12_turns_53 : decode cX12_turns 53 = .ok (.ifCond .eq 7, 3) := by decide +kernel
theorem dX12_turns_56 : decode cX12_turns 56 = .ok (.iconst (-1), 1) := by decide +kernel
theorem dX12_turns_57 : decode cX12_turns 57 = .ok (.goto 4, 3) := by decide +kernel
theorem dX12_turns_60 : decode cX12_turns 60 = .ok (.iconst 1, 1) := by decide +kernel
theorem dX12_turns_61 : decode cX12_turns 61 = .ok (.iadd, 1) := by decide +kernel
theorem dX12_turns_62 : decode cX12_turns 62 = .ok (.iastore, 1) := by decide +kernel
theorem dX12_turns_63 : decode cX12_turns 63 = .ok (.return_, 1) := by decide +kernel
theorem dX12_begins_0 : decode cX12_begins 0 = .ok (.aload_n 0, 1) := by decide +kernel
theorem dX12_begins_1 : decode cX12_begins 1 = .ok (.invokevirtual 120, 3) := by decide +kernel
theorem dX12_begins_4 : decode cX12_begins 4 = .ok (.aload_n 0, 1) := by decide +kernel
theorem dX12_begins_5 : decode cX12_begins 5 = .ok (.iconst 0, 1) := by decide +kernel
theorem dX12_begins_6 : decode cX12_begins 6 = .ok (.putfield 218, 3) := by decide +kernel
theorem dX12_begins_9 : decode cX12_begins 9 = .ok (.aload_n 0, 1) := by decide +kernel
theorem dX12_begins_10 : decode cX12_begins 10 = .ok (.lconst 0, 1) := by decide +kernel
theorem dX12_begins_11 : decode cX12_begins 11 = .ok (.putfield 210, 3) := by decide +kernel
theorem dX12_begins_14 : decode cX12_begins 14 = .ok (.aload_n 0, 1) := by decide +kernel
theorem dX12_begins_15 : decode cX12_begins 15 = .ok (.iconst 0, 1) := by decide +kernel
theorem dX12_begins_16 : decode cX12_begins 16 = .ok (.putfield 221, 3) := by decide +kernel
theorem dX12_begins_19 : decode cX12_begins 19 = .ok (.aload_n 0, 1) := by decide +kernel
theorem dX12_begins_20 : decode cX12_begins 20 = .ok (.iconst 0, 1) := by decide +kernel
theorem dX12_begins_21 : decode cX12_begins 21 = .ok (.putfield 224, 3) := by decide +kernel
theorem dX12_begins_24 : decode cX12_begins 24 = .ok (.aload_n 0, 1) := by decide +kernel
theorem dX12_begins_25 : decode cX12_begins 25 = .ok (.iconst 0, 1) := by decide +kernel
theorem dX12_begins_26 : decode cX12_begins 26 = .ok (.putfield 227, 3) := by decide +kernel
theorem dX12_begins_29 : decode cX12_begins 29 = .ok (.aload_n 0, 1) := by decide +kernel
theorem dX12_begins_30 : decode cX12_begins 30 = .ok (.getfield 48, 3) := by decide +kernel
theorem dX12_begins_33 : decode cX12_begins 33 = .ok (.iconst 0, 1) := by decide +kernel
theorem dX12_begins_34 : decode cX12_begins 34 = .ok (.iconst 0, 1) := by decide +kernel
theorem dX12_begins_35 : decode cX12_begins 35 = .ok (.iastore, 1) := by decide +kernel
theorem dX12_begins_36 : decode cX12_begins 36 = .ok (.iconst 0, 1) := by decide +kernel
theorem dX12_begins_37 : decode cX12_begins 37 = .ok (.istore_n 1, 1) := by decide +kernel
theorem dX12_begins_38 : decode cX12_begins 38 = .ok (.iload_n 1, 1) := by decide +kernel
theorem dX12_begins_39 : decode cX12_begins 39 = .ok (.iconst 4, 1) := by decide +kernel
theorem dX12_begins_40 : decode cX12_begins 40 = .ok (.if_icmp .ge 16, 3) := by decide +kernel
theorem dX12_begins_43 : decode cX12_begins 43 = .ok (.aload_n 0, 1) := by decide +kernel
theorem dX12_begins_44 : decode cX12_begins 44 = .ok (.getfield 51, 3) := by decide +kernel
theorem dX12_begins_47 : decode cX12_begins 47 = .ok (.iload_n 1, 1) := by decide +kernel
theorem dX12_begins_48 : decode cX12_begins 48 = .ok (.lconst 0, 1) := by decide +kernel
theorem dX12_begins_49 : decode cX12_begins 49 = .ok (.lastore, 1) := by decide +kernel
theorem dX12_begins_50 : decode cX12_begins 50 = .ok (.iinc 1 1, 3) := by decide +kernel
theorem dX12_begins_53 : decode cX12_begins 53 = .ok (.goto (-15), 3) := by decide +kernel
theorem dX12_begins_56 : decode cX12_begins 56 = .ok (.iconst 0, 1) := by decide +kernel
theorem dX12_begins_57 : decode cX12_begins 57 = .ok (.istore_n 1, 1) := by decide +kernel
theorem dX12_begins_58 : decode cX12_begins 58 = .ok (.iload_n 1, 1) := by decide +kernel
theorem dX12_begins_59 : decode cX12_begins 59 = .ok (.aload_n 0, 1) := by decide +kernel
theorem dX12_begins_60 : decode cX12_begins 60 = .ok (.getfield 7, 3) := by decide +kernel
theorem dX12_begins_63 : decode cX12_begins 63 = .ok (.iconst 4, 1) := by decide +kernel
theorem dX12_begins_64 : decode cX12_begins 64 = .ok (.iaload, 1) := by decide +kernel
theorem dX12_begins_65 : decode cX12_begins 65 = .ok (.if_icmp .ge 21, 3) := by decide +kernel
theorem dX12_begins_68 : decode cX12_begins 68 = .ok (.aload_n 0, 1) := by decide +kernel
theorem dX12_begins_69 : decode cX12_begins 69 = .ok (.getfield 54, 3) := by decide +kernel
theorem dX12_begins_72 : decode cX12_begins 72 = .ok (.iload_n 1, 1) := by decide +kernel
theorem dX12_begins_73 : decode cX12_begins 73 = .ok (.aload_n 0, 1) := by decide +kernel
theorem dX12_begins_74 : decode cX12_begins 74 = .ok (.iload_n 1, 1) := by decide +kernel
theorem dX12_begins_75 : decode cX12_begins 75 = .ok (.iconst 3, 1) := by decide +kernel
theorem dX12_begins_76 : decode cX12_begins 76 = .ok (.invokevirtual 95, 3) := by decide +kernel
theorem dX12_begins_79 : decode cX12_begins 79 = .ok (.iastore, 1) := by decide +kernel
theorem dX12_begins_80 : decode cX12_begins 80 = .ok (.iinc 1 1, 3) := by decide +kernel
theorem dX12_begins_83 : decode cX12_begins 83 = .ok (.goto (-25), 3) := by decide +kernel
theorem dX12_begins_86 : decode cX12_begins 86 = .ok (.aload_n 0, 1) := by decide +kernel
theorem dX12_begins_87 : decode cX12_begins 87 = .ok (.iconst 0, 1) := by decide +kernel
theorem dX12_begins_88 : decode cX12_begins 88 = .ok (.putfield 230, 3) := by decide +kernel
theorem dX12_begins_91 : decode cX12_begins 91 = .ok (.aload_n 0, 1) := by decide +kernel
theorem dX12_begins_92 : decode cX12_begins 92 = .ok (.iconst 1, 1) := by decide +kernel
theorem dX12_begins_93 : decode cX12_begins 93 = .ok (.putfield 233, 3) := by decide +kernel
theorem dX12_begins_96 : decode cX12_begins 96 = .ok (.return_, 1) := by decide +kernel
theorem dX12_isCover_0 : decode cX12_isCover 0 = .ok (.iconst 1, 1) := by decide +kernel
theorem dX12_isCover_1 : decode cX12_isCover 1 = .ok (.istore_n 1, 1) := by decide +kernel
theorem dX12_isCover_2 : decode cX12_isCover 2 = .ok (.iconst 0, 1) := by decide +kernel
theorem dX12_isCover_3 : decode cX12_isCover 3 = .ok (.istore_n 2, 1) := by decide +kernel
theorem dX12_isCover_4 : decode cX12_isCover 4 = .ok (.iload_n 2, 1) := by decide +kernel
theorem dX12_isCover_5 : decode cX12_isCover 5 = .ok (.aload_n 0, 1) := by decide +kernel
theorem dX12_isCover_6 : decode cX12_isCover 6 = .ok (.getfield 7, 3) := by decide +kernel
theorem dX12_isCover_9 : decode cX12_isCover 9 = .ok (.iconst 4, 1) := by decide +kernel
theorem dX12_isCover_10 : decode cX12_isCover 10 = .ok (.iaload, 1) := by decide +kernel
theorem dX12_isCover_11 : decode cX12_isCover 11 = .ok (.if_icmp .ge 37, 3) := by decide +kernel
theorem dX12_isCover_14 : decode cX12_isCover 14 = .ok (.iload_n 1, 1) := by decide +kernel
theorem dX12_isCover_15 : decode cX12_isCover 15 = .ok (.ifCond .eq 25, 3) := by decide +kernel
theorem dX12_isCover_18 : decode cX12_isCover 18 = .ok (.aload_n 0, 1) := by decide +kernel
theorem dX12_isCover_19 : decode cX12_isCover 19 = .ok (.getfield 7, 3) := by decide +kernel
theorem dX12_isCover_22 : decode cX12_isCover 22 = .ok (.iconst 2, 1) := by decide +kernel
theorem dX12_isCover_23 : decode cX12_isCover 23 = .ok (.iaload, 1) := by decide +kernel
theorem dX12_isCover_24 : decode cX12_isCover 24 = .ok (.ifCond .eq 12, 3) := by decide +kernel
theorem dX12_isCover_27 : decode cX12_isCover 27 = .ok (.aload_n 0, 1) := by decide +kernel
theorem dX12_isCover_28 : decode cX12_isCover 28 = .ok (.getfield 54, 3) := by decide +kernel
theorem dX12_isCover_31 : decode cX12_isCover 31 = .ok (.iload_n 2, 1) := by decide +kernel
theorem dX12_isCover_32 : decode cX12_isCover 32 = .ok (.iaload, 1) := by decide +kernel
theorem dX12_isCover_33 : decode cX12_isCover 33 = .ok (.ifCond .ne 7, 3) := by decide +kernel
theorem dX12_isCover_36 : decode cX12_isCover 36 = .ok (.iconst 1, 1) := by decide +kernel
theorem dX12_isCover_37 : decode cX12_isCover 37 = .ok (.goto 4, 3) := by decide +kernel
theorem dX12_isCover_40 : decode cX12_isCover 40 = .ok (.iconst 0, 1) := by decide +kernel
theorem dX12_isCover_41 : decode cX12_isCover 41 = .ok (.istore_n 1, 1) := by decide +kernel
theorem dX12_isCover_42 : decode cX12_isCover 42 = .ok (.iinc 2 1, 3) := by decide +kernel
theorem dX12_isCover_45 : decode cX12_isCover 45 = .ok (.goto (-41), 3) := by decide +kernel
theorem dX12_isCover_48 : decode cX12_isCover 48 = .ok (.iload_n 1, 1) := by decide +kernel
theorem dX12_isCover_49 : decode cX12_isCover 49 = .ok (.ireturn, 1) := by decide +kernel
theorem dX12_goesBack_0 : decode cX12_goesBack 0 = .ok (.aload_n 0, 1) := by decide +kernel
theorem dX12_goesBack_1 : decode cX12_goesBack 1 = .ok (.getfield 218, 3) := by decide +kernel
theorem dX12_goesBack_4 : decode cX12_goesBack 4 = .ok (.ifCond .ne 11, 3) := by decide +kernel
theorem dX12_goesBack_7 : decode cX12_goesBack 7 = .ok (.aload_n 0, 1) := by decide +kernel
theorem dX12_goesBack_8 : decode cX12_goesBack 8 = .ok (.iconst 1, 1) := by decide +kernel
theorem dX12_goesBack_9 : decode cX12_goesBack 9 = .ok (.putfield 230, 3) := by decide +kernel
theorem dX12_goesBack_12 : decode cX12_goesBack 12 = .ok (.goto 47, 3) := by decide +kernel
theorem dX12_goesBack_15 : decode cX12_goesBack 15 = .ok (.aload_n 0, 1) := by decide +kernel
theorem dX12_goesBack_16 : decode cX12_goesBack 16 = .ok (.dup, 1) := by decide +kernel
theorem dX12_goesBack_17 : decode cX12_goesBack 17 = .ok (.getfield 218, 3) := by decide +kernel
theorem dX12_goesBack_20 : decode cX12_goesBack 20 = .ok (.iconst 1, 1) := by decide +kernel
theorem dX12_goesBack_21 : decode cX12_goesBack 21 = .ok (.isub, 1) := by decide +kernel
theorem dX12_goesBack_22 : decode cX12_goesBack 22 = .ok (.putfield 218, 3) := by decide +kernel
theorem dX12_goesBack_25 : decode cX12_goesBack 25 = .ok (.aload_n 0, 1) := by decide +kernel
theorem dX12_goesBack_26 : decode cX12_goesBack 26 = .ok (.aload_n 0, 1) := by decide +kernel
theorem dX12_goesBack_27 : decode cX12_goesBack 27 = .ok (.getfield 45, 3) := by decide +kernel
theorem dX12_goesBack_30 : decode cX12_goesBack 30 = .ok (.aload_n 0, 1) := by decide +kernel
theorem dX12_goesBack_31 : decode cX12_goesBack 31 = .ok (.getfield 218, 3) := by decide +kernel
theorem dX12_goesBack_34 : decode cX12_goesBack 34 = .ok (.iaload, 1) := by decide +kernel
theorem dX12_goesBack_35 : decode cX12_goesBack 35 = .ok (.iconst 0, 1) := by decide +kernel
theorem dX12_goesBack_36 : decode cX12_goesBack 36 = .ok (.invokevirtual 236, 3) := by decide +kernel
theorem dX12_goesBack_39 : decode cX12_goesBack 39 = .ok (.aload_n 0, 1) := by decide +kernel
theorem dX12_goesBack_40 : decode cX12_goesBack 40 = .ok (.getfield 48, 3) := by decide +kernel
theorem dX12_goesBack_43 : decode cX12_goesBack 43 = .ok (.aload_n 0, 1) := by decide +kernel
theorem dX12_goesBack_44 : decode cX12_goesBack 44 = .ok (.getfield 218, 3) := by decide +kernel
theorem dX12_goesBack_47 : decode cX12_goesBack 47 = .ok (.aload_n 0, 1) := by decide +kernel
theorem dX12_goesBack_48 : decode cX12_goesBack 48 = .ok (.getfield 45, 3) := by decide +kernel
theorem dX12_goesBack_51 : decode cX12_goesBack 51 = .ok (.aload_n 0, 1) := by decide +kernel
theorem dX12_goesBack_52 : decode cX12_goesBack 52 = .ok (.getfield 218, 3) := by decide +kernel
theorem dX12_goesBack_55 : decode cX12_goesBack 55 = .ok (.iaload, 1) := by decide +kernel
theorem dX12_goesBack_56 : decode cX12_goesBack 56 = .ok (.iconst 1, 1) := by decide +kernel
theorem dX12_goesBack_57 : decode cX12_goesBack 57 = .ok (.iadd, 1) := by decide +kernel
theorem dX12_goesBack_58 : decode cX12_goesBack 58 = .ok (.iastore, 1) := by decide +kernel
theorem dX12_goesBack_59 : decode cX12_goesBack 59 = .ok (.return_, 1) := by decide +kernel
theorem dX12_goesOn_0 : decode cX12_goesOn 0 = .ok (.aload_n 0, 1) := by decide +kernel
theorem dX12_goesOn_1 : decode cX12_goesOn 1 = .ok (.invokevirtual 240, 3) := by decide +kernel
theorem dX12_goesOn_4 : decode cX12_goesOn 4 = .ok (.lstore_n 1, 1) := by decide +kernel
theorem dX12_goesOn_5 : decode cX12_goesOn 5 = .ok (.aload_n 0, 1) := by decide +kernel
theorem dX12_goesOn_6 : decode cX12_goesOn 6 = .ok (.getfield 233, 3) := by decide +kernel
theorem dX12_goesOn_9 : decode cX12_goesOn 9 = .ok (.ifCond .ne 7, 3) := by decide +kernel
theorem dX12_goesOn_12 : decode cX12_goesOn 12 = .ok (.aload_n 0, 1) := by decide +kernel
theorem dX12_goesOn_13 : decode cX12_goesOn 13 = .ok (.invokevirtual 244, 3) := by decide +kernel
theorem dX12_goesOn_16 : decode cX12_goesOn 16 = .ok (.aload_n 0, 1) := by decide +kernel
theorem dX12_goesOn_17 : decode cX12_goesOn 17 = .ok (.iconst 0, 1) := by decide +kernel
theorem dX12_goesOn_18 : decode cX12_goesOn 18 = .ok (.putfield 233, 3) := by decide +kernel
theorem dX12_goesOn_21 : decode cX12_goesOn 21 = .ok (.aload_n 0, 1) := by decide +kernel
theorem dX12_goesOn_22 : decode cX12_goesOn 22 = .ok (.getfield 230, 3) := by decide +kernel
theorem dX12_goesOn_25 : decode cX12_goesOn 25 = .ok (.ifCond .ne 188, 3) := by decide +kernel
theorem dX12_goesOn_28 : decode cX12_goesOn 28 = .ok (.aload_n 0, 1) := by decide +kernel
theorem dX12_goesOn_29 : decode cX12_goesOn 29 = .ok (.getfield 210, 3) := by decide +kernel
theorem dX12_goesOn_32 : decode cX12_goesOn 32 = .ok (.lload_n 1, 1) := by decide +kernel
theorem dX12_goesOn_33 : decode cX12_goesOn 33 = .ok (.lcmp, 1) := by decide +kernel
theorem dX12_goesOn_34 : decode cX12_goesOn 34 = .ok (.ifCond .ne 29, 3) := by decide +kernel
theorem dX12_goesOn_37 : decode cX12_goesOn 37 = .ok (.aload_n 0, 1) := by decide +kernel
theorem dX12_goesOn_38 : decode cX12_goesOn 38 = .ok (.invokevirtual 247, 3) := by decide +kernel
theorem dX12_goesOn_41 : decode cX12_goesOn 41 = .ok (.ifCond .eq 15, 3) := by decide +kernel
theorem dX12_goesOn_44 : decode cX12_goesOn 44 = .ok (.aload_n 0, 1) := by decide +kernel
theorem dX12_goesOn_45 : decode cX12_goesOn 45 = .ok (.dup, 1) := by decide +kernel
theorem dX12_goesOn_46 : decode cX12_goesOn 46 = .ok (.getfield 224, 3) := by decide +kernel
theorem dX12_goesOn_49 : decode cX12_goesOn 49 = .ok (.iconst 1, 1) := by decide +kernel
theorem dX12_goesOn_50 : decode cX12_goesOn 50 = .ok (.iadd, 1) := by decide +kernel
theorem dX12_goesOn_51 : decode cX12_goesOn 51 = .ok (.putfield 224, 3) := by decide +kernel
theorem dX12_goesOn_54 : decode cX12_goesOn 54 = .ok (.iconst 1, 1) := by decide +kernel
theorem dX12_goesOn_55 : decode cX12_goesOn 55 = .ok (.ireturn, 1) := by decide +kernel
theorem dX12_goesOn_56 : decode cX12_goesOn 56 = .ok (.aload_n 0, 1) := by decide +kernel
theorem dX12_goesOn_57 : decode cX12_goesOn 57 = .ok (.invokevirtual 244, 3) := by decide +kernel
theorem dX12_goesOn_60 : decode cX12_goesOn 60 = .ok (.goto (-39), 3) := by decide +kernel
theorem dX12_goesOn_63 : decode cX12_goesOn 63 = .ok (.lload_n 1, 1) := by decide +kernel
theorem dX12_goesOn_64 : decode cX12_goesOn 64 = .ok (.aload_n 0, 1) := by decide +kernel
theorem dX12_goesOn_65 : decode cX12_goesOn 65 = .ok (.getfield 210, 3) := by decide +kernel
theorem dX12_goesOn_68 : decode cX12_goesOn 68 = .ok (.ldc2_w 251, 3) := by decide +kernel
theorem dX12_goesOn_71 : decode cX12_goesOn 71 = .ok (.lxor, 1) := by decide +kernel
theorem dX12_goesOn_72 : decode cX12_goesOn 72 = .ok (.land, 1) := by decide +kernel
theorem dX12_goesOn_73 : decode cX12_goesOn 73 = .ok (.invokestatic 116, 3) := by decide +kernel
theorem dX12_goesOn_76 : decode cX12_goesOn 76 = .ok (.istore_n 3, 1) := by decide +kernel
theorem dX12_goesOn_77 : decode cX12_goesOn 77 = .ok (.aload_n 0, 1) := by decide +kernel
theorem dX12_goesOn_78 : decode cX12_goesOn 78 = .ok (.getfield 48, 3) := by decide +kernel
theorem dX12_goesOn_81 : decode cX12_goesOn 81 = .ok (.aload_n 0, 1) := by decide +kernel
theorem dX12_goesOn_82 : decode cX12_goesOn 82 = .ok (.getfield 218, 3) := by decide +kernel
theorem dX12_goesOn_85 : decode cX12_goesOn 85 = .ok (.iaload, 1) := by decide +kernel
theorem dX12_goesOn_86 : decode cX12_goesOn 86 = .ok (.istore 4, 2) := by decide +kernel
theorem dX12_goesOn_88 : decode cX12_goesOn 88 = .ok (.iload 4, 2) := by decide +kernel
theorem dX12_goesOn_90 : decode cX12_goesOn 90 = .ok (.aload_n 0, 1) := by decide +kernel
theorem dX12_goesOn_91 : decode cX12_goesOn 91 = .ok (.getfield 106, 3) := by decide +kernel
theorem dX12_goesOn_94 : decode cX12_goesOn 94 = .ok (.if_icmp .ge 29, 3) := by decide +kernel
theorem dX12_goesOn_97 : decode cX12_goesOn 97 = .ok (.aload_n 0, 1) := by decide +kernel
theorem dX12_goesOn_98 : decode cX12_goesOn 98 = .ok (.getfield 36, 3) := by decide +kernel
theorem dX12_goesOn_101 : decode cX12_goesOn 101 = .ok (.iload 4, 2) := by decide +kernel
theorem dX12_goesOn_103 : decode cX12_goesOn 103 = .ok (.iaload, 1) := by decide +kernel
theorem dX12_goesOn_104 : decode cX12_goesOn 104 = .ok (.iload_n 3, 1) := by decide +kernel
theorem dX12_goesOn_105 : decode cX12_goesOn 105 = .ok (.if_icmp .ne 12, 3) := by decide +kernel
theorem dX12_goesOn_108 : decode cX12_goesOn 108 = .ok (.aload_n 0, 1) := by decide +kernel
theorem dX12_goesOn_109 : decode cX12_goesOn 109 = .ok (.iload 4, 2) := by decide +kernel
theorem dX12_goesOn_111 : decode cX12_goesOn 111 = .ok (.invokevirtual 253, 3) := by decide +kernel
theorem dX12_goesOn_114 : decode cX12_goesOn 114 = .ok (.ifCond .ne 9, 3) := by decide +kernel
theorem dX12_goesOn_117 : decode cX12_goesOn 117 = .ok (.iinc 4 1, 3) := by decide +kernel
theorem dX12_goesOn_120 : decode cX12_goesOn 120 = .ok (.goto (-32), 3) := by decide +kernel
theorem dX12_goesOn_123 : decode cX12_goesOn 123 = .ok (.iload 4, 2) := by decide +kernel
theorem dX12_goesOn_125 : decode cX12_goesOn 125 = .ok (.aload_n 0, 1) := by decide +kernel
theorem dX12_goesOn_126 : decode cX12_goesOn 126 = .ok (.getfield 106, 3) := by decide +kernel
theorem dX12_goesOn_129 : decode cX12_goesOn 129 = .ok (.if_icmp .ne 10, 3) := by decide +kernel
theorem dX12_goesOn_132 : decode cX12_goesOn 132 = .ok (.aload_n 0, 1) := by decide +kernel
theorem dX12_goesOn_133 : decode cX12_goesOn 133 = .ok (.invokevirtual 244, 3) := by decide +kernel
theorem dX12_goesOn_136 : decode cX12_goesOn 136 = .ok (.goto 74, 3) := by decide +kernel
theorem dX12_goesOn_139 : decode cX12_goesOn 139 = .ok (.aload_n 0, 1) := by decide +kernel
theorem dX12_goesOn_140 : decode cX12_goesOn 140 = .ok (.getfield 221, 3) := by decide +kernel
theorem dX12_goesOn_143 : decode cX12_goesOn 143 = .ok (.sipush 20000, 3) := by decide +kernel
theorem dX12_goesOn_146 : decode cX12_goesOn 146 = .ok (.if_icmp .ne 16, 3) := by decide +kernel
theorem dX12_goesOn_149 : decode cX12_goesOn 149 = .ok (.aload_n 0, 1) := by decide +kernel
theorem dX12_goesOn_150 : decode cX12_goesOn 150 = .ok (.iconst 1, 1) := by decide +kernel
theorem dX12_goesOn_151 : decode cX12_goesOn 151 = .ok (.putfield 227, 3) := by decide +kernel
theorem dX12_goesOn_154 : decode cX12_goesOn 154 = .ok (.aload_n 0, 1) := by decide +kernel
theorem dX12_goesOn_155 : decode cX12_goesOn 155 = .ok (.iconst 1, 1) := by decide +kernel
theorem dX12_goesOn_156 : decode cX12_goesOn 156 = .ok (.putfield 230, 3) := by decide +kernel
theorem dX12_goesOn_159 : decode cX12_goesOn 159 = .ok (.goto 51, 3) := by decide +kernel
theorem dX12_goesOn_162 : decode cX12_goesOn 162 = .ok (.aload_n 0, 1) := by decide +kernel
theorem dX12_goesOn_163 : decode cX12_goesOn 163 = .ok (.dup, 1) := by decide +kernel
theorem dX12_goesOn_164 : decode cX12_goesOn 164 = .ok (.getfield 221, 3) := by decide +kernel
theorem dX12_goesOn_167 : decode cX12_goesOn 167 = .ok (.iconst 1, 1) := by decide +kernel
theorem dX12_goesOn_168 : decode cX12_goesOn 168 = .ok (.iadd, 1) := by decide +kernel
theorem dX12_goesOn_169 : decode cX12_goesOn 169 = .ok (.putfield 221, 3) := by decide +kernel
theorem dX12_goesOn_172 : decode cX12_goesOn 172 = .ok (.aload_n 0, 1) := by decide +kernel
theorem dX12_goesOn_173 : decode cX12_goesOn 173 = .ok (.getfield 45, 3) := by decide +kernel
theorem dX12_goesOn_176 : decode cX12_goesOn 176 = .ok (.aload_n 0, 1) := by decide +kernel
theorem dX12_goesOn_177 : decode cX12_goesOn 177 = .ok (.getfield 218, 3) := by decide +kernel
theorem dX12_goesOn_180 : decode cX12_goesOn 180 = .ok (.iload 4, 2) := by decide +kernel
theorem dX12_goesOn_182 : decode cX12_goesOn 182 = .ok (.iastore, 1) := by decide +kernel
theorem dX12_goesOn_183 : decode cX12_goesOn 183 = .ok (.aload_n 0, 1) := by decide +kernel
theorem dX12_goesOn_184 : decode cX12_goesOn 184 = .ok (.dup, 1) := by decide +kernel
theorem dX12_goesOn_185 : decode cX12_goesOn 185 = .ok (.getfield 218, 3) := by decide +kernel
theorem dX12_goesOn_188 : decode cX12_goesOn 188 = .ok (.iconst 1, 1) := by decide +kernel
theorem dX12_goesOn_189 : decode cX12_goesOn 189 = .ok (.iadd, 1) := by decide +kernel
theorem dX12_goesOn_190 : decode cX12_goesOn 190 = .ok (.putfield 218, 3) := by decide +kernel
theorem dX12_goesOn_193 : decode cX12_goesOn 193 = .ok (.aload_n 0, 1) := by decide +kernel
theorem dX12_goesOn_194 : decode cX12_goesOn 194 = .ok (.getfield 48, 3) := by decide +kernel
theorem dX12_goesOn_197 : decode cX12_goesOn 197 = .ok (.aload_n 0, 1) := by decide +kernel
theorem dX12_goesOn_198 : decode cX12_goesOn 198 = .ok (.getfield 218, 3) := by decide +kernel
theorem dX12_goesOn_201 : decode cX12_goesOn 201 = .ok (.iconst 0, 1) := by decide +kernel
theorem dX12_goesOn_202 : decode cX12_goesOn 202 = .ok (.iastore, 1) := by decide +kernel
theorem dX12_goesOn_203 : decode cX12_goesOn 203 = .ok (.aload_n 0, 1) := by decide +kernel
theorem dX12_goesOn_204 : decode cX12_goesOn 204 = .ok (.iload 4, 2) := by decide +kernel
theorem dX12_goesOn_206 : decode cX12_goesOn 206 = .ok (.iconst 1, 1) := by decide +kernel
theorem dX12_goesOn_207 : decode cX12_goesOn 207 = .ok (.invokevirtual 236, 3) := by decide +kernel
theorem dX12_goesOn_210 : decode cX12_goesOn 210 = .ok (.goto (-189), 3) := by decide +kernel
theorem dX12_goesOn_213 : decode cX12_goesOn 213 = .ok (.iconst 0, 1) := by decide +kernel
theorem dX12_goesOn_214 : decode cX12_goesOn 214 = .ok (.ireturn, 1) := by decide +kernel
theorem dX12_searches_0 : decode cX12_searches 0 = .ok (.aload_n 0, 1) := by decide +kernel
theorem dX12_searches_1 : decode cX12_searches 1 = .ok (.invokevirtual 256, 3) := by decide +kernel
theorem dX12_searches_4 : decode cX12_searches 4 = .ok (.aload_n 0, 1) := by decide +kernel
theorem dX12_searches_5 : decode cX12_searches 5 = .ok (.invokevirtual 259, 3) := by decide +kernel
theorem dX12_searches_8 : decode cX12_searches 8 = .ok (.ifCond .eq 40, 3) := by decide +kernel
theorem dX12_searches_11 : decode cX12_searches 11 = .ok (.aload_n 0, 1) := by decide +kernel
theorem dX12_searches_12 : decode cX12_searches 12 = .ok (.aload_n 0, 1) := by decide +kernel
theorem dX12_searches_13 : decode cX12_searches 13 = .ok (.getfield 224, 3) := by decide +kernel
theorem dX12_searches_16 : decode cX12_searches 16 = .ok (.iconst 1, 1) := by decide +kernel
theorem dX12_searches_17 : decode cX12_searches 17 = .ok (.if_icmp .eq 14, 3) := by decide +kernel
theorem dX12_searches_20 : decode cX12_searches 20 = .ok (.aload_n 0, 1) := by decide +kernel
theorem dX12_searches_21 : decode cX12_searches 21 = .ok (.getfield 218, 3) := by decide +kernel
theorem dX12_searches_24 : decode cX12_searches 24 = .ok (.aload_n 0, 1) := by decide +kernel
theorem dX12_searches_25 : decode cX12_searches 25 = .ok (.getfield 262, 3) := by decide +kernel
theorem dX12_searches_28 : decode cX12_searches 28 = .ok (.if_icmp .ge 10, 3) := by decide +kernel
theorem dX12_searches_31 : decode cX12_searches 31 = .ok (.aload_n 0, 1) := by decide +kernel
theorem dX12_searches_32 : decode cX12_searches 32 = .ok (.getfield 218, 3) := by decide +kernel
theorem dX12_searches_35 : decode cX12_searches 35 = .ok (.goto 7, 3) := by decide +kernel
theorem dX12_searches_38 : decode cX12_searches 38 = .ok (.aload_n 0, 1) := by decide +kernel
theorem dX12_searches_39 : decode cX12_searches 39 = .ok (.getfield 262, 3) := by decide +kernel
theorem dX12_searches_42 : decode cX12_searches 42 = .ok (.putfield 262, 3) := by decide +kernel
theorem dX12_searches_45 : decode cX12_searches 45 = .ok (.goto (-41), 3) := by decide +kernel
theorem dX12_searches_48 : decode cX12_searches 48 = .ok (.return_, 1) := by decide +kernel
theorem dX12_seeks_0 : decode cX12_seeks 0 = .ok (.aload_n 0, 1) := by decide +kernel
theorem dX12_seeks_1 : decode cX12_seeks 1 = .ok (.invokevirtual 256, 3) := by decide +kernel
theorem dX12_seeks_4 : decode cX12_seeks 4 = .ok (.iconst 1, 1) := by decide +kernel
theorem dX12_seeks_5 : decode cX12_seeks 5 = .ok (.istore_n 2, 1) := by decide +kernel
theorem dX12_seeks_6 : decode cX12_seeks 6 = .ok (.iload_n 2, 1) := by decide +kernel
theorem dX12_seeks_7 : decode cX12_seeks 7 = .ok (.ifCond .eq 19, 3) := by decide +kernel
theorem dX12_seeks_10 : decode cX12_seeks 10 = .ok (.aload_n 0, 1) := by decide +kernel
theorem dX12_seeks_11 : decode cX12_seeks 11 = .ok (.getfield 224, 3) := by decide +kernel
theorem dX12_seeks_14 : decode cX12_seeks 14 = .ok (.iload_n 1, 1) := by decide +kernel
theorem dX12_seeks_15 : decode cX12_seeks 15 = .ok (.if_icmp .gt 11, 3) := by decide +kernel
theorem dX12_seeks_18 : decode cX12_seeks 18 = .ok (.aload_n 0, 1) := by decide +kernel
theorem dX12_seeks_19 : decode cX12_seeks 19 = .ok (.invokevirtual 259, 3) := by decide +kernel
theorem dX12_seeks_22 : decode cX12_seeks 22 = .ok (.istore_n 2, 1) := by decide +kernel
theorem dX12_seeks_23 : decode cX12_seeks 23 = .ok (.goto (-17), 3) := by decide +kernel
theorem dX12_seeks_26 : decode cX12_seeks 26 = .ok (.iload_n 2, 1) := by decide +kernel
theorem dX12_seeks_27 : decode cX12_seeks 27 = .ok (.ifCond .eq 7, 3) := by decide +kernel
theorem dX12_seeks_30 : decode cX12_seeks 30 = .ok (.iconst 0, 1) := by decide +kernel
theorem dX12_seeks_31 : decode cX12_seeks 31 = .ok (.goto 17, 3) := by decide +kernel
theorem dX12_seeks_34 : decode cX12_seeks 34 = .ok (.aload_n 0, 1) := by decide +kernel
theorem dX12_seeks_35 : decode cX12_seeks 35 = .ok (.getfield 227, 3) := by decide +kernel
theorem dX12_seeks_38 : decode cX12_seeks 38 = .ok (.ifCond .eq 8, 3) := by decide +kernel
theorem dX12_seeks_41 : decode cX12_seeks 41 = .ok (.bipush (-4), 2) := by decide +kernel
theorem dX12_seeks_43 : decode cX12_seeks 43 = .ok (.goto 5, 3) := by decide +kernel
theorem dX12_seeks_46 : decode cX12_seeks 46 = .ok (.bipush (-9), 2) := by decide +kernel
theorem dX12_seeks_48 : decode cX12_seeks 48 = .ok (.ireturn, 1) := by decide +kernel
theorem dX12_covers_0 : decode cX12_covers 0 = .ok (.aload_n 0, 1) := by decide +kernel
theorem dX12_covers_1 : decode cX12_covers 1 = .ok (.invokevirtual 265, 3) := by decide +kernel
theorem dX12_covers_4 : decode cX12_covers 4 = .ok (.aload_n 0, 1) := by decide +kernel
theorem dX12_covers_5 : decode cX12_covers 5 = .ok (.getfield 227, 3) := by decide +kernel
theorem dX12_covers_8 : decode cX12_covers 8 = .ok (.ifCond .eq 8, 3) := by decide +kernel
theorem dX12_covers_11 : decode cX12_covers 11 = .ok (.bipush (-4), 2) := by decide +kernel
theorem dX12_covers_13 : decode cX12_covers 13 = .ok (.goto 7, 3) := by decide +kernel
theorem dX12_covers_16 : decode cX12_covers 16 = .ok (.aload_n 0, 1) := by decide +kernel
theorem dX12_covers_17 : decode cX12_covers 17 = .ok (.getfield 224, 3) := by decide +kernel
theorem dX12_covers_20 : decode cX12_covers 20 = .ok (.ireturn, 1) := by decide +kernel
theorem dX12_tries_0 : decode cX12_tries 0 = .ok (.aload_n 0, 1) := by decide +kernel
theorem dX12_tries_1 : decode cX12_tries 1 = .ok (.invokevirtual 265, 3) := by decide +kernel
theorem dX12_tries_4 : decode cX12_tries 4 = .ok (.aload_n 0, 1) := by decide +kernel
theorem dX12_tries_5 : decode cX12_tries 5 = .ok (.getfield 227, 3) := by decide +kernel
theorem dX12_tries_8 : decode cX12_tries 8 = .ok (.ifCond .eq 8, 3) := by decide +kernel
theorem dX12_tries_11 : decode cX12_tries 11 = .ok (.bipush (-4), 2) := by decide +kernel
theorem dX12_tries_13 : decode cX12_tries 13 = .ok (.goto 7, 3) := by decide +kernel
theorem dX12_tries_16 : decode cX12_tries 16 = .ok (.aload_n 0, 1) := by decide +kernel
theorem dX12_tries_17 : decode cX12_tries 17 = .ok (.getfield 221, 3) := by decide +kernel
theorem dX12_tries_20 : decode cX12_tries 20 = .ok (.ireturn, 1) := by decide +kernel
theorem dX12_coverAt_0 : decode cX12_coverAt 0 = .ok (.iload_n 1, 1) := by decide +kernel
theorem dX12_coverAt_1 : decode cX12_coverAt 1 = .ok (.ifCond .lt 11, 3) := by decide +kernel
theorem dX12_coverAt_4 : decode cX12_coverAt 4 = .ok (.aload_n 0, 1) := by decide +kernel
theorem dX12_coverAt_5 : decode cX12_coverAt 5 = .ok (.iload_n 2, 1) := by decide +kernel
theorem dX12_coverAt_6 : decode cX12_coverAt 6 = .ok (.invokevirtual 126, 3) := by decide +kernel
theorem dX12_coverAt_9 : decode cX12_coverAt 9 = .ok (.ifCond .ne 5, 3) := by decide +kernel
theorem dX12_coverAt_12 : decode cX12_coverAt 12 = .ok (.iconst (-1), 1) := by decide +kernel
theorem dX12_coverAt_13 : decode cX12_coverAt 13 = .ok (.ireturn, 1) := by decide +kernel
theorem dX12_coverAt_14 : decode cX12_coverAt 14 = .ok (.aload_n 0, 1) := by decide +kernel
theorem dX12_coverAt_15 : decode cX12_coverAt 15 = .ok (.iload_n 1, 1) := by decide +kernel
theorem dX12_coverAt_16 : decode cX12_coverAt 16 = .ok (.invokevirtual 268, 3) := by decide +kernel
theorem dX12_coverAt_19 : decode cX12_coverAt 19 = .ok (.istore_n 3, 1) := by decide +kernel
theorem dX12_coverAt_20 : decode cX12_coverAt 20 = .ok (.iload_n 3, 1) := by decide +kernel
theorem dX12_coverAt_21 : decode cX12_coverAt 21 = .ok (.ifCond .ge 5, 3) := by decide +kernel
theorem dX12_coverAt_24 : decode cX12_coverAt 24 = .ok (.iload_n 3, 1) := by decide +kernel
theorem dX12_coverAt_25 : decode cX12_coverAt 25 = .ok (.ireturn, 1) := by decide +kernel
theorem dX12_coverAt_26 : decode cX12_coverAt 26 = .ok (.iconst 0, 1) := by decide +kernel
theorem dX12_coverAt_27 : decode cX12_coverAt 27 = .ok (.istore 4, 2) := by decide +kernel
theorem dX12_coverAt_29 : decode cX12_coverAt 29 = .ok (.iload 4, 2) := by decide +kernel
theorem dX12_coverAt_31 : decode cX12_coverAt 31 = .ok (.aload_n 0, 1) := by decide +kernel
theorem dX12_coverAt_32 : decode cX12_coverAt 32 = .ok (.getfield 218, 3) := by decide +kernel
theorem dX12_coverAt_35 : decode cX12_coverAt 35 = .ok (.if_icmp .ge 32, 3) := by decide +kernel
theorem dX12_coverAt_38 : decode cX12_coverAt 38 = .ok (.aload_n 0, 1) := by decide +kernel
theorem dX12_coverAt_39 : decode cX12_coverAt 39 = .ok (.aload_n 0, 1) := by decide +kernel
theorem dX12_coverAt_40 : decode cX12_coverAt 40 = .ok (.getfield 45, 3) := by decide +kernel
theorem dX12_coverAt_43 : decode cX12_coverAt 43 = .ok (.iload 4, 2) := by decide +kernel
theorem dX12_coverAt_45 : decode cX12_coverAt 45 = .ok (.iaload, 1) := by decide +kernel
theorem dX12_coverAt_46 : decode cX12_coverAt 46 = .ok (.iload_n 2, 1) := by decide +kernel
theorem dX12_coverAt_47 : decode cX12_coverAt 47 = .ok (.invokevirtual 152, 3) := by decide +kernel
theorem dX12_coverAt_50 : decode cX12_coverAt 50 = .ok (.ifCond .eq 11, 3) := by decide +kernel
theorem dX12_coverAt_53 : decode cX12_coverAt 53 = .ok (.aload_n 0, 1) := by decide +kernel
theorem dX12_coverAt_54 : decode cX12_coverAt 54 = .ok (.getfield 45, 3) := by decide +kernel
theorem dX12_coverAt_57 : decode cX12_coverAt 57 = .ok (.iload 4, 2) := by decide +kernel
theorem dX12_coverAt_59 : decode cX12_coverAt 59 = .ok (.iaload, 1) := by decide +kernel
theorem dX12_coverAt_60 : decode cX12_coverAt 60 = .ok (.ireturn, 1) := by decide +kernel
theorem dX12_coverAt_61 : decode cX12_coverAt 61 = .ok (.iinc 4 1, 3) := by decide +kernel
theorem dX12_coverAt_64 : decode cX12_coverAt 64 = .ok (.goto (-35), 3) := by decide +kernel
theorem dX12_coverAt_67 : decode cX12_coverAt 67 = .ok (.bipush (-9), 2) := by decide +kernel
theorem dX12_coverAt_69 : decode cX12_coverAt 69 = .ok (.ireturn, 1) := by decide +kernel
theorem dX12_used_0 : decode cX12_used 0 = .ok (.iload_n 1, 1) := by decide +kernel
theorem dX12_used_1 : decode cX12_used 1 = .ok (.ifCond .lt 11, 3) := by decide +kernel
theorem dX12_used_4 : decode cX12_used 4 = .ok (.aload_n 0, 1) := by decide +kernel
theorem dX12_used_5 : decode cX12_used 5 = .ok (.iload_n 2, 1) := by decide +kernel
theorem dX12_used_6 : decode cX12_used 6 = .ok (.invokevirtual 139, 3) := by decide +kernel
theorem dX12_used_9 : decode cX12_used 9 = .ok (.ifCond .ne 5, 3) := by decide +kernel
theorem dX12_used_12 : decode cX12_used 12 = .ok (.iconst (-1), 1) := by decide +kernel
theorem dX12_used_13 : decode cX12_used 13 = .ok (.ireturn, 1) := by decide +kernel
theorem dX12_used_14 : decode cX12_used 14 = .ok (.aload_n 0, 1) := by decide +kernel
theorem dX12_used_15 : decode cX12_used 15 = .ok (.iload_n 1, 1) := by decide +kernel
theorem dX12_used_16 : decode cX12_used 16 = .ok (.invokevirtual 268, 3) := by decide +kernel
theorem dX12_used_19 : decode cX12_used 19 = .ok (.istore_n 3, 1) := by decide +kernel
theorem dX12_used_20 : decode cX12_used 20 = .ok (.iload_n 3, 1) := by decide +kernel
theorem dX12_used_21 : decode cX12_used 21 = .ok (.ifCond .ge 7, 3) := by decide +kernel
theorem dX12_used_24 : decode cX12_used 24 = .ok (.iload_n 3, 1) := by decide +kernel
theorem dX12_used_25 : decode cX12_used 25 = .ok (.goto 16, 3) := by decide +kernel
theorem dX12_used_28 : decode cX12_used 28 = .ok (.aload_n 0, 1) := by decide +kernel
theorem dX12_used_29 : decode cX12_used 29 = .ok (.iload_n 2, 1) := by decide +kernel
theorem dX12_used_30 : decode cX12_used 30 = .ok (.iconst 3, 1) := by decide +kernel
theorem dX12_used_31 : decode cX12_used 31 = .ok (.invokevirtual 95, 3) := by decide +kernel
theorem dX12_used_34 : decode cX12_used 34 = .ok (.aload_n 0, 1) := by decide +kernel
theorem dX12_used_35 : decode cX12_used 35 = .ok (.getfield 54, 3) := by decide +kernel
theorem dX12_used_38 : decode cX12_used 38 = .ok (.iload_n 2, 1) := by decide +kernel
theorem dX12_used_39 : decode cX12_used 39 = .ok (.iaload, 1) := by decide +kernel
theorem dX12_used_40 : decode cX12_used 40 = .ok (.isub, 1) := by decide +kernel
theorem dX12_used_41 : decode cX12_used 41 = .ok (.ireturn, 1) := by decide +kernel
theorem dX12_fewest_0 : decode cX12_fewest 0 = .ok (.aload_n 0, 1) := by decide +kernel
theorem dX12_fewest_1 : decode cX12_fewest 1 = .ok (.invokevirtual 265, 3) := by decide +kernel
theorem dX12_fewest_4 : decode cX12_fewest 4 = .ok (.aload_n 0, 1) := by decide +kernel
theorem dX12_fewest_5 : decode cX12_fewest 5 = .ok (.getfield 227, 3) := by decide +kernel
theorem dX12_fewest_8 : decode cX12_fewest 8 = .ok (.ifCond .eq 8, 3) := by decide +kernel
theorem dX12_fewest_11 : decode cX12_fewest 11 = .ok (.bipush (-4), 2) := by decide +kernel
theorem dX12_fewest_13 : decode cX12_fewest 13 = .ok (.goto 19, 3) := by decide +kernel
theorem dX12_fewest_16 : decode cX12_fewest 16 = .ok (.aload_n 0, 1) := by decide +kernel
theorem dX12_fewest_17 : decode cX12_fewest 17 = .ok (.getfield 224, 3) := by decide +kernel
theorem dX12_fewest_20 : decode cX12_fewest 20 = .ok (.ifCond .ne 8, 3) := by decide +kernel
theorem dX12_fewest_23 : decode cX12_fewest 23 = .ok (.bipush (-9), 2) := by decide +kernel
theorem dX12_fewest_25 : decode cX12_fewest 25 = .ok (.goto 7, 3) := by decide +kernel
theorem dX12_fewest_28 : decode cX12_fewest 28 = .ok (.aload_n 0, 1) := by decide +kernel
theorem dX12_fewest_29 : decode cX12_fewest 29 = .ok (.getfield 262, 3) := by decide +kernel
theorem dX12_fewest_32 : decode cX12_fewest 32 = .ok (.ireturn, 1) := by decide +kernel
theorem dX12_image_0 : decode cX12_image 0 = .ok (.iload_n 2, 1) := by decide +kernel
theorem dX12_image_1 : decode cX12_image 1 = .ok (.aload_n 0, 1) := by decide +kernel
theorem dX12_image_2 : decode cX12_image 2 = .ok (.getfield 7, 3) := by decide +kernel
theorem dX12_image_5 : decode cX12_image 5 = .ok (.iconst 0, 1) := by decide +kernel
theorem dX12_image_6 : decode cX12_image 6 = .ok (.iaload, 1) := by decide +kernel
theorem dX12_image_7 : decode cX12_image 7 = .ok (.irem, 1) := by decide +kernel
theorem dX12_image_8 : decode cX12_image 8 = .ok (.istore_n 3, 1) := by decide +kernel
theorem dX12_image_9 : decode cX12_image 9 = .ok (.iload_n 2, 1) := by decide +kernel
theorem dX12_image_10 : decode cX12_image 10 = .ok (.aload_n 0, 1) := by decide +kernel
theorem dX12_image_11 : decode cX12_image 11 = .ok (.getfield 7, 3) := by decide +kernel
theorem dX12_image_14 : decode cX12_image 14 = .ok (.iconst 0, 1) := by decide +kernel
theorem dX12_image_15 : decode cX12_image 15 = .ok (.iaload, 1) := by decide +kernel
theorem dX12_image_16 : decode cX12_image 16 = .ok (.idiv, 1) := by decide +kernel
theorem dX12_image_17 : decode cX12_image 17 = .ok (.istore 4, 2) := by decide +kernel
theorem dX12_image_19 : decode cX12_image 19 = .ok (.iload_n 1, 1) := by decide +kernel
theorem dX12_image_20 : decode cX12_image 20 = .ok (.iconst 1, 1) := by decide +kernel
theorem dX12_image_21 : decode cX12_image 21 = .ok (.iand, 1) := by decide +kernel
theorem dX12_image_22 : decode cX12_image 22 = .ok (.iconst 1, 1) := by decide +kernel
theorem dX12_image_23 : decode cX12_image 23 = .ok (.if_icmp .ne 16, 3) := by decide +kernel
theorem dX12_image_26 : decode cX12_image 26 = .ok (.aload_n 0, 1) := by decide +kernel
theorem dX12_image_27 : decode cX12_image 27 = .ok (.getfield 7, 3) := by decide +kernel
theorem dX12_image_30 : decode cX12_image 30 = .ok (.iconst 0, 1) := by decide +kernel
theorem dX12_image_31 : decode cX12_image 31 = .ok (.iaload, 1) := by decide +kernel
theorem dX12_image_32 : decode cX12_image 32 = .ok (.iconst 1, 1) := by decide +kernel
theorem dX12_image_33 : decode cX12_image 33 = .ok (.isub, 1) := by decide +kernel
theorem dX12_image_34 : decode cX12_image 34 = .ok (.iload_n 3, 1) := by decide +kernel
theorem dX12_image_35 : decode cX12_image 35 = .ok (.isub, 1) := by decide +kernel
theorem dX12_image_36 : decode cX12_image 36 = .ok (.goto 4, 3) := by decide +kernel
theorem dX12_image_39 : decode cX12_image 39 = .ok (.iload_n 3, 1) := by decide +kernel
theorem dX12_image_40 : decode cX12_image 40 = .ok (.istore_n 3, 1) := by decide +kernel
theorem dX12_image_41 : decode cX12_image 41 = .ok (.iload_n 1, 1) := by decide +kernel
theorem dX12_image_42 : decode cX12_image 42 = .ok (.iconst 2, 1) := by decide +kernel
theorem dX12_image_43 : decode cX12_image 43 = .ok (.iand, 1) := by decide +kernel
theorem dX12_image_44 : decode cX12_image 44 = .ok (.iconst 2, 1) := by decide +kernel
theorem dX12_image_45 : decode cX12_image 45 = .ok (.if_icmp .ne 17, 3) := by decide +kernel
theorem dX12_image_48 : decode cX12_image 48 = .ok (.aload_n 0, 1) := by decide +kernel
theorem dX12_image_49 : decode cX12_image 49 = .ok (.getfield 7, 3) := by decide +kernel
theorem dX12_image_52 : decode cX12_image 52 = .ok (.iconst 1, 1) := by decide +kernel
theorem dX12_image_53 : decode cX12_image 53 = .ok (.iaload, 1) := by decide +kernel
theorem dX12_image_54 : decode cX12_image 54 = .ok (.iconst 1, 1) := by decide +kernel
theorem dX12_image_55 : decode cX12_image 55 = .ok (.isub, 1) := by decide +kernel
theorem dX12_image_56 : decode cX12_image 56 = .ok (.iload 4, 2) := by decide +kernel
theorem dX12_image_58 : decode cX12_image 58 = .ok (.isub, 1) := by decide +kernel
theorem dX12_image_59 : decode cX12_image 59 = .ok (.goto 5, 3) := by decide +kernel
theorem dX12_image_62 : decode cX12_image 62 = .ok (.iload 4, 2) := by decide +kernel
theorem dX12_image_64 : decode cX12_image 64 = .ok (.istore 4, 2) := by decide +kernel
theorem dX12_image_66 : decode cX12_image 66 = .ok (.iload_n 1, 1) := by decide +kernel
theorem dX12_image_67 : decode cX12_image 67 = .ok (.iconst 4, 1) := by decide +kernel
theorem dX12_image_68 : decode cX12_image 68 = .ok (.iand, 1) := by decide +kernel
theorem dX12_image_69 : decode cX12_image 69 = .ok (.iconst 4, 1) := by decide +kernel
theorem dX12_image_70 : decode cX12_image 70 = .ok (.if_icmp .ne 17, 3) := by decide +kernel
theorem dX12_image_73 : decode cX12_image 73 = .ok (.iload_n 3, 1) := by decide +kernel
theorem dX12_image_74 : decode cX12_image 74 = .ok (.aload_n 0, 1) := by decide +kernel
theorem dX12_image_75 : decode cX12_image 75 = .ok (.getfield 7, 3) := by decide +kernel
theorem dX12_image_78 : decode cX12_image 78 = .ok (.iconst 0, 1) := by decide +kernel
theorem dX12_image_79 : decode cX12_image 79 = .ok (.iaload, 1) := by decide +kernel
theorem dX12_image_80 : decode cX12_image 80 = .ok (.imul, 1) := by decide +kernel
theorem dX12_image_81 : decode cX12_image 81 = .ok (.iload 4, 2) := by decide +kernel
theorem dX12_image_83 : decode cX12_image 83 = .ok (.iadd, 1) := by decide +kernel
theorem dX12_image_84 : decode cX12_image 84 = .ok (.goto 14, 3) := by decide +kernel
theorem dX12_image_87 : decode cX12_image 87 = .ok (.iload 4, 2) := by decide +kernel
theorem dX12_image_89 : decode cX12_image 89 = .ok (.aload_n 0, 1) := by decide +kernel
theorem dX12_image_90 : decode cX12_image 90 = .ok (.getfield 7, 3) := by decide +kernel
theorem dX12_image_93 : decode cX12_image 93 = .ok (.iconst 0, 1) := by decide +kernel
theorem dX12_image_94 : decode cX12_image 94 = .ok (.iaload, 1) := by decide +kernel
theorem dX12_image_95 : decode cX12_image 95 = .ok (.imul, 1) := by decide +kernel
theorem dX12_image_96 : decode cX12_image 96 = .ok (.iload_n 3, 1) := by decide +kernel
theorem dX12_image_97 : decode cX12_image 97 = .ok (.iadd, 1) := by decide +kernel
theorem dX12_image_98 : decode cX12_image 98 = .ok (.ireturn, 1) := by decide +kernel
theorem dX12_isSymmetry_0 : decode cX12_isSymmetry 0 = .ok (.iload_n 1, 1) := by decide +kernel
theorem dX12_isSymmetry_1 : decode cX12_isSymmetry 1 = .ok (.iconst 4, 1) := by decide +kernel
theorem dX12_isSymmetry_2 : decode cX12_isSymmetry 2 = .ok (.if_icmp .lt 18, 3) := by decide +kernel
theorem dX12_isSymmetry_5 : decode cX12_isSymmetry 5 = .ok (.aload_n 0, 1) := by decide +kernel
theorem dX12_isSymmetry_6 : decode cX12_isSymmetry 6 = .ok (.getfield 7, 3) := by decide +kernel
theorem dX12_isSymmetry_9 : decode cX12_isSymmetry 9 = .ok (.iconst 0, 1) := by decide +kernel
theorem dX12_isSymmetry_10 : decode cX12_isSymmetry 10 = .ok (.iaload, 1) := by decide +kernel
theorem dX12_isSymmetry_11 : decode cX12_isSymmetry 11 = .ok (.aload_n 0, 1) := by decide +kernel
theorem dX12_isSymmetry_12 : decode cX12_isSymmetry 12 = .ok (.getfield 7, 3) := by decide +kernel
theorem dX12_isSymmetry_15 : decode cX12_isSymmetry 15 = .ok (.iconst 1, 1) := by decide +kernel
theorem dX12_isSymmetry_16 : decode cX12_isSymmetry 16 = .ok (.iaload, 1) := by decide +kernel
theorem dX12_isSymmetry_17 : decode cX12_isSymmetry 17 = .ok (.if_icmp .ne 7, 3) := by decide +kernel
theorem dX12_isSymmetry_20 : decode cX12_isSymmetry 20 = .ok (.iconst 1, 1) := by decide +kernel
theorem dX12_isSymmetry_21 : decode cX12_isSymmetry 21 = .ok (.goto 4, 3) := by decide +kernel
theorem dX12_isSymmetry_24 : decode cX12_isSymmetry 24 = .ok (.iconst 0, 1) := by decide +kernel
theorem dX12_isSymmetry_25 : decode cX12_isSymmetry 25 = .ok (.istore_n 2, 1) := by decide +kernel
theorem dX12_isSymmetry_26 : decode cX12_isSymmetry 26 = .ok (.iconst 0, 1) := by decide +kernel
theorem dX12_isSymmetry_27 : decode cX12_isSymmetry 27 = .ok (.istore_n 3, 1) := by decide +kernel
theorem dX12_isSymmetry_28 : decode cX12_isSymmetry 28 = .ok (.iload_n 3, 1) := by decide +kernel
theorem dX12_isSymmetry_29 : decode cX12_isSymmetry 29 = .ok (.aload_n 0, 1) := by decide +kernel
theorem dX12_isSymmetry_30 : decode cX12_isSymmetry 30 = .ok (.invokevirtual 68, 3) := by decide +kernel
theorem dX12_isSymmetry_33 : decode cX12_isSymmetry 33 = .ok (.if_icmp .ge 43, 3) := by decide +kernel
theorem dX12_isSymmetry_36 : decode cX12_isSymmetry 36 = .ok (.iload_n 2, 1) := by decide +kernel
theorem dX12_isSymmetry_37 : decode cX12_isSymmetry 37 = .ok (.ifCond .eq 39, 3) := by decide +kernel
theorem dX12_isSymmetry_40 : decode cX12_isSymmetry 40 = .ok (.aload_n 0, 1) := by decide +kernel
theorem dX12_isSymmetry_41 : decode cX12_isSymmetry 41 = .ok (.getfield 7, 3) := by decide +kernel
theorem dX12_isSymmetry_44 : decode cX12_isSymmetry 44 = .ok (.iconst 5, 1) := by decide +kernel
theorem dX12_isSymmetry_45 : decode cX12_isSymmetry 45 = .ok (.iload_n 3, 1) := by decide +kernel
theorem dX12_isSymmetry_46 : decode cX12_isSymmetry 46 = .ok (.iadd, 1) := by decide +kernel
theorem dX12_isSymmetry_47 : decode cX12_isSymmetry 47 = .ok (.iaload, 1) := by decide +kernel
theorem dX12_isSymmetry_48 : decode cX12_isSymmetry 48 = .ok (.aload_n 0, 1) := by decide +kernel
theorem dX12_isSymmetry_49 : decode cX12_isSymmetry 49 = .ok (.getfield 7, 3) := by decide +kernel
theorem dX12_isSymmetry_52 : decode cX12_isSymmetry 52 = .ok (.iconst 5, 1) := by decide +kernel
theorem dX12_isSymmetry_53 : decode cX12_isSymmetry 53 = .ok (.aload_n 0, 1) := by decide +kernel
theorem dX12_isSymmetry_54 : decode cX12_isSymmetry 54 = .ok (.iload_n 1, 1) := by decide +kernel
theorem dX12_isSymmetry_55 : decode cX12_isSymmetry 55 = .ok (.iload_n 3, 1) := by decide +kernel
theorem dX12_isSymmetry_56 : decode cX12_isSymmetry 56 = .ok (.invokevirtual 271, 3) := by decide +kernel
theorem dX12_isSymmetry_59 : decode cX12_isSymmetry 59 = .ok (.iadd, 1) := by decide +kernel
theorem dX12_isSymmetry_60 : decode cX12_isSymmetry 60 = .ok (.iaload, 1) := by decide +kernel
theorem dX12_isSymmetry_61 : decode cX12_isSymmetry 61 = .ok (.if_icmp .ne 7, 3) := by decide +kernel
theorem dX12_isSymmetry_64 : decode cX12_isSymmetry 64 = .ok (.iconst 1, 1) := by decide +kernel
theorem dX12_isSymmetry_65 : decode cX12_isSymmetry 65 = .ok (.goto 4, 3) := by decide +kernel
theorem dX12_isSymmetry_68 : decode cX12_isSymmetry 68 = .ok (.iconst 0, 1) := by decide +kernel
theorem dX12_isSymmetry_69 : decode cX12_isSymmetry 69 = .ok (.istore_n 2, 1) := by decide +kernel
theorem dX12_isSymmetry_70 : decode cX12_isSymmetry 70 = .ok (.iinc 3 1, 3) := by decide +kernel
theorem dX12_isSymmetry_73 : decode cX12_isSymmetry 73 = .ok (.goto (-45), 3) := by decide +kernel
theorem dX12_isSymmetry_76 : decode cX12_isSymmetry 76 = .ok (.iload_n 2, 1) := by decide +kernel
theorem dX12_isSymmetry_77 : decode cX12_isSymmetry 77 = .ok (.ireturn, 1) := by decide +kernel
theorem dX12_labels_0 : decode cX12_labels 0 = .ok (.sipush 324, 3) := by decide +kernel
theorem dX12_labels_3 : decode cX12_labels 3 = .ok (.iload_n 1, 1) := by decide +kernel
theorem dX12_labels_4 : decode cX12_labels 4 = .ok (.imul, 1) := by decide +kernel
theorem dX12_labels_5 : decode cX12_labels 5 = .ok (.bipush 36, 2) := by decide +kernel
theorem dX12_labels_7 : decode cX12_labels 7 = .ok (.iload_n 2, 1) := by decide +kernel
theorem dX12_labels_8 : decode cX12_labels 8 = .ok (.imul, 1) := by decide +kernel
theorem dX12_labels_9 : decode cX12_labels 9 = .ok (.iadd, 1) := by decide +kernel
theorem dX12_labels_10 : decode cX12_labels 10 = .ok (.istore_n 3, 1) := by decide +kernel
theorem dX12_labels_11 : decode cX12_labels 11 = .ok (.iconst 0, 1) := by decide +kernel
theorem dX12_labels_12 : decode cX12_labels 12 = .ok (.istore 4, 2) := by decide +kernel
theorem dX12_labels_14 : decode cX12_labels 14 = .ok (.iload 4, 2) := by decide +kernel
theorem dX12_labels_16 : decode cX12_labels 16 = .ok (.aload_n 0, 1) := by decide +kernel
theorem dX12_labels_17 : decode cX12_labels 17 = .ok (.getfield 218, 3) := by decide +kernel
theorem dX12_labels_20 : decode cX12_labels 20 = .ok (.if_icmp .ge 160, 3) := by decide +kernel
theorem dX12_labels_23 : decode cX12_labels 23 = .ok (.bipush 36, 2) := by decide +kernel
theorem dX12_labels_25 : decode cX12_labels 25 = .ok (.istore 5, 2) := by decide +kernel
theorem dX12_labels_27 : decode cX12_labels 27 = .ok (.iconst 0, 1) := by decide +kernel
theorem dX12_labels_28 : decode cX12_labels 28 = .ok (.istore 6, 2) := by decide +kernel
theorem dX12_labels_30 : decode cX12_labels 30 = .ok (.iload 6, 2) := by decide +kernel
theorem dX12_labels_32 : decode cX12_labels 32 = .ok (.aload_n 0, 1) := by decide +kernel
theorem dX12_labels_33 : decode cX12_labels 33 = .ok (.invokevirtual 68, 3) := by decide +kernel
theorem dX12_labels_36 : decode cX12_labels 36 = .ok (.if_icmp .ge 61, 3) := by decide +kernel
theorem dX12_labels_39 : decode cX12_labels 39 = .ok (.iload_n 2, 1) := by decide +kernel
theorem dX12_labels_40 : decode cX12_labels 40 = .ok (.bipush 8, 2) := by decide +kernel
theorem dX12_labels_42 : decode cX12_labels 42 = .ok (.if_icmp .ne 8, 3) := by decide +kernel
theorem dX12_labels_45 : decode cX12_labels 45 = .ok (.iload 6, 2) := by decide +kernel
theorem dX12_labels_47 : decode cX12_labels 47 = .ok (.goto 10, 3) := by decide +kernel
theorem dX12_labels_50 : decode cX12_labels 50 = .ok (.aload_n 0, 1) := by decide +kernel
theorem dX12_labels_51 : decode cX12_labels 51 = .ok (.iload_n 2, 1) := by decide +kernel
theorem dX12_labels_52 : decode cX12_labels 52 = .ok (.iload 6, 2) := by decide +kernel
theorem dX12_labels_54 : decode cX12_labels 54 = .ok (.invokevirtual 271, 3) := by decide +kernel
theorem dX12_labels_57 : decode cX12_labels 57 = .ok (.istore 7, 2) := by decide +kernel
theorem dX12_labels_59 : decode cX12_labels 59 = .ok (.aload_n 0, 1) := by decide +kernel
theorem dX12_labels_60 : decode cX12_labels 60 = .ok (.aload_n 0, 1) := by decide +kernel
theorem dX12_labels_61 : decode cX12_labels 61 = .ok (.getfield 45, 3) := by decide +kernel
theorem dX12_labels_64 : decode cX12_labels 64 = .ok (.iload 4, 2) := by decide +kernel
theorem dX12_labels_66 : decode cX12_labels 66 = .ok (.iaload, 1) := by decide +kernel
theorem dX12_labels_67 : decode cX12_labels 67 = .ok (.iload 6, 2) := by decide +kernel
theorem dX12_labels_69 : decode cX12_labels 69 = .ok (.invokevirtual 152, 3) := by decide +kernel
theorem dX12_labels_72 : decode cX12_labels 72 = .ok (.ifCond .eq 15, 3) := by decide +kernel
theorem dX12_labels_75 : decode cX12_labels 75 = .ok (.iload 7, 2) := by decide +kernel
theorem dX12_labels_77 : decode cX12_labels 77 = .ok (.iload 5, 2) := by decide +kernel
theorem dX12_labels_79 : decode cX12_labels 79 = .ok (.if_icmp .ge 8, 3) := by decide +kernel
theorem dX12_labels_82 : decode cX12_labels 82 = .ok (.iload 7, 2) := by decide +kernel
theorem dX12_labels_84 : decode cX12_labels 84 = .ok (.goto 5, 3) := by decide +kernel
theorem dX12_labels_87 : decode cX12_labels 87 = .ok (.iload 5, 2) := by decide +kernel
theorem dX12_labels_89 : decode cX12_labels 89 = .ok (.istore 5, 2) := by decide +kernel
theorem dX12_labels_91 : decode cX12_labels 91 = .ok (.iinc 6 1, 3) := by decide +kernel
theorem dX12_labels_94 : decode cX12_labels 94 = .ok (.goto (-64), 3) := by decide +kernel
theorem dX12_labels_97 : decode cX12_labels 97 = .ok (.iconst 0, 1) := by decide +kernel
theorem dX12_labels_98 : decode cX12_labels 98 = .ok (.istore 6, 2) := by decide +kernel
theorem dX12_labels_100 : decode cX12_labels 100 = .ok (.iload 6, 2) := by decide +kernel
theorem dX12_labels_102 : decode cX12_labels 102 = .ok (.aload_n 0, 1) := by decide +kernel
theorem dX12_labels_103 : decode cX12_labels 103 = .ok (.invokevirtual 68, 3) := by decide +kernel
theorem dX12_labels_106 : decode cX12_labels 106 = .ok (.if_icmp .ge 68, 3) := by decide +kernel
theorem dX12_labels_109 : decode cX12_labels 109 = .ok (.aload_n 0, 1) := by decide +kernel
theorem dX12_labels_110 : decode cX12_labels 110 = .ok (.aload_n 0, 1) := by decide +kernel
theorem dX12_labels_111 : decode cX12_labels 111 = .ok (.getfield 45, 3) := by decide +kernel
theorem dX12_labels_114 : decode cX12_labels 114 = .ok (.iload 4, 2) := by decide +kernel
theorem dX12_labels_116 : decode cX12_labels 116 = .ok (.iaload, 1) := by decide +kernel
theorem dX12_labels_117 : decode cX12_labels 117 = .ok (.iload 6, 2) := by decide +kernel
theorem dX12_labels_119 : decode cX12_labels 119 = .ok (.invokevirtual 152, 3) := by decide +kernel
theorem dX12_labels_122 : decode cX12_labels 122 = .ok (.ifCond .eq 46, 3) := by decide +kernel
theorem dX12_labels_125 : decode cX12_labels 125 = .ok (.aload_n 0, 1) := by decide +kernel
theorem dX12_labels_126 : decode cX12_labels 126 = .ok (.getfield 57, 3) := by decide +kernel
theorem dX12_labels_129 : decode cX12_labels 129 = .ok (.iload_n 3, 1) := by decide +kernel
theorem dX12_labels_130 : decode cX12_labels 130 = .ok (.iload_n 2, 1) := by decide +kernel
theorem dX12_labels_131 : decode cX12_labels 131 = .ok (.bipush 8, 2) := by decide +kernel
theorem dX12_labels_133 : decode cX12_labels 133 = .ok (.if_icmp .ne 8, 3) := by decide +kernel
theorem dX12_labels_136 : decode cX12_labels 136 = .ok (.iload 6, 2) := by decide +kernel
theorem dX12_labels_138 : decode cX12_labels 138 = .ok (.goto 10, 3) := by decide +kernel
theorem dX12_labels_141 : decode cX12_labels 141 = .ok (.aload_n 0, 1) := by decide +kernel
theorem dX12_labels_142 : decode cX12_labels 142 = .ok (.iload_n 2, 1) := by decide +kernel
theorem dX12_labels_143 : decode cX12_labels 143 = .ok (.iload 6, 2) := by decide +kernel
theorem dX12_labels_145 : decode cX12_labels 145 = .ok (.invokevirtual 271, 3) := by decide +kernel
theorem dX12_labels_148 : decode cX12_labels 148 = .ok (.iadd, 1) := by decide +kernel
theorem dX12_labels_149 : decode cX12_labels 149 = .ok (.bipush 64, 2) := by decide +kernel
theorem dX12_labels_151 : decode cX12_labels 151 = .ok (.aload_n 0, 1) := by decide +kernel
theorem dX12_labels_152 : decode cX12_labels 152 = .ok (.getfield 23, 3) := by decide +kernel
theorem dX12_labels_155 : decode cX12_labels 155 = .ok (.aload_n 0, 1) := by decide +kernel
theorem dX12_labels_156 : decode cX12_labels 156 = .ok (.getfield 45, 3) := by decide +kernel
theorem dX12_labels_159 : decode cX12_labels 159 = .ok (.iload 4, 2) := by decide +kernel
theorem dX12_labels_161 : decode cX12_labels 161 = .ok (.iaload, 1) := by decide +kernel
theorem dX12_labels_162 : decode cX12_labels 162 = .ok (.iaload, 1) := by decide +kernel
theorem dX12_labels_163 : decode cX12_labels 163 = .ok (.imul, 1) := by decide +kernel
theorem dX12_labels_164 : decode cX12_labels 164 = .ok (.iload 5, 2) := by decide +kernel
theorem dX12_labels_166 : decode cX12_labels 166 = .ok (.iadd, 1) := by decide +kernel
theorem dX12_labels_167 : decode cX12_labels 167 = .ok (.iastore, 1) := by decide +kernel
theorem dX12_labels_168 : decode cX12_labels 168 = .ok (.iinc 6 1, 3) := by decide +kernel
theorem dX12_labels_171 : decode cX12_labels 171 = .ok (.goto (-71), 3) := by decide +kernel
theorem dX12_labels_174 : decode cX12_labels 174 = .ok (.iinc 4 1, 3) := by decide +kernel
theorem dX12_labels_177 : decode cX12_labels 177 = .ok (.goto (-163), 3) := by decide +kernel
theorem dX12_labels_180 : decode cX12_labels 180 = .ok (.return_, 1) := by decide +kernel
theorem dX12_labelsAll_0 : decode cX12_labelsAll 0 = .ok (.iconst 0, 1) := by decide +kernel
theorem dX12_labelsAll_1 : decode cX12_labelsAll 1 = .ok (.istore_n 2, 1) := by decide +kernel
theorem dX12_labelsAll_2 : decode cX12_labelsAll 2 = .ok (.iload_n 2, 1) := by decide +kernel
theorem dX12_labelsAll_3 : decode cX12_labelsAll 3 = .ok (.bipush 9, 2) := by decide +kernel
theorem dX12_labelsAll_5 : decode cX12_labelsAll 5 = .ok (.if_icmp .ge 29, 3) := by decide +kernel
theorem dX12_labelsAll_8 : decode cX12_labelsAll 8 = .ok (.iload_n 2, 1) := by decide +kernel
theorem dX12_labelsAll_9 : decode cX12_labelsAll 9 = .ok (.bipush 8, 2) := by decide +kernel
theorem dX12_labelsAll_11 : decode cX12_labelsAll 11 = .ok (.if_icmp .eq 11, 3) := by decide +kernel
theorem dX12_labelsAll_14 : decode cX12_labelsAll 14 = .ok (.aload_n 0, 1) := by decide +kernel
theorem dX12_labelsAll_15 : decode cX12_labelsAll 15 = .ok (.iload_n 2, 1) := by decide +kernel
theorem dX12_labelsAll_16 : decode cX12_labelsAll 16 = .ok (.invokevirtual 146, 3) := by decide +kernel
theorem dX12_labelsAll_19 : decode cX12_labelsAll 19 = .ok (.ifCond .eq 9, 3) := by decide +kernel
theorem dX12_labelsAll_22 : decode cX12_labelsAll 22 = .ok (.aload_n 0, 1) := by decide +kernel
theorem dX12_labelsAll_23 : decode cX12_labelsAll 23 = .ok (.iload_n 1, 1) := by decide +kernel
theorem dX12_labelsAll_24 : decode cX12_labelsAll 24 = .ok (.iload_n 2, 1) := by decide +kernel
theorem dX12_labelsAll_25 : decode cX12_labelsAll 25 = .ok (.invokevirtual 274, 3) := by decide +kernel
theorem dX12_labelsAll_28 : decode cX12_labelsAll 28 = .ok (.iinc 2 1, 3) := by decide +kernel
theorem dX12_labelsAll_31 : decode cX12_labelsAll 31 = .ok (.goto (-29), 3) := by decide +kernel
theorem dX12_labelsAll_34 : decode cX12_labelsAll 34 = .ok (.return_, 1) := by decide +kernel
theorem dX12_areAlike_0 : decode cX12_areAlike 0 = .ok (.iconst 0, 1) := by decide +kernel
theorem dX12_areAlike_1 : decode cX12_areAlike 1 = .ok (.istore_n 3, 1) := by decide +kernel
theorem dX12_areAlike_2 : decode cX12_areAlike 2 = .ok (.iconst 0, 1) := by decide +kernel
theorem dX12_areAlike_3 : decode cX12_areAlike 3 = .ok (.istore 4, 2) := by decide +kernel
theorem dX12_areAlike_5 : decode cX12_areAlike 5 = .ok (.iload 4, 2) := by decide +kernel
theorem dX12_areAlike_7 : decode cX12_areAlike 7 = .ok (.bipush 8, 2) := by decide +kernel
theorem dX12_areAlike_9 : decode cX12_areAlike 9 = .ok (.if_icmp .ge 102, 3) := by decide +kernel
theorem dX12_areAlike_12 : decode cX12_areAlike 12 = .ok (.iload_n 3, 1) := by decide +kernel
theorem dX12_areAlike_13 : decode cX12_areAlike 13 = .ok (.ifCond .ne 98, 3) := by decide +kernel
theorem dX12_areAlike_16 : decode cX12_areAlike 16 = .ok (.aload_n 0, 1) := by decide +kernel
theorem dX12_areAlike_17 : decode cX12_areAlike 17 = .ok (.iload 4, 2) := by decide +kernel
theorem dX12_areAlike_19 : decode cX12_areAlike 19 = .ok (.invokevirtual 146, 3) := by decide +kernel
theorem dX12_areAlike_22 : decode cX12_areAlike 22 = .ok (.istore 5, 2) := by decide +kernel
theorem dX12_areAlike_24 : decode cX12_areAlike 24 = .ok (.iconst 0, 1) := by decide +kernel
theorem dX12_areAlike_25 : decode cX12_areAlike 25 = .ok (.istore 6, 2) := by decide +kernel
theorem dX12_areAlike_27 : decode cX12_areAlike 27 = .ok (.iload 6, 2) := by decide +kernel
theorem dX12_areAlike_29 : decode cX12_areAlike 29 = .ok (.aload_n 0, 1) := by decide +kernel
theorem dX12_areAlike_30 : decode cX12_areAlike 30 = .ok (.invokevirtual 68, 3) := by decide +kernel
theorem dX12_areAlike_33 : decode cX12_areAlike 33 = .ok (.if_icmp .ge 69, 3) := by decide +kernel
theorem dX12_areAlike_36 : decode cX12_areAlike 36 = .ok (.iload 5, 2) := by decide +kernel
theorem dX12_areAlike_38 : decode cX12_areAlike 38 = .ok (.ifCond .eq 64, 3) := by decide +kernel
theorem dX12_areAlike_41 : decode cX12_areAlike 41 = .ok (.aload_n 0, 1) := by decide +kernel
theorem dX12_areAlike_42 : decode cX12_areAlike 42 = .ok (.iload 6, 2) := by decide +kernel
theorem dX12_areAlike_44 : decode cX12_areAlike 44 = .ok (.invokevirtual 76, 3) := by decide +kernel
theorem dX12_areAlike_47 : decode cX12_areAlike 47 = .ok (.ifCond .eq 42, 3) := by decide +kernel
theorem dX12_areAlike_50 : decode cX12_areAlike 50 = .ok (.aload_n 0, 1) := by decide +kernel
theorem dX12_areAlike_51 : decode cX12_areAlike 51 = .ok (.getfield 57, 3) := by decide +kernel
theorem dX12_areAlike_54 : decode cX12_areAlike 54 = .ok (.sipush 324, 3) := by decide +kernel
theorem dX12_areAlike_57 : decode cX12_areAlike 57 = .ok (.iload_n 1, 1) := by decide +kernel
theorem dX12_areAlike_58 : decode cX12_areAlike 58 = .ok (.imul, 1) := by decide +kernel
theorem dX12_areAlike_59 : decode cX12_areAlike 59 = .ok (.bipush 36, 2) := by decide +kernel
theorem dX12_areAlike_61 : decode cX12_areAlike 61 = .ok (.iload 4, 2) := by decide +kernel
theorem dX12_areAlike_63 : decode cX12_areAlike 63 = .ok (.imul, 1) := by decide +kernel
theorem dX12_areAlike_64 : decode cX12_areAlike 64 = .ok (.iadd, 1) := by decide +kernel
theorem dX12_areAlike_65 : decode cX12_areAlike 65 = .ok (.iload 6, 2) := by decide +kernel
theorem dX12_areAlike_67 : decode cX12_areAlike 67 = .ok (.iadd, 1) := by decide +kernel
theorem dX12_areAlike_68 : decode cX12_areAlike 68 = .ok (.iaload, 1) := by decide +kernel
theorem dX12_areAlike_69 : decode cX12_areAlike 69 = .ok (.aload_n 0, 1) := by decide +kernel
theorem dX12_areAlike_70 : decode cX12_areAlike 70 = .ok (.getfield 57, 3) := by decide +kernel
theorem dX12_areAlike_73 : decode cX12_areAlike 73 = .ok (.sipush 324, 3) := by decide +kernel
theorem dX12_areAlike_76 : decode cX12_areAlike 76 = .ok (.iload_n 2, 1) := by decide +kernel
theorem dX12_areAlike_77 : decode cX12_areAlike 77 = .ok (.imul, 1) := by decide +kernel
theorem dX12_areAlike_78 : decode cX12_areAlike 78 = .ok (.sipush 288, 3) := by decide +kernel
theorem dX12_areAlike_81 : decode cX12_areAlike 81 = .ok (.iadd, 1) := by decide +kernel
theorem dX12_areAlike_82 : decode cX12_areAlike 82 = .ok (.iload 6, 2) := by decide +kernel
theorem dX12_areAlike_84 : decode cX12_areAlike 84 = .ok (.iadd, 1) := by decide +kernel
theorem dX12_areAlike_85 : decode cX12_areAlike 85 = .ok (.iaload, 1) := by decide +kernel
theorem dX12_areAlike_86 : decode cX12_areAlike 86 = .ok (.if_icmp .ne 7, 3) := by decide +kernel
theorem dX12_areAlike_89 : decode cX12_areAlike 89 = .ok (.iconst 1, 1) := by decide +kernel
theorem dX12_areAlike_90 : decode cX12_areAlike 90 = .ok (.goto 4, 3) := by decide +kernel
theorem dX12_areAlike_93 : decode cX12_areAlike 93 = .ok (.iconst 0, 1) := by decide +kernel
theorem dX12_areAlike_94 : decode cX12_areAlike 94 = .ok (.istore 5, 2) := by decide +kernel
theorem dX12_areAlike_96 : decode cX12_areAlike 96 = .ok (.iinc 6 1, 3) := by decide +kernel
theorem dX12_areAlike_99 : decode cX12_areAlike 99 = .ok (.goto (-72), 3) := by decide +kernel
theorem dX12_areAlike_102 : decode cX12_areAlike 102 = .ok (.iload 5, 2) := by decide +kernel
theorem dX12_areAlike_104 : decode cX12_areAlike 104 = .ok (.istore_n 3, 1) := by decide +kernel
theorem dX12_areAlike_105 : decode cX12_areAlike 105 = .ok (.iinc 4 1, 3) := by decide +kernel
theorem dX12_areAlike_108 : decode cX12_areAlike 108 = .ok (.goto (-103), 3) := by decide +kernel
theorem dX12_areAlike_111 : decode cX12_areAlike 111 = .ok (.iload_n 3, 1) := by decide +kernel
theorem dX12_areAlike_112 : decode cX12_areAlike 112 = .ok (.ireturn, 1) := by decide +kernel
theorem dX12_classes_0 : decode cX12_classes 0 = .ok (.aload_n 0, 1) := by decide +kernel
theorem dX12_classes_1 : decode cX12_classes 1 = .ok (.invokevirtual 265, 3) := by decide +kernel
theorem dX12_classes_4 : decode cX12_classes 4 = .ok (.aload_n 0, 1) := by decide +kernel
theorem dX12_classes_5 : decode cX12_classes 5 = .ok (.getfield 227, 3) := by decide +kernel
theorem dX12_classes_8 : decode cX12_classes 8 = .ok (.ifCond .eq 6, 3) := by decide +kernel
theorem dX12_classes_11 : decode cX12_classes 11 = .ok (.bipush (-4), 2) := by decide +kernel
theorem dX12_classes_13 : decode cX12_classes 13 = .ok (.ireturn, 1) := by decide +kernel
theorem dX12_classes_14 : decode cX12_classes 14 = .ok (.aload_n 0, 1) := by decide +kernel
theorem dX12_classes_15 : decode cX12_classes 15 = .ok (.getfield 224, 3) := by decide +kernel
theorem dX12_classes_18 : decode cX12_classes 18 = .ok (.bipush 100, 2) := by decide +kernel
theorem dX12_classes_20 : decode cX12_classes 20 = .ok (.if_icmp .le 6, 3) := by decide +kernel
theorem dX12_classes_23 : decode cX12_classes 23 = .ok (.bipush (-3), 2) := by decide +kernel
theorem dX12_classes_25 : decode cX12_classes 25 = .ok (.ireturn, 1) := by decide +kernel
theorem dX12_classes_26 : decode cX12_classes 26 = .ok (.aload_n 0, 1) := by decide +kernel
theorem dX12_classes_27 : decode cX12_classes 27 = .ok (.invokevirtual 256, 3) := by decide +kernel
theorem dX12_classes_30 : decode cX12_classes 30 = .ok (.iconst 0, 1) := by decide +kernel
theorem dX12_classes_31 : decode cX12_classes 31 = .ok (.istore_n 1, 1) := by decide +kernel
theorem dX12_classes_32 : decode cX12_classes 32 = .ok (.aload_n 0, 1) := by decide +kernel
theorem dX12_classes_33 : decode cX12_classes 33 = .ok (.invokevirtual 259, 3) := by decide +kernel
theorem dX12_classes_36 : decode cX12_classes 36 = .ok (.ifCond .eq 72, 3) := by decide +kernel
theorem dX12_classes_39 : decode cX12_classes 39 = .ok (.aload_n 0, 1) := by decide +kernel
theorem dX12_classes_40 : decode cX12_classes 40 = .ok (.aload_n 0, 1) := by decide +kernel
theorem dX12_classes_41 : decode cX12_classes 41 = .ok (.getfield 224, 3) := by decide +kernel
theorem dX12_classes_44 : decode cX12_classes 44 = .ok (.iconst 1, 1) := by decide +kernel
theorem dX12_classes_45 : decode cX12_classes 45 = .ok (.isub, 1) := by decide +kernel
theorem dX12_classes_46 : decode cX12_classes 46 = .ok (.invokevirtual 277, 3) := by decide +kernel
theorem dX12_classes_49 : decode cX12_classes 49 = .ok (.iconst 1, 1) := by decide +kernel
theorem dX12_classes_50 : decode cX12_classes 50 = .ok (.istore_n 2, 1) := by decide +kernel
theorem dX12_classes_51 : decode cX12_classes 51 = .ok (.iconst 0, 1) := by decide +kernel
theorem dX12_classes_52 : decode cX12_classes 52 = .ok (.istore_n 3, 1) := by decide +kernel
theorem dX12_classes_53 : decode cX12_classes 53 = .ok (.iload_n 3, 1) := by decide +kernel
theorem dX12_classes_54 : decode cX12_classes 54 = .ok (.iconst 1, 1) := by decide +kernel
theorem dX12_classes_55 : decode cX12_classes 55 = .ok (.iadd, 1) := by decide +kernel
theorem dX12_classes_56 : decode cX12_classes 56 = .ok (.aload_n 0, 1) := by decide +kernel
theorem dX12_classes_57 : decode cX12_classes 57 = .ok (.getfield 224, 3) := by decide +kernel
theorem dX12_classes_60 : decode cX12_classes 60 = .ok (.if_icmp .ge 33, 3) := by decide +kernel
theorem dX12_classes_63 : decode cX12_classes 63 = .ok (.iload_n 2, 1) := by decide +kernel
theorem dX12_classes_64 : decode cX12_classes 64 = .ok (.ifCond .eq 29, 3) := by decide +kernel
theorem dX12_classes_67 : decode cX12_classes 67 = .ok (.aload_n 0, 1) := by decide +kernel
theorem dX12_classes_68 : decode cX12_classes 68 = .ok (.iload_n 3, 1) := by decide +kernel
theorem dX12_classes_69 : decode cX12_classes 69 = .ok (.aload_n 0, 1) := by decide +kernel
theorem dX12_classes_70 : decode cX12_classes 70 = .ok (.getfield 224, 3) := by decide +kernel
theorem dX12_classes_73 : decode cX12_classes 73 = .ok (.iconst 1, 1) := by decide +kernel
theorem dX12_classes_74 : decode cX12_classes 74 = .ok (.isub, 1) := by decide +kernel
theorem dX12_classes_75 : decode cX12_classes 75 = .ok (.invokevirtual 280, 3) := by decide +kernel
theorem dX12_classes_78 : decode cX12_classes 78 = .ok (.ifCond .ne 7, 3) := by decide +kernel
theorem dX12_classes_81 : decode cX12_classes 81 = .ok (.iconst 1, 1) := by decide +kernel
theorem dX12_classes_82 : decode cX12_classes 82 = .ok (.goto 4, 3) := by decide +kernel
theorem dX12_classes_85 : decode cX12_classes 85 = .ok (.iconst 0, 1) := by decide +kernel
theorem dX12_classes_86 : decode cX12_classes 86 = .ok (.istore_n 2, 1) := by decide +kernel
theorem dX12_classes_87 : decode cX12_classes 87 = .ok (.iinc 3 1, 3) := by decide +kernel
theorem dX12_classes_90 : decode cX12_classes 90 = .ok (.goto (-37), 3) := by decide +kernel
theorem dX12_classes_93 : decode cX12_classes 93 = .ok (.iload_n 1, 1) := by decide +kernel
theorem dX12_classes_94 : decode cX12_classes 94 = .ok (.iload_n 2, 1) := by decide +kernel
theorem dX12_classes_95 : decode cX12_classes 95 = .ok (.ifCond .eq 7, 3) := by decide +kernel
theorem dX12_classes_98 : decode cX12_classes 98 = .ok (.iconst 1, 1) := by decide +kernel
theorem dX12_classes_99 : decode cX12_classes 99 = .ok (.goto 4, 3) := by decide +kernel
theorem dX12_classes_102 : decode cX12_classes 102 = .ok (.iconst 0, 1) := by decide +kernel
theorem dX12_classes_103 : decode cX12_classes 103 = .ok (.iadd, 1) := by decide +kernel
theorem dX12_classes_104 : decode cX12_classes 104 = .ok (.istore_n 1, 1) := by decide +kernel
theorem dX12_classes_105 : decode cX12_classes 105 = .ok (.goto (-73), 3) := by decide +kernel
theorem dX12_classes_108 : decode cX12_classes 108 = .ok (.iload_n 1, 1) := by decide +kernel
theorem dX12_classes_109 : decode cX12_classes 109 = .ok (.ireturn, 1) := by decide +kernel
theorem dX12_alike_0 : decode cX12_alike 0 = .ok (.iload_n 1, 1) := by decide +kernel
theorem dX12_alike_1 : decode cX12_alike 1 = .ok (.ifCond .lt 7, 3) := by decide +kernel
theorem dX12_alike_4 : decode cX12_alike 4 = .ok (.iload_n 2, 1) := by decide +kernel
theorem dX12_alike_5 : decode cX12_alike 5 = .ok (.ifCond .ge 5, 3) := by decide +kernel
theorem dX12_alike_8 : decode cX12_alike 8 = .ok (.iconst (-1), 1) := by decide +kernel
theorem dX12_alike_9 : decode cX12_alike 9 = .ok (.ireturn, 1) := by decide +kernel
theorem dX12_alike_10 : decode cX12_alike 10 = .ok (.aload_n 0, 1) := by decide +kernel
theorem dX12_alike_11 : decode cX12_alike 11 = .ok (.iload_n 1, 1) := by decide +kernel
theorem dX12_alike_12 : decode cX12_alike 12 = .ok (.iload_n 2, 1) := by decide +kernel
theorem dX12_alike_13 : decode cX12_alike 13 = .ok (.if_icmp .le 7, 3) := by decide +kernel
theorem dX12_alike_16 : decode cX12_alike 16 = .ok (.iload_n 1, 1) := by decide +kernel
theorem dX12_alike_17 : decode cX12_alike 17 = .ok (.goto 4, 3) := by decide +kernel
theorem dX12_alike_20 : decode cX12_alike 20 = .ok (.iload_n 2, 1) := by decide +kernel
theorem dX12_alike_21 : decode cX12_alike 21 = .ok (.invokevirtual 268, 3) := by decide +kernel
theorem dX12_alike_24 : decode cX12_alike 24 = .ok (.istore_n 3, 1) := by decide +kernel
theorem dX12_alike_25 : decode cX12_alike 25 = .ok (.iload_n 3, 1) := by decide +kernel
theorem dX12_alike_26 : decode cX12_alike 26 = .ok (.ifCond .ge 5, 3) := by decide +kernel
theorem dX12_alike_29 : decode cX12_alike 29 = .ok (.iload_n 3, 1) := by decide +kernel
theorem dX12_alike_30 : decode cX12_alike 30 = .ok (.ireturn, 1) := by decide +kernel
theorem dX12_alike_31 : decode cX12_alike 31 = .ok (.aload_n 0, 1) := by decide +kernel
theorem dX12_alike_32 : decode cX12_alike 32 = .ok (.iconst 1, 1) := by decide +kernel
theorem dX12_alike_33 : decode cX12_alike 33 = .ok (.invokevirtual 277, 3) := by decide +kernel
theorem dX12_alike_36 : decode cX12_alike 36 = .ok (.aload_n 0, 1) := by decide +kernel
theorem dX12_alike_37 : decode cX12_alike 37 = .ok (.iload_n 1, 1) := by decide +kernel
theorem dX12_alike_38 : decode cX12_alike 38 = .ok (.iload_n 2, 1) := by decide +kernel
theorem dX12_alike_39 : decode cX12_alike 39 = .ok (.if_icmp .le 7, 3) := by decide +kernel
theorem dX12_alike_42 : decode cX12_alike 42 = .ok (.iload_n 2, 1) := by decide +kernel
theorem dX12_alike_43 : decode cX12_alike 43 = .ok (.goto 4, 3) := by decide +kernel
theorem dX12_alike_46 : decode cX12_alike 46 = .ok (.iload_n 1, 1) := by decide +kernel
theorem dX12_alike_47 : decode cX12_alike 47 = .ok (.invokevirtual 268, 3) := by decide +kernel
theorem dX12_alike_50 : decode cX12_alike 50 = .ok (.istore_n 3, 1) := by decide +kernel
theorem dX12_alike_51 : decode cX12_alike 51 = .ok (.aload_n 0, 1) := by decide +kernel
theorem dX12_alike_52 : decode cX12_alike 52 = .ok (.iconst 0, 1) := by decide +kernel
theorem dX12_alike_53 : decode cX12_alike 53 = .ok (.invokevirtual 277, 3) := by decide +kernel
theorem dX12_alike_56 : decode cX12_alike 56 = .ok (.iload_n 3, 1) := by decide +kernel
theorem dX12_alike_57 : decode cX12_alike 57 = .ok (.ifCond .ne 16, 3) := by decide +kernel
theorem dX12_alike_60 : decode cX12_alike 60 = .ok (.aload_n 0, 1) := by decide +kernel
theorem dX12_alike_61 : decode cX12_alike 61 = .ok (.iconst 0, 1) := by decide +kernel
theorem dX12_alike_62 : decode cX12_alike 62 = .ok (.iconst 1, 1) := by decide +kernel
theorem dX12_alike_63 : decode cX12_alike 63 = .ok (.invokevirtual 280, 3) := by decide +kernel
theorem dX12_alike_66 : decode cX12_alike 66 = .ok (.ifCond .eq 7, 3) := by decide +kernel
theorem dX12_alike_69 : decode cX12_alike 69 = .ok (.iconst 1, 1) := by decide +kernel
theorem dX12_alike_70 : decode cX12_alike 70 = .ok (.goto 4, 3) := by decide +kernel
theorem dX12_alike_73 : decode cX12_alike 73 = .ok (.iconst 0, 1) := by decide +kernel
theorem dX12_alike_74 : decode cX12_alike 74 = .ok (.ireturn, 1) := by decide +kernel
theorem dX12_isUseless_0 : decode cX12_isUseless 0 = .ok (.iconst 0, 1) := by decide +kernel
theorem dX12_isUseless_1 : decode cX12_isUseless 1 = .ok (.istore_n 2, 1) := by decide +kernel
theorem dX12_isUseless_2 : decode cX12_isUseless 2 = .ok (.iconst 0, 1) := by decide +kernel
theorem dX12_isUseless_3 : decode cX12_isUseless 3 = .ok (.istore_n 3, 1) := by decide +kernel
theorem dX12_isUseless_4 : decode cX12_isUseless 4 = .ok (.iload_n 3, 1) := by decide +kernel
theorem dX12_isUseless_5 : decode cX12_isUseless 5 = .ok (.aload_n 0, 1) := by decide +kernel
theorem dX12_isUseless_6 : decode cX12_isUseless 6 = .ok (.invokevirtual 68, 3) := by decide +kernel
theorem dX12_isUseless_9 : decode cX12_isUseless 9 = .ok (.if_icmp .ge 117, 3) := by decide +kernel
theorem dX12_isUseless_12 : decode cX12_isUseless 12 = .ok (.iload_n 2, 1) := by decide +kernel
theorem dX12_isUseless_13 : decode cX12_isUseless 13 = .ok (.ifCond .ne 113, 3) := by decide +kernel
theorem dX12_isUseless_16 : decode cX12_isUseless 16 = .ok (.aload_n 0, 1) := by decide +kernel
theorem dX12_isUseless_17 : decode cX12_isUseless 17 = .ok (.iload_n 3, 1) := by decide +kernel
theorem dX12_isUseless_18 : decode cX12_isUseless 18 = .ok (.invokevirtual 76, 3) := by decide +kernel
theorem dX12_isUseless_21 : decode cX12_isUseless 21 = .ok (.ifCond .eq 12, 3) := by decide +kernel
theorem dX12_isUseless_24 : decode cX12_isUseless 24 = .ok (.aload_n 0, 1) := by decide +kernel
theorem dX12_isUseless_25 : decode cX12_isUseless 25 = .ok (.iload_n 1, 1) := by decide +kernel
theorem dX12_isUseless_26 : decode cX12_isUseless 26 = .ok (.iload_n 3, 1) := by decide +kernel
theorem dX12_isUseless_27 : decode cX12_isUseless 27 = .ok (.invokevirtual 152, 3) := by decide +kernel
theorem dX12_isUseless_30 : decode cX12_isUseless 30 = .ok (.ifCond .eq 7, 3) := by decide +kernel
theorem dX12_isUseless_33 : decode cX12_isUseless 33 = .ok (.iconst 1, 1) := by decide +kernel
theorem dX12_isUseless_34 : decode cX12_isUseless 34 = .ok (.goto 4, 3) := by decide +kernel
theorem dX12_isUseless_37 : decode cX12_isUseless 37 = .ok (.iconst 0, 1) := by decide +kernel
theorem dX12_isUseless_38 : decode cX12_isUseless 38 = .ok (.istore 4, 2) := by decide +kernel
theorem dX12_isUseless_40 : decode cX12_isUseless 40 = .ok (.iconst 0, 1) := by decide +kernel
theorem dX12_isUseless_41 : decode cX12_isUseless 41 = .ok (.istore 5, 2) := by decide +kernel
theorem dX12_isUseless_43 : decode cX12_isUseless 43 = .ok (.iload 5, 2) := by decide +kernel
theorem dX12_isUseless_45 : decode cX12_isUseless 45 = .ok (.aload_n 0, 1) := by decide +kernel
theorem dX12_isUseless_46 : decode cX12_isUseless 46 = .ok (.getfield 106, 3) := by decide +kernel
theorem dX12_isUseless_49 : decode cX12_isUseless 49 = .ok (.if_icmp .ge 60, 3) := by decide +kernel
theorem dX12_isUseless_52 : decode cX12_isUseless 52 = .ok (.iload 4, 2) := by decide +kernel
theorem dX12_isUseless_54 : decode cX12_isUseless 54 = .ok (.ifCond .ne 55, 3) := by decide +kernel
theorem dX12_isUseless_57 : decode cX12_isUseless 57 = .ok (.aload_n 0, 1) := by decide +kernel
theorem dX12_isUseless_58 : decode cX12_isUseless 58 = .ok (.getfield 60, 3) := by decide +kernel
theorem dX12_isUseless_61 : decode cX12_isUseless 61 = .ok (.iload 5, 2) := by decide +kernel
theorem dX12_isUseless_63 : decode cX12_isUseless 63 = .ok (.baload, 1) := by decide +kernel
theorem dX12_isUseless_64 : decode cX12_isUseless 64 = .ok (.ifCond .ne 36, 3) := by decide +kernel
theorem dX12_isUseless_67 : decode cX12_isUseless 67 = .ok (.aload_n 0, 1) := by decide +kernel
theorem dX12_isUseless_68 : decode cX12_isUseless 68 = .ok (.iload 5, 2) := by decide +kernel
theorem dX12_isUseless_70 : decode cX12_isUseless 70 = .ok (.iload_n 3, 1) := by decide +kernel
theorem dX12_isUseless_71 : decode cX12_isUseless 71 = .ok (.invokevirtual 152, 3) := by decide +kernel
theorem dX12_isUseless_74 : decode cX12_isUseless 74 = .ok (.ifCond .eq 26, 3) := by decide +kernel
theorem dX12_isUseless_77 : decode cX12_isUseless 77 = .ok (.aload_n 0, 1) := by decide +kernel
theorem dX12_isUseless_78 : decode cX12_isUseless 78 = .ok (.getfield 32, 3) := by decide +kernel
theorem dX12_isUseless_81 : decode cX12_isUseless 81 = .ok (.iload 5, 2) := by decide +kernel
theorem dX12_isUseless_83 : decode cX12_isUseless 83 = .ok (.laload, 1) := by decide +kernel
theorem dX12_isUseless_84 : decode cX12_isUseless 84 = .ok (.aload_n 0, 1) := by decide +kernel
theorem dX12_isUseless_85 : decode cX12_isUseless 85 = .ok (.getfield 32, 3) := by decide +kernel
theorem dX12_isUseless_88 : decode cX12_isUseless 88 = .ok (.iload_n 1, 1) := by decide +kernel
theorem dX12_isUseless_89 : decode cX12_isUseless 89 = .ok (.laload, 1) := by decide +kernel
theorem dX12_isUseless_90 : decode cX12_isUseless 90 = .ok (.land, 1) := by decide +kernel
theorem dX12_isUseless_91 : decode cX12_isUseless 91 = .ok (.lconst 0, 1) := by decide +kernel
theorem dX12_isUseless_92 : decode cX12_isUseless 92 = .ok (.lcmp, 1) := by decide +kernel
theorem dX12_isUseless_93 : decode cX12_isUseless 93 = .ok (.ifCond .ne 7, 3) := by decide +kernel
theorem dX12_isUseless_96 : decode cX12_isUseless 96 = .ok (.iconst 1, 1) := by decide +kernel
theorem dX12_isUseless_97 : decode cX12_isUseless 97 = .ok (.goto 4, 3) := by decide +kernel
theorem dX12_isUseless_100 : decode cX12_isUseless 100 = .ok (.iconst 0, 1) := by decide +kernel
theorem dX12_isUseless_101 : decode cX12_isUseless 101 = .ok (.istore 4, 2) := by decide +kernel
theorem dX12_isUseless_103 : decode cX12_isUseless 103 = .ok (.iinc 5 1, 3) := by decide +kernel
theorem dX12_isUseless_106 : decode cX12_isUseless 106 = .ok (.goto (-63), 3) := by decide +kernel
theorem dX12_isUseless_109 : decode cX12_isUseless 109 = .ok (.iload 4, 2) := by decide +kernel
theorem dX12_isUseless_111 : decode cX12_isUseless 111 = .ok (.ifCond .ne 7, 3) := by decide +kernel
theorem dX12_isUseless_114 : decode cX12_isUseless 114 = .ok (.iconst 1, 1) := by decide +kernel
theorem dX12_isUseless_115 : decode cX12_isUseless 115 = .ok (.goto 4, 3) := by decide +kernel
theorem dX12_isUseless_118 : decode cX12_isUseless 118 = .ok (.iconst 0, 1) := by decide +kernel
theorem dX12_isUseless_119 : decode cX12_isUseless 119 = .ok (.istore_n 2, 1) := by decide +kernel
theorem dX12_isUseless_120 : decode cX12_isUseless 120 = .ok (.iinc 3 1, 3) := by decide +kernel
theorem dX12_isUseless_123 : decode cX12_isUseless 123 = .ok (.goto (-119), 3) := by decide +kernel
theorem dX12_isUseless_126 : decode cX12_isUseless 126 = .ok (.iload_n 2, 1) := by decide +kernel
theorem dX12_isUseless_127 : decode cX12_isUseless 127 = .ok (.ireturn, 1) := by decide +kernel
theorem dX12_strikes_0 : decode cX12_strikes 0 = .ok (.aload_n 0, 1) := by decide +kernel
theorem dX12_strikes_1 : decode cX12_strikes 1 = .ok (.invokevirtual 120, 3) := by decide +kernel
theorem dX12_strikes_4 : decode cX12_strikes 4 = .ok (.iconst 0, 1) := by decide +kernel
theorem dX12_strikes_5 : decode cX12_strikes 5 = .ok (.istore_n 1, 1) := by decide +kernel
theorem dX12_strikes_6 : decode cX12_strikes 6 = .ok (.iload_n 1, 1) := by decide +kernel
theorem dX12_strikes_7 : decode cX12_strikes 7 = .ok (.aload_n 0, 1) := by decide +kernel
theorem dX12_strikes_8 : decode cX12_strikes 8 = .ok (.getfield 106, 3) := by decide +kernel
theorem dX12_strikes_11 : decode cX12_strikes 11 = .ok (.if_icmp .ge 16, 3) := by decide +kernel
theorem dX12_strikes_14 : decode cX12_strikes 14 = .ok (.aload_n 0, 1) := by decide +kernel
theorem dX12_strikes_15 : decode cX12_strikes 15 = .ok (.getfield 60, 3) := by decide +kernel
theorem dX12_strikes_18 : decode cX12_strikes 18 = .ok (.iload_n 1, 1) := by decide +kernel
theorem dX12_strikes_19 : decode cX12_strikes 19 = .ok (.iconst 0, 1) := by decide +kernel
theorem dX12_strikes_20 : decode cX12_strikes 20 = .ok (.bastore, 1) := by decide +kernel
theorem dX12_strikes_21 : decode cX12_strikes 21 = .ok (.iinc 1 1, 3) := by decide +kernel
theorem dX12_strikes_24 : decode cX12_strikes 24 = .ok (.goto (-18), 3) := by decide +kernel
theorem dX12_strikes_27 : decode cX12_strikes 27 = .ok (.iconst 1, 1) := by decide +kernel
theorem dX12_strikes_28 : decode cX12_strikes 28 = .ok (.istore_n 1, 1) := by decide +kernel
theorem dX12_strikes_29 : decode cX12_strikes 29 = .ok (.iload_n 1, 1) := by decide +kernel
theorem dX12_strikes_30 : decode cX12_strikes 30 = .ok (.ifCond .eq 50, 3) := by decide +kernel
theorem dX12_strikes_33 : decode cX12_strikes 33 = .ok (.iconst 0, 1) := by decide +kernel
theorem dX12_strikes_34 : decode cX12_strikes 34 = .ok (.istore_n 1, 1) := by decide +kernel
theorem dX12_strikes_35 : decode cX12_strikes 35 = .ok (.iconst 0, 1) := by decide +kernel
theorem dX12_strikes_36 : decode cX12_strikes 36 = .ok (.istore_n 2, 1) := by decide +kernel
theorem dX12_strikes_37 : decode cX12_strikes 37 = .ok (.iload_n 2, 1) := by decide +kernel
theorem dX12_strikes_38 : decode cX12_strikes 38 = .ok (.aload_n 0, 1) := by decide +kernel
theorem dX12_strikes_39 : decode cX12_strikes 39 = .ok (.getfield 106, 3) := by decide +kernel
theorem dX12_strikes_42 : decode cX12_strikes 42 = .ok (.if_icmp .ge 35, 3) := by decide +kernel
theorem dX12_strikes_45 : decode cX12_strikes 45 = .ok (.aload_n 0, 1) := by decide +kernel
theorem dX12_strikes_46 : decode cX12_strikes 46 = .ok (.getfield 60, 3) := by decide +kernel
theorem dX12_strikes_49 : decode cX12_strikes 49 = .ok (.iload_n 2, 1) := by decide +kernel
theorem dX12_strikes_50 : decode cX12_strikes 50 = .ok (.baload, 1) := by decide +kernel
theorem dX12_strikes_51 : decode cX12_strikes 51 = .ok (.ifCond .ne 20, 3) := by decide +kernel
theorem dX12_strikes_54 : decode cX12_strikes 54 = .ok (.aload_n 0, 1) := by decide +kernel
theorem dX12_strikes_55 : decode cX12_strikes 55 = .ok (.iload_n 2, 1) := by decide +kernel
theorem dX12_strikes_56 : decode cX12_strikes 56 = .ok (.invokevirtual 283, 3) := by decide +kernel
theorem dX12_strikes_59 : decode cX12_strikes 59 = .ok (.ifCond .eq 12, 3) := by decide +kernel
theorem dX12_strikes_62 : decode cX12_strikes 62 = .ok (.aload_n 0, 1) := by decide +kernel
theorem dX12_strikes_63 : decode cX12_strikes 63 = .ok (.getfield 60, 3) := by decide +kernel
theorem dX12_strikes_66 : decode cX12_strikes 66 = .ok (.iload_n 2, 1) := by decide +kernel
theorem dX12_strikes_67 : decode cX12_strikes 67 = .ok (.iconst 1, 1) := by decide +kernel
theorem dX12_strikes_68 : decode cX12_strikes 68 = .ok (.bastore, 1) := by decide +kernel
theorem dX12_strikes_69 : decode cX12_strikes 69 = .ok (.iconst 1, 1) := by decide +kernel
theorem dX12_strikes_70 : decode cX12_strikes 70 = .ok (.istore_n 1, 1) := by decide +kernel
theorem dX12_strikes_71 : decode cX12_strikes 71 = .ok (.iinc 2 1, 3) := by decide +kernel
theorem dX12_strikes_74 : decode cX12_strikes 74 = .ok (.goto (-37), 3) := by decide +kernel
theorem dX12_strikes_77 : decode cX12_strikes 77 = .ok (.goto (-48), 3) := by decide +kernel
theorem dX12_strikes_80 : decode cX12_strikes 80 = .ok (.return_, 1) := by decide +kernel
theorem dX12_useful_0 : decode cX12_useful 0 = .ok (.aload_n 0, 1) := by decide +kernel
theorem dX12_useful_1 : decode cX12_useful 1 = .ok (.iload_n 1, 1) := by decide +kernel
theorem dX12_useful_2 : decode cX12_useful 2 = .ok (.invokevirtual 139, 3) := by decide +kernel
theorem dX12_useful_5 : decode cX12_useful 5 = .ok (.ifCond .ne 5, 3) := by decide +kernel
theorem dX12_useful_8 : decode cX12_useful 8 = .ok (.iconst (-1), 1) := by decide +kernel
theorem dX12_useful_9 : decode cX12_useful 9 = .ok (.ireturn, 1) := by decide +kernel
theorem dX12_useful_10 : decode cX12_useful 10 = .ok (.aload_n 0, 1) := by decide +kernel
theorem dX12_useful_11 : decode cX12_useful 11 = .ok (.invokevirtual 286, 3) := by decide +kernel
theorem dX12_useful_14 : decode cX12_useful 14 = .ok (.iconst 0, 1) := by decide +kernel
theorem dX12_useful_15 : decode cX12_useful 15 = .ok (.istore_n 2, 1) := by decide +kernel
theorem dX12_useful_16 : decode cX12_useful 16 = .ok (.iconst 0, 1) := by decide +kernel
theorem dX12_useful_17 : decode cX12_useful 17 = .ok (.istore_n 3, 1) := by decide +kernel
theorem dX12_useful_18 : decode cX12_useful 18 = .ok (.iload_n 3, 1) := by decide +kernel
theorem dX12_useful_19 : decode cX12_useful 19 = .ok (.aload_n 0, 1) := by decide +kernel
theorem dX12_useful_20 : decode cX12_useful 20 = .ok (.getfield 106, 3) := by decide +kernel
theorem dX12_useful_23 : decode cX12_useful 23 = .ok (.if_icmp .ge 36, 3) := by decide +kernel
theorem dX12_useful_26 : decode cX12_useful 26 = .ok (.iload_n 2, 1) := by decide +kernel
theorem dX12_useful_27 : decode cX12_useful 27 = .ok (.aload_n 0, 1) := by decide +kernel
theorem dX12_useful_28 : decode cX12_useful 28 = .ok (.getfield 60, 3) := by decide +kernel
theorem dX12_useful_31 : decode cX12_useful 31 = .ok (.iload_n 3, 1) := by decide +kernel
theorem dX12_useful_32 : decode cX12_useful 32 = .ok (.baload, 1) := by decide +kernel
theorem dX12_useful_33 : decode cX12_useful 33 = .ok (.ifCond .ne 17, 3) := by decide +kernel
theorem dX12_useful_36 : decode cX12_useful 36 = .ok (.aload_n 0, 1) := by decide +kernel
theorem dX12_useful_37 : decode cX12_useful 37 = .ok (.getfield 23, 3) := by decide +kernel
theorem dX12_useful_40 : decode cX12_useful 40 = .ok (.iload_n 3, 1) := by decide +kernel
theorem dX12_useful_41 : decode cX12_useful 41 = .ok (.iaload, 1) := by decide +kernel
theorem dX12_useful_42 : decode cX12_useful 42 = .ok (.iload_n 1, 1) := by decide +kernel
theorem dX12_useful_43 : decode cX12_useful 43 = .ok (.if_icmp .ne 7, 3) := by decide +kernel
theorem dX12_useful_46 : decode cX12_useful 46 = .ok (.iconst 1, 1) := by decide +kernel
theorem dX12_useful_47 : decode cX12_useful 47 = .ok (.goto 4, 3) := by decide +kernel
theorem dX12_useful_50 : decode cX12_useful 50 = .ok (.iconst 0, 1) := by decide +kernel
theorem dX12_useful_51 : decode cX12_useful 51 = .ok (.iadd, 1) := by decide +kernel
theorem dX12_useful_52 : decode cX12_useful 52 = .ok (.istore_n 2, 1) := by decide +kernel
theorem dX12_useful_53 : decode cX12_useful 53 = .ok (.iinc 3 1, 3) := by decide +kernel
theorem dX12_useful_56 : decode cX12_useful 56 = .ok (.goto (-38), 3) := by decide +kernel
theorem dX12_useful_59 : decode cX12_useful 59 = .ok (.iload_n 2, 1) := by decide +kernel
theorem dX12_useful_60 : decode cX12_useful 60 = .ok (.ireturn, 1) := by decide +kernel
theorem dX12_usefulAt_0 : decode cX12_usefulAt 0 = .ok (.aload_n 0, 1) := by decide +kernel
theorem dX12_usefulAt_1 : decode cX12_usefulAt 1 = .ok (.iload_n 1, 1) := by decide +kernel
theorem dX12_usefulAt_2 : decode cX12_usefulAt 2 = .ok (.invokevirtual 126, 3) := by decide +kernel
theorem dX12_usefulAt_5 : decode cX12_usefulAt 5 = .ok (.ifCond .ne 5, 3) := by decide +kernel
theorem dX12_usefulAt_8 : decode cX12_usefulAt 8 = .ok (.iconst (-1), 1) := by decide +kernel
theorem dX12_usefulAt_9 : decode cX12_usefulAt 9 = .ok (.ireturn, 1) := by decide +kernel
theorem dX12_usefulAt_10 : decode cX12_usefulAt 10 = .ok (.aload_n 0, 1) := by decide +kernel
theorem dX12_usefulAt_11 : decode cX12_usefulAt 11 = .ok (.iload_n 1, 1) := by decide +kernel
theorem dX12_usefulAt_12 : decode cX12_usefulAt 12 = .ok (.invokevirtual 76, 3) := by decide +kernel
theorem dX12_usefulAt_15 : decode cX12_usefulAt 15 = .ok (.ifCond .ne 6, 3) := by decide +kernel
theorem dX12_usefulAt_18 : decode cX12_usefulAt 18 = .ok (.bipush (-9), 2) := by decide +kernel
theorem dX12_usefulAt_20 : decode cX12_usefulAt 20 = .ok (.ireturn, 1) := by decide +kernel
theorem dX12_usefulAt_21 : decode cX12_usefulAt 21 = .ok (.aload_n 0, 1) := by decide +kernel
theorem dX12_usefulAt_22 : decode cX12_usefulAt 22 = .ok (.invokevirtual 286, 3) := by decide +kernel
theorem dX12_usefulAt_25 : decode cX12_usefulAt 25 = .ok (.iconst 0, 1) := by decide +kernel
theorem dX12_usefulAt_26 : decode cX12_usefulAt 26 = .ok (.istore_n 2, 1) := by decide +kernel
theorem dX12_usefulAt_27 : decode cX12_usefulAt 27 = .ok (.iconst 0, 1) := by decide +kernel
theorem dX12_usefulAt_28 : decode cX12_usefulAt 28 = .ok (.istore_n 3, 1) := by decide +kernel
theorem dX12_usefulAt_29 : decode cX12_usefulAt 29 = .ok (.iload_n 3, 1) := by decide +kernel
theorem dX12_usefulAt_30 : decode cX12_usefulAt 30 = .ok (.aload_n 0, 1) := by decide +kernel
theorem dX12_usefulAt_31 : decode cX12_usefulAt 31 = .ok (.getfield 106, 3) := by decide +kernel
theorem dX12_usefulAt_34 : decode cX12_usefulAt 34 = .ok (.if_icmp .ge 35, 3) := by decide +kernel
theorem dX12_usefulAt_37 : decode cX12_usefulAt 37 = .ok (.iload_n 2, 1) := by decide +kernel
theorem dX12_usefulAt_38 : decode cX12_usefulAt 38 = .ok (.aload_n 0, 1) := by decide +kernel
theorem dX12_usefulAt_39 : decode cX12_usefulAt 39 = .ok (.getfield 60, 3) := by decide +kernel
theorem dX12_usefulAt_42 : decode cX12_usefulAt 42 = .ok (.iload_n 3, 1) := by decide +kernel
theorem dX12_usefulAt_43 : decode cX12_usefulAt 43 = .ok (.baload, 1) := by decide +kernel
theorem dX12_usefulAt_44 : decode cX12_usefulAt 44 = .ok (.ifCond .ne 16, 3) := by decide +kernel
theorem dX12_usefulAt_47 : decode cX12_usefulAt 47 = .ok (.aload_n 0, 1) := by decide +kernel
theorem dX12_usefulAt_48 : decode cX12_usefulAt 48 = .ok (.iload_n 3, 1) := by decide +kernel
theorem dX12_usefulAt_49 : decode cX12_usefulAt 49 = .ok (.iload_n 1, 1) := by decide +kernel
theorem dX12_usefulAt_50 : decode cX12_usefulAt 50 = .ok (.invokevirtual 152, 3) := by decide +kernel
theorem dX12_usefulAt_53 : decode cX12_usefulAt 53 = .ok (.ifCond .eq 7, 3) := by decide +kernel
theorem dX12_usefulAt_56 : decode cX12_usefulAt 56 = .ok (.iconst 1, 1) := by decide +kernel
theorem dX12_usefulAt_57 : decode cX12_usefulAt 57 = .ok (.goto 4, 3) := by decide +kernel
theorem dX12_usefulAt_60 : decode cX12_usefulAt 60 = .ok (.iconst 0, 1) := by decide +kernel
theorem dX12_usefulAt_61 : decode cX12_usefulAt 61 = .ok (.iadd, 1) := by decide +kernel
theorem dX12_usefulAt_62 : decode cX12_usefulAt 62 = .ok (.istore_n 2, 1) := by decide +kernel
theorem dX12_usefulAt_63 : decode cX12_usefulAt 63 = .ok (.iinc 3 1, 3) := by decide +kernel
theorem dX12_usefulAt_66 : decode cX12_usefulAt 66 = .ok (.goto (-37), 3) := by decide +kernel
theorem dX12_usefulAt_69 : decode cX12_usefulAt 69 = .ok (.iload_n 2, 1) := by decide +kernel
theorem dX12_usefulAt_70 : decode cX12_usefulAt 70 = .ok (.ireturn, 1) := by decide +kernel
theorem dX12_weight_0 : decode cX12_weight 0 = .ok (.iconst 0, 1) := by decide +kernel
theorem dX12_weight_1 : decode cX12_weight 1 = .ok (.istore 6, 2) := by decide +kernel
theorem dX12_weight_3 : decode cX12_weight 3 = .ok (.iconst 0, 1) := by decide +kernel
theorem dX12_weight_4 : decode cX12_weight 4 = .ok (.istore 7, 2) := by decide +kernel
theorem dX12_weight_6 : decode cX12_weight 6 = .ok (.iload 7, 2) := by decide +kernel
theorem dX12_weight_8 : decode cX12_weight 8 = .ok (.aload_n 0, 1) := by decide +kernel
theorem dX12_weight_9 : decode cX12_weight 9 = .ok (.invokevirtual 68, 3) := by decide +kernel
theorem dX12_weight_12 : decode cX12_weight 12 = .ok (.if_icmp .ge 53, 3) := by decide +kernel
theorem dX12_weight_15 : decode cX12_weight 15 = .ok (.iload 6, 2) := by decide +kernel
theorem dX12_weight_17 : decode cX12_weight 17 = .ok (.lload_n 1, 1) := by decide +kernel
theorem dX12_weight_18 : decode cX12_weight 18 = .ok (.iload 7, 2) := by decide +kernel
theorem dX12_weight_20 : decode cX12_weight 20 = .ok (.lshr, 1) := by decide +kernel
theorem dX12_weight_21 : decode cX12_weight 21 = .ok (.lconst 1, 1) := by decide +kernel
theorem dX12_weight_22 : decode cX12_weight 22 = .ok (.land, 1) := by decide +kernel
theorem dX12_weight_23 : decode cX12_weight 23 = .ok (.lconst 1, 1) := by decide +kernel
theorem dX12_weight_24 : decode cX12_weight 24 = .ok (.lcmp, 1) := by decide +kernel
theorem dX12_weight_25 : decode cX12_weight 25 = .ok (.ifCond .ne 30, 3) := by decide +kernel
theorem dX12_weight_28 : decode cX12_weight 28 = .ok (.iload_n 3, 1) := by decide +kernel
theorem dX12_weight_29 : decode cX12_weight 29 = .ok (.iload 7, 2) := by decide +kernel
theorem dX12_weight_31 : decode cX12_weight 31 = .ok (.aload_n 0, 1) := by decide +kernel
theorem dX12_weight_32 : decode cX12_weight 32 = .ok (.getfield 7, 3) := by decide +kernel
theorem dX12_weight_35 : decode cX12_weight 35 = .ok (.iconst 0, 1) := by decide +kernel
theorem dX12_weight_36 : decode cX12_weight 36 = .ok (.iaload, 1) := by decide +kernel
theorem dX12_weight_37 : decode cX12_weight 37 = .ok (.irem, 1) := by decide +kernel
theorem dX12_weight_38 : decode cX12_weight 38 = .ok (.imul, 1) := by decide +kernel
theorem dX12_weight_39 : decode cX12_weight 39 = .ok (.iload 4, 2) := by decide +kernel
theorem dX12_weight_41 : decode cX12_weight 41 = .ok (.iload 7, 2) := by decide +kernel
theorem dX12_weight_43 : decode cX12_weight 43 = .ok (.aload_n 0, 1) := by decide +kernel
theorem dX12_weight_44 : decode cX12_weight 44 = .ok (.getfield 7, 3) := by decide +kernel
theorem dX12_weight_47 : decode cX12_weight 47 = .ok (.iconst 0, 1) := by decide +kernel
theorem dX12_weight_48 : decode cX12_weight 48 = .ok (.iaload, 1) := by decide +kernel
theorem dX12_weight_49 : decode cX12_weight 49 = .ok (.idiv, 1) := by decide +kernel
theorem dX12_weight_50 : decode cX12_weight 50 = .ok (.imul, 1) := by decide +kernel
theorem dX12_weight_51 : decode cX12_weight 51 = .ok (.iadd, 1) := by decide +kernel
theorem dX12_weight_52 : decode cX12_weight 52 = .ok (.goto 4, 3) := by decide +kernel
theorem dX12_weight_55 : decode cX12_weight 55 = .ok (.iconst 0, 1) := by decide +kernel
theorem dX12_weight_56 : decode cX12_weight 56 = .ok (.iadd, 1) := by decide +kernel
theorem dX12_weight_57 : decode cX12_weight 57 = .ok (.istore 6, 2) := by decide +kernel
theorem dX12_weight_59 : decode cX12_weight 59 = .ok (.iinc 7 1, 3) := by decide +kernel
theorem dX12_weight_62 : decode cX12_weight 62 = .ok (.goto (-56), 3) := by decide +kernel
theorem dX12_weight_65 : decode cX12_weight 65 = .ok (.iload 6, 2) := by decide +kernel
theorem dX12_weight_67 : decode cX12_weight 67 = .ok (.iload 5, 2) := by decide +kernel
theorem dX12_weight_69 : decode cX12_weight 69 = .ok (.irem, 1) := by decide +kernel
theorem dX12_weight_70 : decode cX12_weight 70 = .ok (.ireturn, 1) := by decide +kernel
theorem dX12_weights_0 : decode cX12_weights 0 = .ok (.iconst 0, 1) := by decide +kernel
theorem dX12_weights_1 : decode cX12_weights 1 = .ok (.istore 5, 2) := by decide +kernel
theorem dX12_weights_3 : decode cX12_weights 3 = .ok (.iconst 0, 1) := by decide +kernel
theorem dX12_weights_4 : decode cX12_weights 4 = .ok (.istore 6, 2) := by decide +kernel
theorem dX12_weights_6 : decode cX12_weights 6 = .ok (.iload 6, 2) := by decide +kernel
theorem dX12_weights_8 : decode cX12_weights 8 = .ok (.aload_n 0, 1) := by decide +kernel
theorem dX12_weights_9 : decode cX12_weights 9 = .ok (.getfield 106, 3) := by decide +kernel
theorem dX12_weights_12 : decode cX12_weights 12 = .ok (.if_icmp .ge 46, 3) := by decide +kernel
theorem dX12_weights_15 : decode cX12_weights 15 = .ok (.iload 5, 2) := by decide +kernel
theorem dX12_weights_17 : decode cX12_weights 17 = .ok (.aload_n 0, 1) := by decide +kernel
theorem dX12_weights_18 : decode cX12_weights 18 = .ok (.getfield 23, 3) := by decide +kernel
theorem dX12_weights_21 : decode cX12_weights 21 = .ok (.iload 6, 2) := by decide +kernel
theorem dX12_weights_23 : decode cX12_weights 23 = .ok (.iaload, 1) := by decide +kernel
theorem dX12_weights_24 : decode cX12_weights 24 = .ok (.iload_n 1, 1) := by decide +kernel
theorem dX12_weights_25 : decode cX12_weights 25 = .ok (.if_icmp .ne 23, 3) := by decide +kernel
theorem dX12_weights_28 : decode cX12_weights 28 = .ok (.iconst 1, 1) := by decide +kernel
theorem dX12_weights_29 : decode cX12_weights 29 = .ok (.aload_n 0, 1) := by decide +kernel
theorem dX12_weights_30 : decode cX12_weights 30 = .ok (.aload_n 0, 1) := by decide +kernel
theorem dX12_weights_31 : decode cX12_weights 31 = .ok (.getfield 32, 3) := by decide +kernel
theorem dX12_weights_34 : decode cX12_weights 34 = .ok (.iload 6, 2) := by decide +kernel
theorem dX12_weights_36 : decode cX12_weights 36 = .ok (.laload, 1) := by decide +kernel
theorem dX12_weights_37 : decode cX12_weights 37 = .ok (.iload_n 2, 1) := by decide +kernel
theorem dX12_weights_38 : decode cX12_weights 38 = .ok (.iload_n 3, 1) := by decide +kernel
theorem dX12_weights_39 : decode cX12_weights 39 = .ok (.iload 4, 2) := by decide +kernel
theorem dX12_weights_41 : decode cX12_weights 41 = .ok (.invokevirtual 289, 3) := by decide +kernel
theorem dX12_weights_44 : decode cX12_weights 44 = .ok (.ishl, 1) := by decide +kernel
theorem dX12_weights_45 : decode cX12_weights 45 = .ok (.goto 4, 3) := by decide +kernel
theorem dX12_weights_48 : decode cX12_weights 48 = .ok (.iconst 0, 1) := by decide +kernel
theorem dX12_weights_49 : decode cX12_weights 49 = .ok (.ior, 1) := by decide +kernel
theorem dX12_weights_50 : decode cX12_weights 50 = .ok (.istore 5, 2) := by decide +kernel
theorem dX12_weights_52 : decode cX12_weights 52 = .ok (.iinc 6 1, 3) := by decide +kernel
theorem dX12_weights_55 : decode cX12_weights 55 = .ok (.goto (-49), 3) := by decide +kernel
theorem dX12_weights_58 : decode cX12_weights 58 = .ok (.iload 5, 2) := by decide +kernel
theorem dX12_weights_60 : decode cX12_weights 60 = .ok (.ireturn, 1) := by decide +kernel
theorem dX12_isProof_0 : decode cX12_isProof 0 = .ok (.iconst 1, 1) := by decide +kernel
theorem dX12_isProof_1 : decode cX12_isProof 1 = .ok (.istore 4, 2) := by decide +kernel
theorem dX12_isProof_3 : decode cX12_isProof 3 = .ok (.iconst 0, 1) := by decide +kernel
theorem dX12_isProof_4 : decode cX12_isProof 4 = .ok (.istore 5, 2) := by decide +kernel
theorem dX12_isProof_6 : decode cX12_isProof 6 = .ok (.iload 5, 2) := by decide +kernel
theorem dX12_isProof_8 : decode cX12_isProof 8 = .ok (.aload_n 0, 1) := by decide +kernel
theorem dX12_isProof_9 : decode cX12_isProof 9 = .ok (.getfield 7, 3) := by decide +kernel
theorem dX12_isProof_12 : decode cX12_isProof 12 = .ok (.iconst 4, 1) := by decide +kernel
theorem dX12_isProof_13 : decode cX12_isProof 13 = .ok (.iaload, 1) := by decide +kernel
theorem dX12_isProof_14 : decode cX12_isProof 14 = .ok (.if_icmp .ge 139, 3) := by decide +kernel
theorem dX12_isProof_17 : decode cX12_isProof 17 = .ok (.aload_n 0, 1) := by decide +kernel
theorem dX12_isProof_18 : decode cX12_isProof 18 = .ok (.iload 5, 2) := by decide +kernel
theorem dX12_isProof_20 : decode cX12_isProof 20 = .ok (.iload_n 1, 1) := by decide +kernel
theorem dX12_isProof_21 : decode cX12_isProof 21 = .ok (.iload_n 2, 1) := by decide +kernel
theorem dX12_isProof_22 : decode cX12_isProof 22 = .ok (.iload_n 3, 1) := by decide +kernel
theorem dX12_isProof_23 : decode cX12_isProof 23 = .ok (.invokevirtual 293, 3) := by decide +kernel
theorem dX12_isProof_26 : decode cX12_isProof 26 = .ok (.istore 6, 2) := by decide +kernel
theorem dX12_isProof_28 : decode cX12_isProof 28 = .ok (.iconst 0, 1) := by decide +kernel
theorem dX12_isProof_29 : decode cX12_isProof 29 = .ok (.istore 7, 2) := by decide +kernel
theorem dX12_isProof_31 : decode cX12_isProof 31 = .ok (.iload 7, 2) := by decide +kernel
theorem dX12_isProof_33 : decode cX12_isProof 33 = .ok (.aload_n 0, 1) := by decide +kernel
theorem dX12_isProof_34 : decode cX12_isProof 34 = .ok (.iload 5, 2) := by decide +kernel
theorem dX12_isProof_36 : decode cX12_isProof 36 = .ok (.iconst 3, 1) := by decide +kernel
theorem dX12_isProof_37 : decode cX12_isProof 37 = .ok (.invokevirtual 95, 3) := by decide +kernel
theorem dX12_isProof_40 : decode cX12_isProof 40 = .ok (.if_icmp .ge 107, 3) := by decide +kernel
theorem dX12_isProof_43 : decode cX12_isProof 43 = .ok (.aload_n 0, 1) := by decide +kernel
theorem dX12_isProof_44 : decode cX12_isProof 44 = .ok (.getfield 7, 3) := by decide +kernel
theorem dX12_isProof_47 : decode cX12_isProof 47 = .ok (.iconst 2, 1) := by decide +kernel
theorem dX12_isProof_48 : decode cX12_isProof 48 = .ok (.iaload, 1) := by decide +kernel
theorem dX12_isProof_49 : decode cX12_isProof 49 = .ok (.ifCond .ne 8, 3) := by decide +kernel
theorem dX12_isProof_52 : decode cX12_isProof 52 = .ok (.iload 4, 2) := by decide +kernel
theorem dX12_isProof_54 : decode cX12_isProof 54 = .ok (.goto 4, 3) := by decide +kernel
theorem dX12_isProof_57 : decode cX12_isProof 57 = .ok (.iconst 0, 1) := by decide +kernel
theorem dX12_isProof_58 : decode cX12_isProof 58 = .ok (.istore 8, 2) := by decide +kernel
theorem dX12_isProof_60 : decode cX12_isProof 60 = .ok (.iconst 0, 1) := by decide +kernel
theorem dX12_isProof_61 : decode cX12_isProof 61 = .ok (.istore 9, 2) := by decide +kernel
theorem dX12_isProof_63 : decode cX12_isProof 63 = .ok (.iload 9, 2) := by decide +kernel
theorem dX12_isProof_65 : decode cX12_isProof 65 = .ok (.iload_n 3, 1) := by decide +kernel
theorem dX12_isProof_66 : decode cX12_isProof 66 = .ok (.iload_n 3, 1) := by decide +kernel
theorem dX12_isProof_67 : decode cX12_isProof 67 = .ok (.imul, 1) := by decide +kernel
theorem dX12_isProof_68 : decode cX12_isProof 68 = .ok (.if_icmp .ge 69, 3) := by decide +kernel
theorem dX12_isProof_71 : decode cX12_isProof 71 = .ok (.iload 4, 2) := by decide +kernel
theorem dX12_isProof_73 : decode cX12_isProof 73 = .ok (.iload 9, 2) := by decide +kernel
theorem dX12_isProof_75 : decode cX12_isProof 75 = .ok (.iload_n 3, 1) := by decide +kernel
theorem dX12_isProof_76 : decode cX12_isProof 76 = .ok (.idiv, 1) := by decide +kernel
theorem dX12_isProof_77 : decode cX12_isProof 77 = .ok (.ishr, 1) := by decide +kernel
theorem dX12_isProof_78 : decode cX12_isProof 78 = .ok (.iconst 1, 1) := by decide +kernel
theorem dX12_isProof_79 : decode cX12_isProof 79 = .ok (.iand, 1) := by decide +kernel
theorem dX12_isProof_80 : decode cX12_isProof 80 = .ok (.iconst 1, 1) := by decide +kernel
theorem dX12_isProof_81 : decode cX12_isProof 81 = .ok (.if_icmp .ne 20, 3) := by decide +kernel
theorem dX12_isProof_84 : decode cX12_isProof 84 = .ok (.iload 6, 2) := by decide +kernel
theorem dX12_isProof_86 : decode cX12_isProof 86 = .ok (.iload 9, 2) := by decide +kernel
theorem dX12_isProof_88 : decode cX12_isProof 88 = .ok (.iload_n 3, 1) := by decide +kernel
theorem dX12_isProof_89 : decode cX12_isProof 89 = .ok (.irem, 1) := by decide +kernel
theorem dX12_isProof_90 : decode cX12_isProof 90 = .ok (.ishr, 1) := by decide +kernel
theorem dX12_isProof_91 : decode cX12_isProof 91 = .ok (.iconst 1, 1) := by decide +kernel
theorem dX12_isProof_92 : decode cX12_isProof 92 = .ok (.iand, 1) := by decide +kernel
theorem dX12_isProof_93 : decode cX12_isProof 93 = .ok (.iconst 1, 1) := by decide +kernel
theorem dX12_isProof_94 : decode cX12_isProof 94 = .ok (.if_icmp .ne 7, 3) := by decide +kernel
theorem dX12_isProof_97 : decode cX12_isProof 97 = .ok (.iconst 1, 1) := by decide +kernel
theorem dX12_isProof_98 : decode cX12_isProof 98 = .ok (.goto 4, 3) := by decide +kernel
theorem dX12_isProof_101 : decode cX12_isProof 101 = .ok (.iconst 0, 1) := by decide +kernel
theorem dX12_isProof_102 : decode cX12_isProof 102 = .ok (.istore 10, 2) := by decide +kernel
theorem dX12_isProof_104 : decode cX12_isProof 104 = .ok (.iload 8, 2) := by decide +kernel
theorem dX12_isProof_106 : decode cX12_isProof 106 = .ok (.iload 10, 2) := by decide +kernel
theorem dX12_isProof_108 : decode cX12_isProof 108 = .ok (.ifCond .eq 19, 3) := by decide +kernel
theorem dX12_isProof_111 : decode cX12_isProof 111 = .ok (.iconst 1, 1) := by decide +kernel
theorem dX12_isProof_112 : decode cX12_isProof 112 = .ok (.iload 9, 2) := by decide +kernel
theorem dX12_isProof_114 : decode cX12_isProof 114 = .ok (.iload_n 3, 1) := by decide +kernel
theorem dX12_isProof_115 : decode cX12_isProof 115 = .ok (.idiv, 1) := by decide +kernel
theorem dX12_isProof_116 : decode cX12_isProof 116 = .ok (.iload 9, 2) := by decide +kernel
theorem dX12_isProof_118 : decode cX12_isProof 118 = .ok (.iload_n 3, 1) := by decide +kernel
theorem dX12_isProof_119 : decode cX12_isProof 119 = .ok (.irem, 1) := by decide +kernel
theorem dX12_isProof_120 : decode cX12_isProof 120 = .ok (.iadd, 1) := by decide +kernel
theorem dX12_isProof_121 : decode cX12_isProof 121 = .ok (.iload_n 3, 1) := by decide +kernel
theorem dX12_isProof_122 : decode cX12_isProof 122 = .ok (.irem, 1) := by decide +kernel
theorem dX12_isProof_123 : decode cX12_isProof 123 = .ok (.ishl, 1) := by decide +kernel
theorem dX12_isProof_124 : decode cX12_isProof 124 = .ok (.goto 4, 3) := by decide +kernel
theorem dX12_isProof_127 : decode cX12_isProof 127 = .ok (.iconst 0, 1) := by decide +kernel
theorem dX12_isProof_128 : decode cX12_isProof 128 = .ok (.ior, 1) := by decide +kernel
theorem dX12_isProof_129 : decode cX12_isProof 129 = .ok (.istore 8, 2) := by decide +kernel
theorem dX12_isProof_131 : decode cX12_isProof 131 = .ok (.iinc 9 1, 3) := by decide +kernel
theorem dX12_isProof_134 : decode cX12_isProof 134 = .ok (.goto (-71), 3) := by decide +kernel
theorem dX12_isProof_137 : decode cX12_isProof 137 = .ok (.iload 8, 2) := by decide +kernel
theorem dX12_isProof_139 : decode cX12_isProof 139 = .ok (.istore 4, 2) := by decide +kernel
theorem dX12_isProof_141 : decode cX12_isProof 141 = .ok (.iinc 7 1, 3) := by decide +kernel
theorem dX12_isProof_144 : decode cX12_isProof 144 = .ok (.goto (-113), 3) := by decide +kernel
theorem dX12_isProof_147 : decode cX12_isProof 147 = .ok (.iinc 5 1, 3) := by decide +kernel
theorem dX12_isProof_150 : decode cX12_isProof 150 = .ok (.goto (-144), 3) := by decide +kernel
theorem dX12_isProof_153 : decode cX12_isProof 153 = .ok (.iload 4, 2) := by decide +kernel
theorem dX12_isProof_155 : decode cX12_isProof 155 = .ok (.aload_n 0, 1) := by decide +kernel
theorem dX12_isProof_156 : decode cX12_isProof 156 = .ok (.aload_n 0, 1) := by decide +kernel
theorem dX12_isProof_157 : decode cX12_isProof 157 = .ok (.invokevirtual 240, 3) := by decide +kernel
theorem dX12_isProof_160 : decode cX12_isProof 160 = .ok (.iload_n 1, 1) := by decide +kernel
theorem dX12_isProof_161 : decode cX12_isProof 161 = .ok (.iload_n 2, 1) := by decide +kernel
theorem dX12_isProof_162 : decode cX12_isProof 162 = .ok (.iload_n 3, 1) := by decide +kernel
theorem dX12_isProof_163 : decode cX12_isProof 163 = .ok (.invokevirtual 289, 3) := by decide +kernel
theorem dX12_isProof_166 : decode cX12_isProof 166 = .ok (.ishr, 1) := by decide +kernel
theorem dX12_isProof_167 : decode cX12_isProof 167 = .ok (.iconst 1, 1) := by decide +kernel
theorem dX12_isProof_168 : decode cX12_isProof 168 = .ok (.iand, 1) := by decide +kernel
theorem dX12_isProof_169 : decode cX12_isProof 169 = .ok (.ifCond .ne 7, 3) := by decide +kernel
theorem dX12_isProof_172 : decode cX12_isProof 172 = .ok (.iconst 1, 1) := by decide +kernel
theorem dX12_isProof_173 : decode cX12_isProof 173 = .ok (.goto 4, 3) := by decide +kernel
theorem dX12_isProof_176 : decode cX12_isProof 176 = .ok (.iconst 0, 1) := by decide +kernel
theorem dX12_isProof_177 : decode cX12_isProof 177 = .ok (.ireturn, 1) := by decide +kernel
theorem dX12_proves_0 : decode cX12_proves 0 = .ok (.iload_n 3, 1) := by decide +kernel
theorem dX12_proves_1 : decode cX12_proves 1 = .ok (.iconst 2, 1) := by decide +kernel
theorem dX12_proves_2 : decode cX12_proves 2 = .ok (.iconst 5, 1) := by decide +kernel
theorem dX12_proves_3 : decode cX12_proves 3 = .ok (.invokestatic 72, 3) := by decide +kernel
theorem dX12_proves_6 : decode cX12_proves 6 = .ok (.ifCond .eq 25, 3) := by decide +kernel
theorem dX12_proves_9 : decode cX12_proves 9 = .ok (.iload_n 1, 1) := by decide +kernel
theorem dX12_proves_10 : decode cX12_proves 10 = .ok (.iconst 0, 1) := by decide +kernel
theorem dX12_proves_11 : decode cX12_proves 11 = .ok (.iload_n 3, 1) := by decide +kernel
theorem dX12_proves_12 : decode cX12_proves 12 = .ok (.iconst 1, 1) := by decide +kernel
theorem dX12_proves_13 : decode cX12_proves 13 = .ok (.isub, 1) := by decide +kernel
theorem dX12_proves_14 : decode cX12_proves 14 = .ok (.invokestatic 72, 3) := by decide +kernel
theorem dX12_proves_17 : decode cX12_proves 17 = .ok (.ifCond .eq 14, 3) := by decide +kernel
theorem dX12_proves_20 : decode cX12_proves 20 = .ok (.iload_n 2, 1) := by decide +kernel
theorem dX12_proves_21 : decode cX12_proves 21 = .ok (.iconst 0, 1) := by decide +kernel
theorem dX12_proves_22 : decode cX12_proves 22 = .ok (.iload_n 3, 1) := by decide +kernel
theorem dX12_proves_23 : decode cX12_proves 23 = .ok (.iconst 1, 1) := by decide +kernel
theorem dX12_proves_24 : decode cX12_proves 24 = .ok (.isub, 1) := by decide +kernel
theorem dX12_proves_25 : decode cX12_proves 25 = .ok (.invokestatic 72, 3) := by decide +kernel
theorem dX12_proves_28 : decode cX12_proves 28 = .ok (.ifCond .ne 5, 3) := by decide +kernel
theorem dX12_proves_31 : decode cX12_proves 31 = .ok (.iconst (-1), 1) := by decide +kernel
theorem dX12_proves_32 : decode cX12_proves 32 = .ok (.ireturn, 1) := by decide +kernel
theorem dX12_proves_33 : decode cX12_proves 33 = .ok (.aload_n 0, 1) := by decide +kernel
theorem dX12_proves_34 : decode cX12_proves 34 = .ok (.invokevirtual 120, 3) := by decide +kernel
theorem dX12_proves_37 : decode cX12_proves 37 = .ok (.aload_n 0, 1) := by decide +kernel
theorem dX12_proves_38 : decode cX12_proves 38 = .ok (.iload_n 1, 1) := by decide +kernel
theorem dX12_proves_39 : decode cX12_proves 39 = .ok (.iload_n 2, 1) := by decide +kernel
theorem dX12_proves_40 : decode cX12_proves 40 = .ok (.iload_n 3, 1) := by decide +kernel
theorem dX12_proves_41 : decode cX12_proves 41 = .ok (.invokevirtual 297, 3) := by decide +kernel
theorem dX12_proves_44 : decode cX12_proves 44 = .ok (.ifCond .eq 7, 3) := by decide +kernel
theorem dX12_proves_47 : decode cX12_proves 47 = .ok (.iconst 1, 1) := by decide +kernel
theorem dX12_proves_48 : decode cX12_proves 48 = .ok (.goto 4, 3) := by decide +kernel
theorem dX12_proves_51 : decode cX12_proves 51 = .ok (.iconst 0, 1) := by decide +kernel
theorem dX12_proves_52 : decode cX12_proves 52 = .ok (.ireturn, 1) := by decide +kernel
theorem dX12_proof_0 : decode cX12_proof 0 = .ok (.aload_n 0, 1) := by decide +kernel
theorem dX12_proof_1 : decode cX12_proof 1 = .ok (.invokevirtual 120, 3) := by decide +kernel
theorem dX12_proof_4 : decode cX12_proof 4 = .ok (.iconst 2, 1) := by decide +kernel
theorem dX12_proof_5 : decode cX12_proof 5 = .ok (.istore_n 1, 1) := by decide +kernel
theorem dX12_proof_6 : decode cX12_proof 6 = .ok (.iload_n 1, 1) := by decide +kernel
theorem dX12_proof_7 : decode cX12_proof 7 = .ok (.bipush 6, 2) := by decide +kernel
theorem dX12_proof_9 : decode cX12_proof 9 = .ok (.if_icmp .ge 57, 3) := by decide +kernel
theorem dX12_proof_12 : decode cX12_proof 12 = .ok (.iconst 0, 1) := by decide +kernel
theorem dX12_proof_13 : decode cX12_proof 13 = .ok (.istore_n 2, 1) := by decide +kernel
theorem dX12_proof_14 : decode cX12_proof 14 = .ok (.iload_n 2, 1) := by decide +kernel
theorem dX12_proof_15 : decode cX12_proof 15 = .ok (.iload_n 1, 1) := by decide +kernel
theorem dX12_proof_16 : decode cX12_proof 16 = .ok (.if_icmp .ge 44, 3) := by decide +kernel
theorem dX12_proof_19 : decode cX12_proof 19 = .ok (.iconst 0, 1) := by decide +kernel
theorem dX12_proof_20 : decode cX12_proof 20 = .ok (.istore_n 3, 1) := by decide +kernel
theorem dX12_proof_21 : decode cX12_proof 21 = .ok (.iload_n 3, 1) := by decide +kernel
theorem dX12_proof_22 : decode cX12_proof 22 = .ok (.iload_n 1, 1) := by decide +kernel
theorem dX12_proof_23 : decode cX12_proof 23 = .ok (.if_icmp .ge 31, 3) := by decide +kernel
theorem dX12_proof_26 : decode cX12_proof 26 = .ok (.aload_n 0, 1) := by decide +kernel
theorem dX12_proof_27 : decode cX12_proof 27 = .ok (.iload_n 2, 1) := by decide +kernel
theorem dX12_proof_28 : decode cX12_proof 28 = .ok (.iload_n 3, 1) := by decide +kernel
theorem dX12_proof_29 : decode cX12_proof 29 = .ok (.iload_n 1, 1) := by decide +kernel
theorem dX12_proof_30 : decode cX12_proof 30 = .ok (.invokevirtual 297, 3) := by decide +kernel
theorem dX12_proof_33 : decode cX12_proof 33 = .ok (.ifCond .eq 15, 3) := by decide +kernel
theorem dX12_proof_36 : decode cX12_proof 36 = .ok (.bipush 100, 2) := by decide +kernel
theorem dX12_proof_38 : decode cX12_proof 38 = .ok (.iload_n 1, 1) := by decide +kernel
theorem dX12_proof_39 : decode cX12_proof 39 = .ok (.imul, 1) := by decide +kernel
theorem dX12_proof_40 : decode cX12_proof 40 = .ok (.bipush 10, 2) := by decide +kernel
theorem dX12_proof_42 : decode cX12_proof 42 = .ok (.iload_n 2, 1) := by decide +kernel
theorem dX12_proof_43 : decode cX12_proof 43 = .ok (.imul, 1) := by decide +kernel
theorem dX12_proof_44 : decode cX12_proof 44 = .ok (.iadd, 1) := by decide +kernel
theorem dX12_proof_45 : decode cX12_proof 45 = .ok (.iload_n 3, 1) := by decide +kernel
theorem dX12_proof_46 : decode cX12_proof 46 = .ok (.iadd, 1) := by decide +kernel
theorem dX12_proof_47 : decode cX12_proof 47 = .ok (.ireturn, 1) := by decide +kernel
theorem dX12_proof_48 : decode cX12_proof 48 = .ok (.iinc 3 1, 3) := by decide +kernel
theorem dX12_proof_51 : decode cX12_proof 51 = .ok (.goto (-30), 3) := by decide +kernel
theorem dX12_proof_54 : decode cX12_proof 54 = .ok (.iinc 2 1, 3) := by decide +kernel
theorem dX12_proof_57 : decode cX12_proof 57 = .ok (.goto (-43), 3) := by decide +kernel
theorem dX12_proof_60 : decode cX12_proof 60 = .ok (.iinc 1 1, 3) := by decide +kernel
theorem dX12_proof_63 : decode cX12_proof 63 = .ok (.goto (-57), 3) := by decide +kernel
theorem dX12_proof_66 : decode cX12_proof 66 = .ok (.bipush (-9), 2) := by decide +kernel
theorem dX12_proof_68 : decode cX12_proof 68 = .ok (.ireturn, 1) := by decide +kernel
theorem dJ6_bitCount_0f7a4_0 : decode cJ6_bitCount_0f7a4 0 = .ok (.iload_n 0, 1) := by decide +kernel
theorem dJ6_bitCount_0f7a4_1 : decode cJ6_bitCount_0f7a4 1 = .ok (.iload_n 0, 1) := by decide +kernel
theorem dJ6_bitCount_0f7a4_2 : decode cJ6_bitCount_0f7a4 2 = .ok (.iconst 1, 1) := by decide +kernel
theorem dJ6_bitCount_0f7a4_3 : decode cJ6_bitCount_0f7a4 3 = .ok (.iushr, 1) := by decide +kernel
theorem dJ6_bitCount_0f7a4_4 : decode cJ6_bitCount_0f7a4 4 = .ok (.ldc_w 265, 3) := by decide +kernel
theorem dJ6_bitCount_0f7a4_7 : decode cJ6_bitCount_0f7a4 7 = .ok (.iand, 1) := by decide +kernel
theorem dJ6_bitCount_0f7a4_8 : decode cJ6_bitCount_0f7a4 8 = .ok (.isub, 1) := by decide +kernel
theorem dJ6_bitCount_0f7a4_9 : decode cJ6_bitCount_0f7a4 9 = .ok (.istore_n 0, 1) := by decide +kernel
theorem dJ6_bitCount_0f7a4_10 : decode cJ6_bitCount_0f7a4 10 = .ok (.iload_n 0, 1) := by decide +kernel
theorem dJ6_bitCount_0f7a4_11 : decode cJ6_bitCount_0f7a4 11 = .ok (.ldc_w 266, 3) := by decide +kernel
theorem dJ6_bitCount_0f7a4_14 : decode cJ6_bitCount_0f7a4 14 = .ok (.iand, 1) := by decide +kernel
theorem dJ6_bitCount_0f7a4_15 : decode cJ6_bitCount_0f7a4 15 = .ok (.iload_n 0, 1) := by decide +kernel
theorem dJ6_bitCount_0f7a4_16 : decode cJ6_bitCount_0f7a4 16 = .ok (.iconst 2, 1) := by decide +kernel
theorem dJ6_bitCount_0f7a4_17 : decode cJ6_bitCount_0f7a4 17 = .ok (.iushr, 1) := by decide +kernel
theorem dJ6_bitCount_0f7a4_18 : decode cJ6_bitCount_0f7a4 18 = .ok (.ldc_w 266, 3) := by decide +kernel
theorem dJ6_bitCount_0f7a4_21 : decode cJ6_bitCount_0f7a4 21 = .ok (.iand, 1) := by decide +kernel
theorem dJ6_bitCount_0f7a4_22 : decode cJ6_bitCount_0f7a4 22 = .ok (.iadd, 1) := by decide +kernel
theorem dJ6_bitCount_0f7a4_23 : decode cJ6_bitCount_0f7a4 23 = .ok (.istore_n 0, 1) := by decide +kernel
theorem dJ6_bitCount_0f7a4_24 : decode cJ6_bitCount_0f7a4 24 = .ok (.iload_n 0, 1) := by decide +kernel
theorem dJ6_bitCount_0f7a4_25 : decode cJ6_bitCount_0f7a4 25 = .ok (.iload_n 0, 1) := by decide +kernel
theorem dJ6_bitCount_0f7a4_26 : decode cJ6_bitCount_0f7a4 26 = .ok (.iconst 4, 1) := by decide +kernel
theorem dJ6_bitCount_0f7a4_27 : decode cJ6_bitCount_0f7a4 27 = .ok (.iushr, 1) := by decide +kernel
theorem dJ6_bitCount_0f7a4_28 : decode cJ6_bitCount_0f7a4 28 = .ok (.iadd, 1) := by decide +kernel
theorem dJ6_bitCount_0f7a4_29 : decode cJ6_bitCount_0f7a4 29 = .ok (.ldc_w 267, 3) := by decide +kernel
theorem dJ6_bitCount_0f7a4_32 : decode cJ6_bitCount_0f7a4 32 = .ok (.iand, 1) := by decide +kernel
theorem dJ6_bitCount_0f7a4_33 : decode cJ6_bitCount_0f7a4 33 = .ok (.istore_n 0, 1) := by decide +kernel
theorem dJ6_bitCount_0f7a4_34 : decode cJ6_bitCount_0f7a4 34 = .ok (.iload_n 0, 1) := by decide +kernel
theorem dJ6_bitCount_0f7a4_35 : decode cJ6_bitCount_0f7a4 35 = .ok (.iload_n 0, 1) := by decide +kernel
theorem dJ6_bitCount_0f7a4_36 : decode cJ6_bitCount_0f7a4 36 = .ok (.bipush 8, 2) := by decide +kernel
theorem dJ6_bitCount_0f7a4_38 : decode cJ6_bitCount_0f7a4 38 = .ok (.iushr, 1) := by decide +kernel
theorem dJ6_bitCount_0f7a4_39 : decode cJ6_bitCount_0f7a4 39 = .ok (.iadd, 1) := by decide +kernel
theorem dJ6_bitCount_0f7a4_40 : decode cJ6_bitCount_0f7a4 40 = .ok (.istore_n 0, 1) := by decide +kernel
theorem dJ6_bitCount_0f7a4_41 : decode cJ6_bitCount_0f7a4 41 = .ok (.iload_n 0, 1) := by decide +kernel
theorem dJ6_bitCount_0f7a4_42 : decode cJ6_bitCount_0f7a4 42 = .ok (.iload_n 0, 1) := by decide +kernel
theorem dJ6_bitCount_0f7a4_43 : decode cJ6_bitCount_0f7a4 43 = .ok (.bipush 16, 2) := by decide +kernel
theorem dJ6_bitCount_0f7a4_45 : decode cJ6_bitCount_0f7a4 45 = .ok (.iushr, 1) := by decide +kernel
theorem dJ6_bitCount_0f7a4_46 : decode cJ6_bitCount_0f7a4 46 = .ok (.iadd, 1) := by decide +kernel
theorem dJ6_bitCount_0f7a4_47 : decode cJ6_bitCount_0f7a4 47 = .ok (.istore_n 0, 1) := by decide +kernel
theorem dJ6_bitCount_0f7a4_48 : decode cJ6_bitCount_0f7a4 48 = .ok (.iload_n 0, 1) := by decide +kernel
theorem dJ6_bitCount_0f7a4_49 : decode cJ6_bitCount_0f7a4 49 = .ok (.bipush 63, 2) := by decide +kernel
theorem dJ6_bitCount_0f7a4_51 : decode cJ6_bitCount_0f7a4 51 = .ok (.iand, 1) := by decide +kernel
theorem dJ6_bitCount_0f7a4_52 : decode cJ6_bitCount_0f7a4 52 = .ok (.ireturn, 1) := by decide +kernel
theorem dJ13_bitCount_95d88_0 : decode cJ13_bitCount_95d88 0 = .ok (.lload_n 0, 1) := by decide +kernel
theorem dJ13_bitCount_95d88_1 : decode cJ13_bitCount_95d88 1 = .ok (.lload_n 0, 1) := by decide +kernel
theorem dJ13_bitCount_95d88_2 : decode cJ13_bitCount_95d88 2 = .ok (.iconst 1, 1) := by decide +kernel
theorem dJ13_bitCount_95d88_3 : decode cJ13_bitCount_95d88 3 = .ok (.lushr, 1) := by decide +kernel
theorem dJ13_bitCount_95d88_4 : decode cJ13_bitCount_95d88 4 = .ok (.ldc2_w 314, 3) := by decide +kernel
theorem dJ13_bitCount_95d88_7 : decode cJ13_bitCount_95d88 7 = .ok (.land, 1) := by decide +kernel
theorem dJ13_bitCount_95d88_8 : decode cJ13_bitCount_95d88 8 = .ok (.lsub, 1) := by decide +kernel
theorem dJ13_bitCount_95d88_9 : decode cJ13_bitCount_95d88 9 = .ok (.lstore_n 0, 1) := by decide +kernel
theorem dJ13_bitCount_95d88_10 : decode cJ13_bitCount_95d88 10 = .ok (.lload_n 0, 1) := by decide +kernel
theorem dJ13_bitCount_95d88_11 : decode cJ13_bitCount_95d88 11 = .ok (.ldc2_w 316, 3) := by decide +kernel
theorem dJ13_bitCount_95d88_14 : decode cJ13_bitCount_95d88 14 = .ok (.land, 1) := by decide +kernel
theorem dJ13_bitCount_95d88_15 : decode cJ13_bitCount_95d88 15 = .ok (.lload_n 0, 1) := by decide +kernel
theorem dJ13_bitCount_95d88_16 : decode cJ13_bitCount_95d88 16 = .ok (.iconst 2, 1) := by decide +kernel
theorem dJ13_bitCount_95d88_17 : decode cJ13_bitCount_95d88 17 = .ok (.lushr, 1) := by decide +kernel
theorem dJ13_bitCount_95d88_18 : decode cJ13_bitCount_95d88 18 = .ok (.ldc2_w 316, 3) := by decide +kernel
theorem dJ13_bitCount_95d88_21 : decode cJ13_bitCount_95d88 21 = .ok (.land, 1) := by decide +kernel
theorem dJ13_bitCount_95d88_22 : decode cJ13_bitCount_95d88 22 = .ok (.ladd, 1) := by decide +kernel
theorem dJ13_bitCount_95d88_23 : decode cJ13_bitCount_95d88 23 = .ok (.lstore_n 0, 1) := by decide +kernel
theorem dJ13_bitCount_95d88_24 : decode cJ13_bitCount_95d88 24 = .ok (.lload_n 0, 1) := by decide +kernel
theorem dJ13_bitCount_95d88_25 : decode cJ13_bitCount_95d88 25 = .ok (.lload_n 0, 1) := by decide +kernel
theorem dJ13_bitCount_95d88_26 : decode cJ13_bitCount_95d88 26 = .ok (.iconst 4, 1) := by decide +kernel
theorem dJ13_bitCount_95d88_27 : decode cJ13_bitCount_95d88 27 = .ok (.lushr, 1) := by decide +kernel
theorem dJ13_bitCount_95d88_28 : decode cJ13_bitCount_95d88 28 = .ok (.ladd, 1) := by decide +kernel
theorem dJ13_bitCount_95d88_29 : decode cJ13_bitCount_95d88 29 = .ok (.ldc2_w 318, 3) := by decide +kernel
theorem dJ13_bitCount_95d88_32 : decode cJ13_bitCount_95d88 32 = .ok (.land, 1) := by decide +kernel
theorem dJ13_bitCount_95d88_33 : decode cJ13_bitCount_95d88 33 = .ok (.lstore_n 0, 1) := by decide +kernel
theorem dJ13_bitCount_95d88_34 : decode cJ13_bitCount_95d88 34 = .ok (.lload_n 0, 1) := by decide +kernel
theorem dJ13_bitCount_95d88_35 : decode cJ13_bitCount_95d88 35 = .ok (.lload_n 0, 1) := by decide +kernel
theorem dJ13_bitCount_95d88_36 : decode cJ13_bitCount_95d88 36 = .ok (.bipush 8, 2) := by decide +kernel
theorem dJ13_bitCount_95d88_38 : decode cJ13_bitCount_95d88 38 = .ok (.lushr, 1) := by decide +kernel
theorem dJ13_bitCount_95d88_39 : decode cJ13_bitCount_95d88 39 = .ok (.ladd, 1) := by decide +kernel
theorem dJ13_bitCount_95d88_40 : decode cJ13_bitCount_95d88 40 = .ok (.lstore_n 0, 1) := by decide +kernel
theorem dJ13_bitCount_95d88_41 : decode cJ13_bitCount_95d88 41 = .ok (.lload_n 0, 1) := by decide +kernel
theorem dJ13_bitCount_95d88_42 : decode cJ13_bitCount_95d88 42 = .ok (.lload_n 0, 1) := by decide +kernel
theorem dJ13_bitCount_95d88_43 : decode cJ13_bitCount_95d88 43 = .ok (.bipush 16, 2) := by decide +kernel
theorem dJ13_bitCount_95d88_45 : decode cJ13_bitCount_95d88 45 = .ok (.lushr, 1) := by decide +kernel
theorem dJ13_bitCount_95d88_46 : decode cJ13_bitCount_95d88 46 = .ok (.ladd, 1) := by decide +kernel
theorem dJ13_bitCount_95d88_47 : decode cJ13_bitCount_95d88 47 = .ok (.lstore_n 0, 1) := by decide +kernel
theorem dJ13_bitCount_95d88_48 : decode cJ13_bitCount_95d88 48 = .ok (.lload_n 0, 1) := by decide +kernel
theorem dJ13_bitCount_95d88_49 : decode cJ13_bitCount_95d88 49 = .ok (.lload_n 0, 1) := by decide +kernel
theorem dJ13_bitCount_95d88_50 : decode cJ13_bitCount_95d88 50 = .ok (.bipush 32, 2) := by decide +kernel
theorem dJ13_bitCount_95d88_52 : decode cJ13_bitCount_95d88 52 = .ok (.lushr, 1) := by decide +kernel
theorem dJ13_bitCount_95d88_53 : decode cJ13_bitCount_95d88 53 = .ok (.ladd, 1) := by decide +kernel
theorem dJ13_bitCount_95d88_54 : decode cJ13_bitCount_95d88 54 = .ok (.lstore_n 0, 1) := by decide +kernel
theorem dJ13_bitCount_95d88_55 : decode cJ13_bitCount_95d88 55 = .ok (.lload_n 0, 1) := by decide +kernel
theorem dJ13_bitCount_95d88_56 : decode cJ13_bitCount_95d88 56 = .ok (.l2i, 1) := by decide +kernel
theorem dJ13_bitCount_95d88_57 : decode cJ13_bitCount_95d88 57 = .ok (.bipush 127, 2) := by decide +kernel
theorem dJ13_bitCount_95d88_59 : decode cJ13_bitCount_95d88 59 = .ok (.iand, 1) := by decide +kernel
theorem dJ13_bitCount_95d88_60 : decode cJ13_bitCount_95d88 60 = .ok (.ireturn, 1) := by decide +kernel
theorem dJ9_max_7cf53_0 : decode cJ9_max_7cf53 0 = .ok (.iload_n 0, 1) := by decide +kernel
theorem dJ9_max_7cf53_1 : decode cJ9_max_7cf53 1 = .ok (.iload_n 1, 1) := by decide +kernel
theorem dJ9_max_7cf53_2 : decode cJ9_max_7cf53 2 = .ok (.if_icmp .lt 7, 3) := by decide +kernel
theorem dJ9_max_7cf53_5 : decode cJ9_max_7cf53 5 = .ok (.iload_n 0, 1) := by decide +kernel
theorem dJ9_max_7cf53_6 : decode cJ9_max_7cf53 6 = .ok (.goto 4, 3) := by decide +kernel
theorem dJ9_max_7cf53_9 : decode cJ9_max_7cf53 9 = .ok (.iload_n 1, 1) := by decide +kernel
theorem dJ9_max_7cf53_10 : decode cJ9_max_7cf53 10 = .ok (.ireturn, 1) := by decide +kernel
theorem dJ9_min_7cf53_0 : decode cJ9_min_7cf53 0 = .ok (.iload_n 0, 1) := by decide +kernel
theorem dJ9_min_7cf53_1 : decode cJ9_min_7cf53 1 = .ok (.iload_n 1, 1) := by decide +kernel
theorem dJ9_min_7cf53_2 : decode cJ9_min_7cf53 2 = .ok (.if_icmp .gt 7, 3) := by decide +kernel
theorem dJ9_min_7cf53_5 : decode cJ9_min_7cf53 5 = .ok (.iload_n 0, 1) := by decide +kernel
theorem dJ9_min_7cf53_6 : decode cJ9_min_7cf53 6 = .ok (.goto 4, 3) := by decide +kernel
theorem dJ9_min_7cf53_9 : decode cJ9_min_7cf53 9 = .ok (.iload_n 1, 1) := by decide +kernel
theorem dJ9_min_7cf53_10 : decode cJ9_min_7cf53 10 = .ok (.ireturn, 1) := by decide +kernel
theorem dL_law_0 : decode cL_law 0 = .ok (.new 7, 3) := by decide +kernel
theorem dL_law_3 : decode cL_law 3 = .ok (.dup, 1) := by decide +kernel
theorem dL_law_4 : decode cL_law 4 = .ok (.invokespecial 9, 3) := by decide +kernel
theorem dL_law_7 : decode cL_law 7 = .ok (.astore_n 1, 1) := by decide +kernel
theorem dL_law_8 : decode cL_law 8 = .ok (.new 10, 3) := by decide +kernel
theorem dL_law_11 : decode cL_law 11 = .ok (.dup, 1) := by decide +kernel
theorem dL_law_12 : decode cL_law 12 = .ok (.invokespecial 12, 3) := by decide +kernel
theorem dL_law_15 : decode cL_law 15 = .ok (.astore_n 2, 1) := by decide +kernel
theorem dL_law_16 : decode cL_law 16 = .ok (.iconst 0, 1) := by decide +kernel
theorem dL_law_17 : decode cL_law 17 = .ok (.istore_n 3, 1) := by decide +kernel
theorem dL_law_18 : decode cL_law 18 = .ok (.iload_n 3, 1) := by decide +kernel
theorem dL_law_19 : decode cL_law 19 = .ok (.aload_n 0, 1) := by decide +kernel
theorem dL_law_20 : decode cL_law 20 = .ok (.arraylength, 1) := by decide +kernel
theorem dL_law_21 : decode cL_law 21 = .ok (.iconst 4, 1) := by decide +kernel
theorem dL_law_22 : decode cL_law 22 = .ok (.isub, 1) := by decide +kernel
theorem dL_law_23 : decode cL_law 23 = .ok (.if_icmp .gt 847, 3) := by decide +kernel
theorem dL_law_26 : decode cL_law 26 = .ok (.aload_n 0, 1) := by decide +kernel
theorem dL_law_27 : decode cL_law 27 = .ok (.iload_n 3, 1) := by decide +kernel
theorem dL_law_28 : decode cL_law 28 = .ok (.iaload, 1) := by decide +kernel
theorem dL_law_29 : decode cL_law 29 = .ok (.bipush 31, 2) := by decide +kernel
theorem dL_law_31 : decode cL_law 31 = .ok (.iand, 1) := by decide +kernel
theorem dL_law_32 : decode cL_law 32 = .ok (.tableswitch 832 0 27 #[128, 161, 194, 227, 270, 293, 326, 349, 372, 395, 418, 451, 484, 517, 540, 553, 566, 579, 592, 625, 658, 671, 704, 717, 740, 763, 806, 819], 128) := by decide +kernel
theorem dL_law_160 : decode cL_law 160 = .ok (.aload_n 1, 1) := by decide +kernel
theorem dL_law_161 : decode cL_law 161 = .ok (.aload_n 0, 1) := by decide +kernel
theorem dL_law_162 : decode cL_law 162 = .ok (.iload_n 3, 1) := by decide +kernel
theorem dL_law_163 : decode cL_law 163 = .ok (.iconst 1, 1) := by decide +kernel
theorem dL_law_164 : decode cL_law 164 = .ok (.iadd, 1) := by decide +kernel
theorem dL_law_165 : decode cL_law 165 = .ok (.iaload, 1) := by decide +kernel
theorem dL_law_166 : decode cL_law 166 = .ok (.aload_n 0, 1) := by decide +kernel
theorem dL_law_167 : decode cL_law 167 = .ok (.iload_n 3, 1) := by decide +kernel
theorem dL_law_168 : decode cL_law 168 = .ok (.iconst 2, 1) := by decide +kernel
theorem dL_law_169 : decode cL_law 169 = .ok (.iadd, 1) := by decide +kernel
theorem dL_law_170 : decode cL_law 170 = .ok (.iaload, 1) := by decide +kernel
theorem dL_law_171 : decode cL_law 171 = .ok (.invokevirtual 13, 3) := by decide +kernel
theorem dL_law_174 : decode cL_law 174 = .ok (.aload_n 2, 1) := by decide +kernel
theorem dL_law_175 : decode cL_law 175 = .ok (.aload_n 0, 1) := by decide +kernel
theorem dL_law_176 : decode cL_law 176 = .ok (.iload_n 3, 1) := by decide +kernel
theorem dL_law_177 : decode cL_law 177 = .ok (.iconst 1, 1) := by decide +kernel
theorem dL_law_178 : decode cL_law 178 = .ok (.iadd, 1) := by decide +kernel
theorem dL_law_179 : decode cL_law 179 = .ok (.iaload, 1) := by decide +kernel
theorem dL_law_180 : decode cL_law 180 = .ok (.aload_n 0, 1) := by decide +kernel
theorem dL_law_181 : decode cL_law 181 = .ok (.iload_n 3, 1) := by decide +kernel
theorem dL_law_182 : decode cL_law 182 = .ok (.iconst 2, 1) := by decide +kernel
theorem dL_law_183 : decode cL_law 183 = .ok (.iadd, 1) := by decide +kernel
theorem dL_law_184 : decode cL_law 184 = .ok (.iaload, 1) := by decide +kernel
theorem dL_law_185 : decode cL_law 185 = .ok (.invokevirtual 17, 3) := by decide +kernel
theorem dL_law_188 : decode cL_law 188 = .ok (.if_icmp .eq 676, 3) := by decide +kernel
theorem dL_law_191 : decode cL_law 191 = .ok (.iconst 0, 1) := by decide +kernel
theorem dL_law_192 : decode cL_law 192 = .ok (.ireturn, 1) := by decide +kernel
theorem dL_law_193 : decode cL_law 193 = .ok (.aload_n 1, 1) := by decide +kernel
theorem dL_law_194 : decode cL_law 194 = .ok (.aload_n 0, 1) := by decide +kernel
theorem dL_law_195 : decode cL_law 195 = .ok (.iload_n 3, 1) := by decide +kernel
theorem dL_law_196 : decode cL_law 196 = .ok (.iconst 1, 1) := by decide +kernel
theorem dL_law_197 : decode cL_law 197 = .ok (.iadd, 1) := by decide +kernel
theorem dL_law_198 : decode cL_law 198 = .ok (.iaload, 1) := by decide +kernel
theorem dL_law_199 : decode cL_law 199 = .ok (.aload_n 0, 1) := by decide +kernel
theorem dL_law_200 : decode cL_law 200 = .ok (.iload_n 3, 1) := by decide +kernel
theorem dL_law_201 : decode cL_law 201 = .ok (.iconst 2, 1) := by decide +kernel
theorem dL_law_202 : decode cL_law 202 = .ok (.iadd, 1) := by decide +kernel
theorem dL_law_203 : decode cL_law 203 = .ok (.iaload, 1) := by decide +kernel
theorem dL_law_204 : decode cL_law 204 = .ok (.invokevirtual 18, 3) := by decide +kernel
theorem dL_law_207 : decode cL_law 207 = .ok (.aload_n 2, 1) := by decide +kernel
theorem dL_law_208 : decode cL_law 208 = .ok (.aload_n 0, 1) := by decide +kernel
theorem dL_law_209 : decode cL_law 209 = .ok (.iload_n 3, 1) := by decide +kernel
theorem dL_law_210 : decode cL_law 210 = .ok (.iconst 1, 1) := by decide +kernel
theorem dL_law_211 : decode cL_law 211 = .ok (.iadd, 1) := by decide +kernel
theorem dL_law_212 : decode cL_law 212 = .ok (.iaload, 1) := by decide +kernel
theorem dL_law_213 : decode cL_law 213 = .ok (.aload_n 0, 1) := by decide +kernel
theorem dL_law_214 : decode cL_law 214 = .ok (.iload_n 3, 1) := by decide +kernel
theorem dL_law_215 : decode cL_law 215 = .ok (.iconst 2, 1) := by decide +kernel
theorem dL_law_216 : decode cL_law 216 = .ok (.iadd, 1) := by decide +kernel
theorem dL_law_217 : decode cL_law 217 = .ok (.iaload, 1) := by decide +kernel
theorem dL_law_218 : decode cL_law 218 = .ok (.invokevirtual 21, 3) := by decide +kernel
theorem dL_law_221 : decode cL_law 221 = .ok (.if_icmp .eq 643, 3) := by decide +kernel
theorem dL_law_224 : decode cL_law 224 = .ok (.iconst 0, 1) := by decide +kernel
theorem dL_law_225 : decode cL_law 225 = .ok (.ireturn, 1) := by decide +kernel
theorem dL_law_226 : decode cL_law 226 = .ok (.aload_n 1, 1) := by decide +kernel
theorem dL_law_227 : decode cL_law 227 = .ok (.aload_n 0, 1) := by decide +kernel
theorem dL_law_228 : decode cL_law 228 = .ok (.iload_n 3, 1) := by decide +kernel
theorem dL_law_229 : decode cL_law 229 = .ok (.iconst 1, 1) := by decide +kernel
theorem dL_law_230 : decode cL_law 230 = .ok (.iadd, 1) := by decide +kernel
theorem dL_law_231 : decode cL_law 231 = .ok (.iaload, 1) := by decide +kernel
theorem dL_law_232 : decode cL_law 232 = .ok (.aload_n 0, 1) := by decide +kernel
theorem dL_law_233 : decode cL_law 233 = .ok (.iload_n 3, 1) := by decide +kernel
theorem dL_law_234 : decode cL_law 234 = .ok (.iconst 2, 1) := by decide +kernel
theorem dL_law_235 : decode cL_law 235 = .ok (.iadd, 1) := by decide +kernel
theorem dL_law_236 : decode cL_law 236 = .ok (.iaload, 1) := by decide +kernel
theorem dL_law_237 : decode cL_law 237 = .ok (.invokevirtual 22, 3) := by decide +kernel
theorem dL_law_240 : decode cL_law 240 = .ok (.aload_n 2, 1) := by decide +kernel
theorem dL_law_241 : decode cL_law 241 = .ok (.aload_n 0, 1) := by decide +kernel
theorem dL_law_242 : decode cL_law 242 = .ok (.iload_n 3, 1) := by decide +kernel
theorem dL_law_243 : decode cL_law 243 = .ok (.iconst 1, 1) := by decide +kernel
theorem dL_law_244 : decode cL_law 244 = .ok (.iadd, 1) := by decide +kernel
theorem dL_law_245 : decode cL_law 245 = .ok (.iaload, 1) := by decide +kernel
theorem dL_law_246 : decode cL_law 246 = .ok (.aload_n 0, 1) := by decide +kernel
theorem dL_law_247 : decode cL_law 247 = .ok (.iload_n 3, 1) := by decide +kernel
theorem dL_law_248 : decode cL_law 248 = .ok (.iconst 2, 1) := by decide +kernel
theorem dL_law_249 : decode cL_law 249 = .ok (.iadd, 1) := by decide +kernel
theorem dL_law_250 : decode cL_law 250 = .ok (.iaload, 1) := by decide +kernel
theorem dL_law_251 : decode cL_law 251 = .ok (.invokevirtual 25, 3) := by decide +kernel
theorem dL_law_254 : decode cL_law 254 = .ok (.if_icmp .eq 610, 3) := by decide +kernel
theorem dL_law_257 : decode cL_law 257 = .ok (.iconst 0, 1) := by decide +kernel
theorem dL_law_258 : decode cL_law 258 = .ok (.ireturn, 1) := by decide +kernel
theorem dL_law_259 : decode cL_law 259 = .ok (.aload_n 1, 1) := by decide +kernel
theorem dL_law_260 : decode cL_law 260 = .ok (.aload_n 0, 1) := by decide +kernel
theorem dL_law_261 : decode cL_law 261 = .ok (.iload_n 3, 1) := by decide +kernel
theorem dL_law_262 : decode cL_law 262 = .ok (.iconst 1, 1) := by decide +kernel
theorem dL_law_263 : decode cL_law 263 = .ok (.iadd, 1) := by decide +kernel
theorem dL_law_264 : decode cL_law 264 = .ok (.iaload, 1) := by decide +kernel
theorem dL_law_265 : decode cL_law 265 = .ok (.aload_n 0, 1) := by decide +kernel
theorem dL_law_266 : decode cL_law 266 = .ok (.iload_n 3, 1) := by decide +kernel
theorem dL_law_267 : decode cL_law 267 = .ok (.iconst 2, 1) := by decide +kernel
theorem dL_law_268 : decode cL_law 268 = .ok (.iadd, 1) := by decide +kernel
theorem dL_law_269 : decode cL_law 269 = .ok (.iaload, 1) := by decide +kernel
theorem dL_law_270 : decode cL_law 270 = .ok (.aload_n 0, 1) := by decide +kernel
theorem dL_law_271 : decode cL_law 271 = .ok (.iload_n 3, 1) := by decide +kernel
theorem dL_law_272 : decode cL_law 272 = .ok (.iconst 3, 1) := by decide +kernel
theorem dL_law_273 : decode cL_law 273 = .ok (.iadd, 1) := by decide +kernel
theorem dL_law_274 : decode cL_law 274 = .ok (.iaload, 1) := by decide +kernel
theorem dL_law_275 : decode cL_law 275 = .ok (.invokevirtual 26, 3) := by decide +kernel
theorem dL_law_278 : decode cL_law 278 = .ok (.aload_n 2, 1) := by decide +kernel
theorem dL_law_279 : decode cL_law 279 = .ok (.aload_n 0, 1) := by decide +kernel
theorem dL_law_280 : decode cL_law 280 = .ok (.iload_n 3, 1) := by decide +kernel
theorem dL_law_281 : decode cL_law 281 = .ok (.iconst 1, 1) := by decide +kernel
theorem dL_law_282 : decode cL_law 282 = .ok (.iadd, 1) := by decide +kernel
theorem dL_law_283 : decode cL_law 283 = .ok (.iaload, 1) := by decide +kernel
theorem dL_law_284 : decode cL_law 284 = .ok (.aload_n 0, 1) := by decide +kernel
theorem dL_law_285 : decode cL_law 285 = .ok (.iload_n 3, 1) := by decide +kernel
theorem dL_law_286 : decode cL_law 286 = .ok (.iconst 2, 1) := by decide +kernel
theorem dL_law_287 : decode cL_law 287 = .ok (.iadd, 1) := by decide +kernel
theorem dL_law_288 : decode cL_law 288 = .ok (.iaload, 1) := by decide +kernel
theorem dL_law_289 : decode cL_law 289 = .ok (.aload_n 0, 1) := by decide +kernel
theorem dL_law_290 : decode cL_law 290 = .ok (.iload_n 3, 1) := by decide +kernel
theorem dL_law_291 : decode cL_law 291 = .ok (.iconst 3, 1) := by decide +kernel
theorem dL_law_292 : decode cL_law 292 = .ok (.iadd, 1) := by decide +kernel
theorem dL_law_293 : decode cL_law 293 = .ok (.iaload, 1) := by decide +kernel
theorem dL_law_294 : decode cL_law 294 = .ok (.invokevirtual 30, 3) := by decide +kernel
theorem dL_law_297 : decode cL_law 297 = .ok (.if_icmp .eq 567, 3) := by decide +kernel
theorem dL_law_300 : decode cL_law 300 = .ok (.iconst 0, 1) := by decide +kernel
theorem dL_law_301 : decode cL_law 301 = .ok (.ireturn, 1) := by decide +kernel
theorem dL_law_302 : decode cL_law 302 = .ok (.aload_n 1, 1) := by decide +kernel
theorem dL_law_303 : decode cL_law 303 = .ok (.aload_n 0, 1) := by decide +kernel
theorem dL_law_304 : decode cL_law 304 = .ok (.iload_n 3, 1) := by decide +kernel
theorem dL_law_305 : decode cL_law 305 = .ok (.iconst 1, 1) := by decide +kernel
theorem dL_law_306 : decode cL_law 306 = .ok (.iadd, 1) := by decide +kernel
theorem dL_law_307 : decode cL_law 307 = .ok (.iaload, 1) := by decide +kernel
theorem dL_law_308 : decode cL_law 308 = .ok (.invokevirtual 31, 3) := by decide +kernel
theorem dL_law_311 : decode cL_law 311 = .ok (.aload_n 2, 1) := by decide +kernel
theorem dL_law_312 : decode cL_law 312 = .ok (.aload_n 0, 1) := by decide +kernel
theorem dL_law_313 : decode cL_law 313 = .ok (.iload_n 3, 1) := by decide +kernel
theorem dL_law_314 : decode cL_law 314 = .ok (.iconst 1, 1) := by decide +kernel
theorem dL_law_315 : decode cL_law 315 = .ok (.iadd, 1) := by decide +kernel
theorem dL_law_316 : decode cL_law 316 = .ok (.iaload, 1) := by decide +kernel
theorem dL_law_317 : decode cL_law 317 = .ok (.invokevirtual 35, 3) := by decide +kernel
theorem dL_law_320 : decode cL_law 320 = .ok (.if_icmp .eq 544, 3) := by decide +kernel
theorem dL_law_323 : decode cL_law 323 = .ok (.iconst 0, 1) := by decide +kernel
theorem dL_law_324 : decode cL_law 324 = .ok (.ireturn, 1) := by decide +kernel
theorem dL_law_325 : decode cL_law 325 = .ok (.aload_n 1, 1) := by decide +kernel
theorem dL_law_326 : decode cL_law 326 = .ok (.aload_n 0, 1) := by decide +kernel
theorem dL_law_327 : decode cL_law 327 = .ok (.iload_n 3, 1) := by decide +kernel
theorem dL_law_328 : decode cL_law 328 = .ok (.iconst 1, 1) := by decide +kernel
theorem dL_law_329 : decode cL_law 329 = .ok (.iadd, 1) := by decide +kernel
theorem dL_law_330 : decode cL_law 330 = .ok (.iaload, 1) := by decide +kernel
theorem dL_law_331 : decode cL_law 331 = .ok (.aload_n 0, 1) := by decide +kernel
theorem dL_law_332 : decode cL_law 332 = .ok (.iload_n 3, 1) := by decide +kernel
theorem dL_law_333 : decode cL_law 333 = .ok (.iconst 2, 1) := by decide +kernel
theorem dL_law_334 : decode cL_law 334 = .ok (.iadd, 1) := by decide +kernel
theorem dL_law_335 : decode cL_law 335 = .ok (.iaload, 1) := by decide +kernel
theorem dL_law_336 : decode cL_law 336 = .ok (.invokevirtual 36, 3) := by decide +kernel
theorem dL_law_339 : decode cL_law 339 = .ok (.aload_n 2, 1) := by decide +kernel
theorem dL_law_340 : decode cL_law 340 = .ok (.aload_n 0, 1) := by decide +kernel
theorem dL_law_341 : decode cL_law 341 = .ok (.iload_n 3, 1) := by decide +kernel
theorem dL_law_342 : decode cL_law 342 = .ok (.iconst 1, 1) := by decide +kernel
theorem dL_law_343 : decode cL_law 343 = .ok (.iadd, 1) := by decide +kernel
theorem dL_law_344 : decode cL_law 344 = .ok (.iaload, 1) := by decide +kernel
theorem dL_law_345 : decode cL_law 345 = .ok (.aload_n 0, 1) := by decide +kernel
theorem dL_law_346 : decode cL_law 346 = .ok (.iload_n 3, 1) := by decide +kernel
theorem dL_law_347 : decode cL_law 347 = .ok (.iconst 2, 1) := by decide +kernel
theorem dL_law_348 : decode cL_law 348 = .ok (.iadd, 1) := by decide +kernel
theorem dL_law_349 : decode cL_law 349 = .ok (.iaload, 1) := by decide +kernel
theorem dL_law_350 : decode cL_law 350 = .ok (.invokevirtual 39, 3) := by decide +kernel
theorem dL_law_353 : decode cL_law 353 = .ok (.if_icmp .eq 511, 3) := by decide +kernel
theorem dL_law_356 : decode cL_law 356 = .ok (.iconst 0, 1) := by decide +kernel
theorem dL_law_357 : decode cL_law 357 = .ok (.ireturn, 1) := by decide +kernel
theorem dL_law_358 : decode cL_law 358 = .ok (.aload_n 1, 1) := by decide +kernel
theorem dL_law_359 : decode cL_law 359 = .ok (.aload_n 0, 1) := by decide +kernel
theorem dL_law_360 : decode cL_law 360 = .ok (.iload_n 3, 1) := by decide +kernel
theorem dL_law_361 : decode cL_law 361 = .ok (.iconst 1, 1) := by decide +kernel
theorem dL_law_362 : decode cL_law 362 = .ok (.iadd, 1) := by decide +kernel
theorem dL_law_363 : decode cL_law 363 = .ok (.iaload, 1) := by decide +kernel
theorem dL_law_364 : decode cL_law 364 = .ok (.invokevirtual 40, 3) := by decide +kernel
theorem dL_law_367 : decode cL_law 367 = .ok (.aload_n 2, 1) := by decide +kernel
theorem dL_law_368 : decode cL_law 368 = .ok (.aload_n 0, 1) := by decide +kernel
theorem dL_law_369 : decode cL_law 369 = .ok (.iload_n 3, 1) := by decide +kernel
theorem dL_law_370 : decode cL_law 370 = .ok (.iconst 1, 1) := by decide +kernel
theorem dL_law_371 : decode cL_law 371 = .ok (.iadd, 1) := by decide +kernel
theorem dL_law_372 : decode cL_law 372 = .ok (.iaload, 1) := by decide +kernel
theorem dL_law_373 : decode cL_law 373 = .ok (.invokevirtual 43, 3) := by decide +kernel
theorem dL_law_376 : decode cL_law 376 = .ok (.if_icmp .eq 488, 3) := by decide +kernel
theorem dL_law_379 : decode cL_law 379 = .ok (.iconst 0, 1) := by decide +kernel
theorem dL_law_380 : decode cL_law 380 = .ok (.ireturn, 1) := by decide +kernel
theorem dL_law_381 : decode cL_law 381 = .ok (.aload_n 1, 1) := by decide +kernel
theorem dL_law_382 : decode cL_law 382 = .ok (.aload_n 0, 1) := by decide +kernel
theorem dL_law_383 : decode cL_law 383 = .ok (.iload_n 3, 1) := by decide +kernel
theorem dL_law_384 : decode cL_law 384 = .ok (.iconst 1, 1) := by decide +kernel
theorem dL_law_385 : decode cL_law 385 = .ok (.iadd, 1) := by decide +kernel
theorem dL_law_386 : decode cL_law 386 = .ok (.iaload, 1) := by decide +kernel
theorem dL_law_387 : decode cL_law 387 = .ok (.invokevirtual 44, 3) := by decide +kernel
theorem dL_law_390 : decode cL_law 390 = .ok (.aload_n 2, 1) := by decide +kernel
theorem dL_law_391 : decode cL_law 391 = .ok (.aload_n 0, 1) := by decide +kernel
theorem dL_law_392 : decode cL_law 392 = .ok (.iload_n 3, 1) := by decide +kernel
theorem dL_law_393 : decode cL_law 393 = .ok (.iconst 1, 1) := by decide +kernel
theorem dL_law_394 : decode cL_law 394 = .ok (.iadd, 1) := by decide +kernel
theorem dL_law_395 : decode cL_law 395 = .ok (.iaload, 1) := by decide +kernel
theorem dL_law_396 : decode cL_law 396 = .ok (.invokevirtual 47, 3) := by decide +kernel
theorem dL_law_399 : decode cL_law 399 = .ok (.if_icmp .eq 465, 3) := by decide +kernel
theorem dL_law_402 : decode cL_law 402 = .ok (.iconst 0, 1) := by decide +kernel
theorem dL_law_403 : decode cL_law 403 = .ok (.ireturn, 1) := by decide +kernel
theorem dL_law_404 : decode cL_law 404 = .ok (.aload_n 1, 1) := by decide +kernel
theorem dL_law_405 : decode cL_law 405 = .ok (.aload_n 0, 1) := by decide +kernel
theorem dL_law_406 : decode cL_law 406 = .ok (.iload_n 3, 1) := by decide +kernel
theorem dL_law_407 : decode cL_law 407 = .ok (.iconst 1, 1) := by decide +kernel
theorem dL_law_408 : decode cL_law 408 = .ok (.iadd, 1) := by decide +kernel
theorem dL_law_409 : decode cL_law 409 = .ok (.iaload, 1) := by decide +kernel
theorem dL_law_410 : decode cL_law 410 = .ok (.invokevirtual 48, 3) := by decide +kernel
theorem dL_law_413 : decode cL_law 413 = .ok (.aload_n 2, 1) := by decide +kernel
theorem dL_law_414 : decode cL_law 414 = .ok (.aload_n 0, 1) := by decide +kernel
theorem dL_law_415 : decode cL_law 415 = .ok (.iload_n 3, 1) := by decide +kernel
theorem dL_law_416 : decode cL_law 416 = .ok (.iconst 1, 1) := by decide +kernel
theorem dL_law_417 : decode cL_law 417 = .ok (.iadd, 1) := by decide +kernel
theorem dL_law_418 : decode cL_law 418 = .ok (.iaload, 1) := by decide +kernel
theorem dL_law_419 : decode cL_law 419 = .ok (.invokevirtual 51, 3) := by decide +kernel
theorem dL_law_422 : decode cL_law 422 = .ok (.if_icmp .eq 442, 3) := by decide +kernel
theorem dL_law_425 : decode cL_law 425 = .ok (.iconst 0, 1) := by decide +kernel
theorem dL_law_426 : decode cL_law 426 = .ok (.ireturn, 1) := by decide +kernel
theorem dL_law_427 : decode cL_law 427 = .ok (.aload_n 1, 1) := by decide +kernel
theorem dL_law_428 : decode cL_law 428 = .ok (.aload_n 0, 1) := by decide +kernel
theorem dL_law_429 : decode cL_law 429 = .ok (.iload_n 3, 1) := by decide +kernel
theorem dL_law_430 : decode cL_law 430 = .ok (.iconst 1, 1) := by decide +kernel
theorem dL_law_431 : decode cL_law 431 = .ok (.iadd, 1) := by decide +kernel
theorem dL_law_432 : decode cL_law 432 = .ok (.iaload, 1) := by decide +kernel
theorem dL_law_433 : decode cL_law 433 = .ok (.invokevirtual 52, 3) := by decide +kernel
theorem dL_law_436 : decode cL_law 436 = .ok (.aload_n 2, 1) := by decide +kernel
theorem dL_law_437 : decode cL_law 437 = .ok (.aload_n 0, 1) := by decide +kernel
theorem dL_law_438 : decode cL_law 438 = .ok (.iload_n 3, 1) := by decide +kernel
theorem dL_law_439 : decode cL_law 439 = .ok (.iconst 1, 1) := by decide +kernel
theorem dL_law_440 : decode cL_law 440 = .ok (.iadd, 1) := by decide +kernel
theorem dL_law_441 : decode cL_law 441 = .ok (.iaload, 1) := by decide +kernel
theorem dL_law_442 : decode cL_law 442 = .ok (.invokevirtual 55, 3) := by decide +kernel
theorem dL_law_445 : decode cL_law 445 = .ok (.if_icmp .eq 419, 3) := by decide +kernel
theorem dL_law_448 : decode cL_law 448 = .ok (.iconst 0, 1) := by decide +kernel
theorem dL_law_449 : decode cL_law 449 = .ok (.ireturn, 1) := by decide +kernel
theorem dL_law_450 : decode cL_law 450 = .ok (.aload_n 1, 1) := by decide +kernel
theorem dL_law_451 : decode cL_law 451 = .ok (.aload_n 0, 1) := by decide +kernel
theorem dL_law_452 : decode cL_law 452 = .ok (.iload_n 3, 1) := by decide +kernel
theorem dL_law_453 : decode cL_law 453 = .ok (.iconst 1, 1) := by decide +kernel
theorem dL_law_454 : decode cL_law 454 = .ok (.iadd, 1) := by decide +kernel
theorem dL_law_455 : decode cL_law 455 = .ok (.iaload, 1) := by decide +kernel
theorem dL_law_456 : decode cL_law 456 = .ok (.aload_n 0, 1) := by decide +kernel
theorem dL_law_457 : decode cL_law 457 = .ok (.iload_n 3, 1) := by decide +kernel
theorem dL_law_458 : decode cL_law 458 = .ok (.iconst 2, 1) := by decide +kernel
theorem dL_law_459 : decode cL_law 459 = .ok (.iadd, 1) := by decide +kernel
theorem dL_law_460 : decode cL_law 460 = .ok (.iaload, 1) := by decide +kernel
theorem dL_law_461 : decode cL_law 461 = .ok (.invokevirtual 56, 3) := by decide +kernel
theorem dL_law_464 : decode cL_law 464 = .ok (.aload_n 2, 1) := by decide +kernel
theorem dL_law_465 : decode cL_law 465 = .ok (.aload_n 0, 1) := by decide +kernel
theorem dL_law_466 : decode cL_law 466 = .ok (.iload_n 3, 1) := by decide +kernel
theorem dL_law_467 : decode cL_law 467 = .ok (.iconst 1, 1) := by decide +kernel
theorem dL_law_468 : decode cL_law 468 = .ok (.iadd, 1) := by decide +kernel
theorem dL_law_469 : decode cL_law 469 = .ok (.iaload, 1) := by decide +kernel
theorem dL_law_470 : decode cL_law 470 = .ok (.aload_n 0, 1) := by decide +kernel
theorem dL_law_471 : decode cL_law 471 = .ok (.iload_n 3, 1) := by decide +kernel
theorem dL_law_472 : decode cL_law 472 = .ok (.iconst 2, 1) := by decide +kernel
theorem dL_law_473 : decode cL_law 473 = .ok (.iadd, 1) := by decide +kernel
theorem dL_law_474 : decode cL_law 474 = .ok (.iaload, 1) := by decide +kernel
theorem dL_law_475 : decode cL_law 475 = .ok (.invokevirtual 59, 3) := by decide +kernel
theorem dL_law_478 : decode cL_law 478 = .ok (.if_icmp .eq 386, 3) := by decide +kernel
theorem dL_law_481 : decode cL_law 481 = .ok (.iconst 0, 1) := by decide +kernel
theorem dL_law_482 : decode cL_law 482 = .ok (.ireturn, 1) := by decide +kernel
theorem dL_law_483 : decode cL_law 483 = .ok (.aload_n 1, 1) := by decide +kernel
theorem dL_law_484 : decode cL_law 484 = .ok (.aload_n 0, 1) := by decide +kernel
theorem dL_law_485 : decode cL_law 485 = .ok (.iload_n 3, 1) := by decide +kernel
theorem dL_law_486 : decode cL_law 486 = .ok (.iconst 1, 1) := by decide +kernel
theorem dL_law_487 : decode cL_law 487 = .ok (.iadd, 1) := by decide +kernel
theorem dL_law_488 : decode cL_law 488 = .ok (.iaload, 1) := by decide +kernel
theorem dL_law_489 : decode cL_law 489 = .ok (.aload_n 0, 1) := by decide +kernel
theorem dL_law_490 : decode cL_law 490 = .ok (.iload_n 3, 1) := by decide +kernel
theorem dL_law_491 : decode cL_law 491 = .ok (.iconst 2, 1) := by decide +kernel
theorem dL_law_492 : decode cL_law 492 = .ok (.iadd, 1) := by decide +kernel
theorem dL_law_493 : decode cL_law 493 = .ok (.iaload, 1) := by decide +kernel
theorem dL_law_494 : decode cL_law 494 = .ok (.invokevirtual 60, 3) := by decide +kernel
theorem dL_law_497 : decode cL_law 497 = .ok (.aload_n 2, 1) := by decide +kernel
theorem dL_law_498 : decode cL_law 498 = .ok (.aload_n 0, 1) := by decide +kernel
theorem dL_law_499 : decode cL_law 499 = .ok (.iload_n 3, 1) := by decide +kernel
theorem dL_law_500 : decode cL_law 500 = .ok (.iconst 1, 1) := by decide +kernel
theorem dL_law_501 : decode cL_law 501 = .ok (.iadd, 1) := by decide +kernel
theorem dL_law_502 : decode cL_law 502 = .ok (.iaload, 1) := by decide +kernel
theorem dL_law_503 : decode cL_law 503 = .ok (.aload_n 0, 1) := by decide +kernel
theorem dL_law_504 : decode cL_law 504 = .ok (.iload_n 3, 1) := by decide +kernel
theorem dL_law_505 : decode cL_law 505 = .ok (.iconst 2, 1) := by decide +kernel
theorem dL_law_506 : decode cL_law 506 = .ok (.iadd, 1) := by decide +kernel
theorem dL_law_507 : decode cL_law 507 = .ok (.iaload, 1) := by decide +kernel
theorem dL_law_508 : decode cL_law 508 = .ok (.invokevirtual 63, 3) := by decide +kernel
theorem dL_law_511 : decode cL_law 511 = .ok (.if_icmp .eq 353, 3) := by decide +kernel
theorem dL_law_514 : decode cL_law 514 = .ok (.iconst 0, 1) := by decide +kernel
theorem dL_law_515 : decode cL_law 515 = .ok (.ireturn, 1) := by decide +kernel
theorem dL_law_516 : decode cL_law 516 = .ok (.aload_n 1, 1) := by decide +kernel
theorem dL_law_517 : decode cL_law 517 = .ok (.aload_n 0, 1) := by decide +kernel
theorem dL_law_518 : decode cL_law 518 = .ok (.iload_n 3, 1) := by decide +kernel
theorem dL_law_519 : decode cL_law 519 = .ok (.iconst 1, 1) := by decide +kernel
theorem dL_law_520 : decode cL_law 520 = .ok (.iadd, 1) := by decide +kernel
theorem dL_law_521 : decode cL_law 521 = .ok (.iaload, 1) := by decide +kernel
theorem dL_law_522 : decode cL_law 522 = .ok (.aload_n 0, 1) := by decide +kernel
theorem dL_law_523 : decode cL_law 523 = .ok (.iload_n 3, 1) := by decide +kernel
theorem dL_law_524 : decode cL_law 524 = .ok (.iconst 2, 1) := by decide +kernel
theorem dL_law_525 : decode cL_law 525 = .ok (.iadd, 1) := by decide +kernel
theorem dL_law_526 : decode cL_law 526 = .ok (.iaload, 1) := by decide +kernel
theorem dL_law_527 : decode cL_law 527 = .ok (.invokevirtual 64, 3) := by decide +kernel
theorem dL_law_530 : decode cL_law 530 = .ok (.aload_n 2, 1) := by decide +kernel
theorem dL_law_531 : decode cL_law 531 = .ok (.aload_n 0, 1) := by decide +kernel
theorem dL_law_532 : decode cL_law 532 = .ok (.iload_n 3, 1) := by decide +kernel
theorem dL_law_533 : decode cL_law 533 = .ok (.iconst 1, 1) := by decide +kernel
theorem dL_law_534 : decode cL_law 534 = .ok (.iadd, 1) := by decide +kernel
theorem dL_law_535 : decode cL_law 535 = .ok (.iaload, 1) := by decide +kernel
theorem dL_law_536 : decode cL_law 536 = .ok (.aload_n 0, 1) := by decide +kernel
theorem dL_law_537 : decode cL_law 537 = .ok (.iload_n 3, 1) := by decide +kernel
theorem dL_law_538 : decode cL_law 538 = .ok (.iconst 2, 1) := by decide +kernel
theorem dL_law_539 : decode cL_law 539 = .ok (.iadd, 1) := by decide +kernel
theorem dL_law_540 : decode cL_law 540 = .ok (.iaload, 1) := by decide +kernel
theorem dL_law_541 : decode cL_law 541 = .ok (.invokevirtual 67, 3) := by decide +kernel
theorem dL_law_544 : decode cL_law 544 = .ok (.if_icmp .eq 320, 3) := by decide +kernel
theorem dL_law_547 : decode cL_law 547 = .ok (.iconst 0, 1) := by decide +kernel
theorem dL_law_548 : decode cL_law 548 = .ok (.ireturn, 1) := by decide +kernel
theorem dL_law_549 : decode cL_law 549 = .ok (.aload_n 1, 1) := by decide +kernel
theorem dL_law_550 : decode cL_law 550 = .ok (.aload_n 0, 1) := by decide +kernel
theorem dL_law_551 : decode cL_law 551 = .ok (.iload_n 3, 1) := by decide +kernel
theorem dL_law_552 : decode cL_law 552 = .ok (.iconst 1, 1) := by decide +kernel
theorem dL_law_553 : decode cL_law 553 = .ok (.iadd, 1) := by decide +kernel
theorem dL_law_554 : decode cL_law 554 = .ok (.iaload, 1) := by decide +kernel
theorem dL_law_555 : decode cL_law 555 = .ok (.invokevirtual 68, 3) := by decide +kernel
theorem dL_law_558 : decode cL_law 558 = .ok (.aload_n 2, 1) := by decide +kernel
theorem dL_law_559 : decode cL_law 559 = .ok (.aload_n 0, 1) := by decide +kernel
theorem dL_law_560 : decode cL_law 560 = .ok (.iload_n 3, 1) := by decide +kernel
theorem dL_law_561 : decode cL_law 561 = .ok (.iconst 1, 1) := by decide +kernel
theorem dL_law_562 : decode cL_law 562 = .ok (.iadd, 1) := by decide +kernel
theorem dL_law_563 : decode cL_law 563 = .ok (.iaload, 1) := by decide +kernel
theorem dL_law_564 : decode cL_law 564 = .ok (.invokevirtual 71, 3) := by decide +kernel
theorem dL_law_567 : decode cL_law 567 = .ok (.if_icmp .eq 297, 3) := by decide +kernel
theorem dL_law_570 : decode cL_law 570 = .ok (.iconst 0, 1) := by decide +kernel
theorem dL_law_571 : decode cL_law 571 = .ok (.ireturn, 1) := by decide +kernel
theorem dL_law_572 : decode cL_law 572 = .ok (.aload_n 1, 1) := by decide +kernel
theorem dL_law_573 : decode cL_law 573 = .ok (.invokevirtual 72, 3) := by decide +kernel
theorem dL_law_576 : decode cL_law 576 = .ok (.aload_n 2, 1) := by decide +kernel
theorem dL_law_577 : decode cL_law 577 = .ok (.invokevirtual 76, 3) := by decide +kernel
theorem dL_law_580 : decode cL_law 580 = .ok (.if_icmp .eq 284, 3) := by decide +kernel
theorem dL_law_583 : decode cL_law 583 = .ok (.iconst 0, 1) := by decide +kernel
theorem dL_law_584 : decode cL_law 584 = .ok (.ireturn, 1) := by decide +kernel
theorem dL_law_585 : decode cL_law 585 = .ok (.aload_n 1, 1) := by decide +kernel
theorem dL_law_586 : decode cL_law 586 = .ok (.invokevirtual 77, 3) := by decide +kernel
theorem dL_law_589 : decode cL_law 589 = .ok (.aload_n 2, 1) := by decide +kernel
theorem dL_law_590 : decode cL_law 590 = .ok (.invokevirtual 80, 3) := by decide +kernel
theorem dL_law_593 : decode cL_law 593 = .ok (.if_icmp .eq 271, 3) := by decide +kernel
theorem dL_law_596 : decode cL_law 596 = .ok (.iconst 0, 1) := by decide +kernel
theorem dL_law_597 : decode cL_law 597 = .ok (.ireturn, 1) := by decide +kernel
theorem dL_law_598 : decode cL_law 598 = .ok (.aload_n 1, 1) := by decide +kernel
theorem dL_law_599 : decode cL_law 599 = .ok (.invokevirtual 81, 3) := by decide +kernel
theorem dL_law_602 : decode cL_law 602 = .ok (.aload_n 2, 1) := by decide +kernel
theorem dL_law_603 : decode cL_law 603 = .ok (.invokevirtual 84, 3) := by decide +kernel
theorem dL_law_606 : decode cL_law 606 = .ok (.if_icmp .eq 258, 3) := by decide +kernel
theorem dL_law_609 : decode cL_law 609 = .ok (.iconst 0, 1) := by decide +kernel
theorem dL_law_610 : decode cL_law 610 = .ok (.ireturn, 1) := by decide +kernel
theorem dL_law_611 : decode cL_law 611 = .ok (.aload_n 1, 1) := by decide +kernel
theorem dL_law_612 : decode cL_law 612 = .ok (.invokevirtual 85, 3) := by decide +kernel
theorem dL_law_615 : decode cL_law 615 = .ok (.aload_n 2, 1) := by decide +kernel
theorem dL_law_616 : decode cL_law 616 = .ok (.invokevirtual 88, 3) := by decide +kernel
theorem dL_law_619 : decode cL_law 619 = .ok (.if_icmp .eq 245, 3) := by decide +kernel
theorem dL_law_622 : decode cL_law 622 = .ok (.iconst 0, 1) := by decide +kernel
theorem dL_law_623 : decode cL_law 623 = .ok (.ireturn, 1) := by decide +kernel
theorem dL_law_624 : decode cL_law 624 = .ok (.aload_n 1, 1) := by decide +kernel
theorem dL_law_625 : decode cL_law 625 = .ok (.aload_n 0, 1) := by decide +kernel
theorem dL_law_626 : decode cL_law 626 = .ok (.iload_n 3, 1) := by decide +kernel
theorem dL_law_627 : decode cL_law 627 = .ok (.iconst 1, 1) := by decide +kernel
theorem dL_law_628 : decode cL_law 628 = .ok (.iadd, 1) := by decide +kernel
theorem dL_law_629 : decode cL_law 629 = .ok (.iaload, 1) := by decide +kernel
theorem dL_law_630 : decode cL_law 630 = .ok (.aload_n 0, 1) := by decide +kernel
theorem dL_law_631 : decode cL_law 631 = .ok (.iload_n 3, 1) := by decide +kernel
theorem dL_law_632 : decode cL_law 632 = .ok (.iconst 2, 1) := by decide +kernel
theorem dL_law_633 : decode cL_law 633 = .ok (.iadd, 1) := by decide +kernel
theorem dL_law_634 : decode cL_law 634 = .ok (.iaload, 1) := by decide +kernel
theorem dL_law_635 : decode cL_law 635 = .ok (.invokevirtual 89, 3) := by decide +kernel
theorem dL_law_638 : decode cL_law 638 = .ok (.aload_n 2, 1) := by decide +kernel
theorem dL_law_639 : decode cL_law 639 = .ok (.aload_n 0, 1) := by decide +kernel
theorem dL_law_640 : decode cL_law 640 = .ok (.iload_n 3, 1) := by decide +kernel
theorem dL_law_641 : decode cL_law 641 = .ok (.iconst 1, 1) := by decide +kernel
theorem dL_law_642 : decode cL_law 642 = .ok (.iadd, 1) := by decide +kernel
theorem dL_law_643 : decode cL_law 643 = .ok (.iaload, 1) := by decide +kernel
theorem dL_law_644 : decode cL_law 644 = .ok (.aload_n 0, 1) := by decide +kernel
theorem dL_law_645 : decode cL_law 645 = .ok (.iload_n 3, 1) := by decide +kernel
theorem dL_law_646 : decode cL_law 646 = .ok (.iconst 2, 1) := by decide +kernel
theorem dL_law_647 : decode cL_law 647 = .ok (.iadd, 1) := by decide +kernel
theorem dL_law_648 : decode cL_law 648 = .ok (.iaload, 1) := by decide +kernel
theorem dL_law_649 : decode cL_law 649 = .ok (.invokevirtual 92, 3) := by decide +kernel
theorem dL_law_652 : decode cL_law 652 = .ok (.if_icmp .eq 212, 3) := by decide +kernel
theorem dL_law_655 : decode cL_law 655 = .ok (.iconst 0, 1) := by decide +kernel
theorem dL_law_656 : decode cL_law 656 = .ok (.ireturn, 1) := by decide +kernel
theorem dL_law_657 : decode cL_law 657 = .ok (.aload_n 1, 1) := by decide +kernel
theorem dL_law_658 : decode cL_law 658 = .ok (.aload_n 0, 1) := by decide +kernel
theorem dL_law_659 : decode cL_law 659 = .ok (.iload_n 3, 1) := by decide +kernel
theorem dL_law_660 : decode cL_law 660 = .ok (.iconst 1, 1) := by decide +kernel
theorem dL_law_661 : decode cL_law 661 = .ok (.iadd, 1) := by decide +kernel
theorem dL_law_662 : decode cL_law 662 = .ok (.iaload, 1) := by decide +kernel
theorem dL_law_663 : decode cL_law 663 = .ok (.aload_n 0, 1) := by decide +kernel
theorem dL_law_664 : decode cL_law 664 = .ok (.iload_n 3, 1) := by decide +kernel
theorem dL_law_665 : decode cL_law 665 = .ok (.iconst 2, 1) := by decide +kernel
theorem dL_law_666 : decode cL_law 666 = .ok (.iadd, 1) := by decide +kernel
theorem dL_law_667 : decode cL_law 667 = .ok (.iaload, 1) := by decide +kernel
theorem dL_law_668 : decode cL_law 668 = .ok (.invokevirtual 93, 3) := by decide +kernel
theorem dL_law_671 : decode cL_law 671 = .ok (.aload_n 2, 1) := by decide +kernel
theorem dL_law_672 : decode cL_law 672 = .ok (.aload_n 0, 1) := by decide +kernel
theorem dL_law_673 : decode cL_law 673 = .ok (.iload_n 3, 1) := by decide +kernel
theorem dL_law_674 : decode cL_law 674 = .ok (.iconst 1, 1) := by decide +kernel
theorem dL_law_675 : decode cL_law 675 = .ok (.iadd, 1) := by decide +kernel
theorem dL_law_676 : decode cL_law 676 = .ok (.iaload, 1) := by decide +kernel
theorem dL_law_677 : decode cL_law 677 = .ok (.aload_n 0, 1) := by decide +kernel
theorem dL_law_678 : decode cL_law 678 = .ok (.iload_n 3, 1) := by decide +kernel
theorem dL_law_679 : decode cL_law 679 = .ok (.iconst 2, 1) := by decide +kernel
theorem dL_law_680 : decode cL_law 680 = .ok (.iadd, 1) := by decide +kernel
theorem dL_law_681 : decode cL_law 681 = .ok (.iaload, 1) := by decide +kernel
theorem dL_law_682 : decode cL_law 682 = .ok (.invokevirtual 96, 3) := by decide +kernel
theorem dL_law_685 : decode cL_law 685 = .ok (.if_icmp .eq 179, 3) := by decide +kernel
theorem dL_law_688 : decode cL_law 688 = .ok (.iconst 0, 1) := by decide +kernel
theorem dL_law_689 : decode cL_law 689 = .ok (.ireturn, 1) := by decide +kernel
theorem dL_law_690 : decode cL_law 690 = .ok (.aload_n 1, 1) := by decide +kernel
theorem dL_law_691 : decode cL_law 691 = .ok (.invokevirtual 97, 3) := by decide +kernel
theorem dL_law_694 : decode cL_law 694 = .ok (.aload_n 2, 1) := by decide +kernel
theorem dL_law_695 : decode cL_law 695 = .ok (.invokevirtual 100, 3) := by decide +kernel
theorem dL_law_698 : decode cL_law 698 = .ok (.if_icmp .eq 166, 3) := by decide +kernel
theorem dL_law_701 : decode cL_law 701 = .ok (.iconst 0, 1) := by decide +kernel
theorem dL_law_702 : decode cL_law 702 = .ok (.ireturn, 1) := by decide +kernel
theorem dL_law_703 : decode cL_law 703 = .ok (.aload_n 1, 1) := by decide +kernel
theorem dL_law_704 : decode cL_law 704 = .ok (.aload_n 0, 1) := by decide +kernel
theorem dL_law_705 : decode cL_law 705 = .ok (.iload_n 3, 1) := by decide +kernel
theorem dL_law_706 : decode cL_law 706 = .ok (.iconst 1, 1) := by decide +kernel
theorem dL_law_707 : decode cL_law 707 = .ok (.iadd, 1) := by decide +kernel
theorem dL_law_708 : decode cL_law 708 = .ok (.iaload, 1) := by decide +kernel
theorem dL_law_709 : decode cL_law 709 = .ok (.aload_n 0, 1) := by decide +kernel
theorem dL_law_710 : decode cL_law 710 = .ok (.iload_n 3, 1) := by decide +kernel
theorem dL_law_711 : decode cL_law 711 = .ok (.iconst 2, 1) := by decide +kernel
theorem dL_law_712 : decode cL_law 712 = .ok (.iadd, 1) := by decide +kernel
theorem dL_law_713 : decode cL_law 713 = .ok (.iaload, 1) := by decide +kernel
theorem dL_law_714 : decode cL_law 714 = .ok (.invokevirtual 101, 3) := by decide +kernel
theorem dL_law_717 : decode cL_law 717 = .ok (.aload_n 2, 1) := by decide +kernel
theorem dL_law_718 : decode cL_law 718 = .ok (.aload_n 0, 1) := by decide +kernel
theorem dL_law_719 : decode cL_law 719 = .ok (.iload_n 3, 1) := by decide +kernel
theorem dL_law_720 : decode cL_law 720 = .ok (.iconst 1, 1) := by decide +kernel
theorem dL_law_721 : decode cL_law 721 = .ok (.iadd, 1) := by decide +kernel
theorem dL_law_722 : decode cL_law 722 = .ok (.iaload, 1) := by decide +kernel
theorem dL_law_723 : decode cL_law 723 = .ok (.aload_n 0, 1) := by decide +kernel
theorem dL_law_724 : decode cL_law 724 = .ok (.iload_n 3, 1) := by decide +kernel
theorem dL_law_725 : decode cL_law 725 = .ok (.iconst 2, 1) := by decide +kernel
theorem dL_law_726 : decode cL_law 726 = .ok (.iadd, 1) := by decide +kernel
theorem dL_law_727 : decode cL_law 727 = .ok (.iaload, 1) := by decide +kernel
theorem dL_law_728 : decode cL_law 728 = .ok (.invokevirtual 104, 3) := by decide +kernel
theorem dL_law_731 : decode cL_law 731 = .ok (.if_icmp .eq 133, 3) := by decide +kernel
theorem dL_law_734 : decode cL_law 734 = .ok (.iconst 0, 1) := by decide +kernel
theorem dL_law_735 : decode cL_law 735 = .ok (.ireturn, 1) := by decide +kernel
theorem dL_law_736 : decode cL_law 736 = .ok (.aload_n 1, 1) := by decide +kernel
theorem dL_law_737 : decode cL_law 737 = .ok (.invokevirtual 105, 3) := by decide +kernel
theorem dL_law_740 : decode cL_law 740 = .ok (.aload_n 2, 1) := by decide +kernel
theorem dL_law_741 : decode cL_law 741 = .ok (.invokevirtual 108, 3) := by decide +kernel
theorem dL_law_744 : decode cL_law 744 = .ok (.if_icmp .eq 120, 3) := by decide +kernel
theorem dL_law_747 : decode cL_law 747 = .ok (.iconst 0, 1) := by decide +kernel
theorem dL_law_748 : decode cL_law 748 = .ok (.ireturn, 1) := by decide +kernel
theorem dL_law_749 : decode cL_law 749 = .ok (.aload_n 1, 1) := by decide +kernel
theorem dL_law_750 : decode cL_law 750 = .ok (.aload_n 0, 1) := by decide +kernel
theorem dL_law_751 : decode cL_law 751 = .ok (.iload_n 3, 1) := by decide +kernel
theorem dL_law_752 : decode cL_law 752 = .ok (.iconst 1, 1) := by decide +kernel
theorem dL_law_753 : decode cL_law 753 = .ok (.iadd, 1) := by decide +kernel
theorem dL_law_754 : decode cL_law 754 = .ok (.iaload, 1) := by decide +kernel
theorem dL_law_755 : decode cL_law 755 = .ok (.invokevirtual 109, 3) := by decide +kernel
theorem dL_law_758 : decode cL_law 758 = .ok (.aload_n 2, 1) := by decide +kernel
theorem dL_law_759 : decode cL_law 759 = .ok (.aload_n 0, 1) := by decide +kernel
theorem dL_law_760 : decode cL_law 760 = .ok (.iload_n 3, 1) := by decide +kernel
theorem dL_law_761 : decode cL_law 761 = .ok (.iconst 1, 1) := by decide +kernel
theorem dL_law_762 : decode cL_law 762 = .ok (.iadd, 1) := by decide +kernel
theorem dL_law_763 : decode cL_law 763 = .ok (.iaload, 1) := by decide +kernel
theorem dL_law_764 : decode cL_law 764 = .ok (.invokevirtual 112, 3) := by decide +kernel
theorem dL_law_767 : decode cL_law 767 = .ok (.if_icmp .eq 97, 3) := by decide +kernel
theorem dL_law_770 : decode cL_law 770 = .ok (.iconst 0, 1) := by decide +kernel
theorem dL_law_771 : decode cL_law 771 = .ok (.ireturn, 1) := by decide +kernel
theorem dL_law_772 : decode cL_law 772 = .ok (.aload_n 1, 1) := by decide +kernel
theorem dL_law_773 : decode cL_law 773 = .ok (.aload_n 0, 1) := by decide +kernel
theorem dL_law_774 : decode cL_law 774 = .ok (.iload_n 3, 1) := by decide +kernel
theorem dL_law_775 : decode cL_law 775 = .ok (.iconst 1, 1) := by decide +kernel
theorem dL_law_776 : decode cL_law 776 = .ok (.iadd, 1) := by decide +kernel
theorem dL_law_777 : decode cL_law 777 = .ok (.iaload, 1) := by decide +kernel
theorem dL_law_778 : decode cL_law 778 = .ok (.invokevirtual 113, 3) := by decide +kernel
theorem dL_law_781 : decode cL_law 781 = .ok (.aload_n 2, 1) := by decide +kernel
theorem dL_law_782 : decode cL_law 782 = .ok (.aload_n 0, 1) := by decide +kernel
theorem dL_law_783 : decode cL_law 783 = .ok (.iload_n 3, 1) := by decide +kernel
theorem dL_law_784 : decode cL_law 784 = .ok (.iconst 1, 1) := by decide +kernel
theorem dL_law_785 : decode cL_law 785 = .ok (.iadd, 1) := by decide +kernel
theorem dL_law_786 : decode cL_law 786 = .ok (.iaload, 1) := by decide +kernel
theorem dL_law_787 : decode cL_law 787 = .ok (.invokevirtual 116, 3) := by decide +kernel
theorem dL_law_790 : decode cL_law 790 = .ok (.if_icmp .eq 74, 3) := by decide +kernel
theorem dL_law_793 : decode cL_law 793 = .ok (.iconst 0, 1) := by decide +kernel
theorem dL_law_794 : decode cL_law 794 = .ok (.ireturn, 1) := by decide +kernel
theorem dL_law_795 : decode cL_law 795 = .ok (.aload_n 1, 1) := by decide +kernel
theorem dL_law_796 : decode cL_law 796 = .ok (.aload_n 0, 1) := by decide +kernel
theorem dL_law_797 : decode cL_law 797 = .ok (.iload_n 3, 1) := by decide +kernel
theorem dL_law_798 : decode cL_law 798 = .ok (.iconst 1, 1) := by decide +kernel
theorem dL_law_799 : decode cL_law 799 = .ok (.iadd, 1) := by decide +kernel
theorem dL_law_800 : decode cL_law 800 = .ok (.iaload, 1) := by decide +kernel
theorem dL_law_801 : decode cL_law 801 = .ok (.aload_n 0, 1) := by decide +kernel
theorem dL_law_802 : decode cL_law 802 = .ok (.iload_n 3, 1) := by decide +kernel
theorem dL_law_803 : decode cL_law 803 = .ok (.iconst 2, 1) := by decide +kernel
theorem dL_law_804 : decode cL_law 804 = .ok (.iadd, 1) := by decide +kernel
theorem dL_law_805 : decode cL_law 805 = .ok (.iaload, 1) := by decide +kernel
theorem dL_law_806 : decode cL_law 806 = .ok (.aload_n 0, 1) := by decide +kernel
theorem dL_law_807 : decode cL_law 807 = .ok (.iload_n 3, 1) := by decide +kernel
theorem dL_law_808 : decode cL_law 808 = .ok (.iconst 3, 1) := by decide +kernel
theorem dL_law_809 : decode cL_law 809 = .ok (.iadd, 1) := by decide +kernel
theorem dL_law_810 : decode cL_law 810 = .ok (.iaload, 1) := by decide +kernel
theorem dL_law_811 : decode cL_law 811 = .ok (.invokevirtual 117, 3) := by decide +kernel
theorem dL_law_814 : decode cL_law 814 = .ok (.aload_n 2, 1) := by decide +kernel
theorem dL_law_815 : decode cL_law 815 = .ok (.aload_n 0, 1) := by decide +kernel
theorem dL_law_816 : decode cL_law 816 = .ok (.iload_n 3, 1) := by decide +kernel
theorem dL_law_817 : decode cL_law 817 = .ok (.iconst 1, 1) := by decide +kernel
theorem dL_law_818 : decode cL_law 818 = .ok (.iadd, 1) := by decide +kernel
theorem dL_law_819 : decode cL_law 819 = .ok (.iaload, 1) := by decide +kernel
theorem dL_law_820 : decode cL_law 820 = .ok (.aload_n 0, 1) := by decide +kernel
theorem dL_law_821 : decode cL_law 821 = .ok (.iload_n 3, 1) := by decide +kernel
theorem dL_law_822 : decode cL_law 822 = .ok (.iconst 2, 1) := by decide +kernel
theorem dL_law_823 : decode cL_law 823 = .ok (.iadd, 1) := by decide +kernel
theorem dL_law_824 : decode cL_law 824 = .ok (.iaload, 1) := by decide +kernel
theorem dL_law_825 : decode cL_law 825 = .ok (.aload_n 0, 1) := by decide +kernel
theorem dL_law_826 : decode cL_law 826 = .ok (.iload_n 3, 1) := by decide +kernel
theorem dL_law_827 : decode cL_law 827 = .ok (.iconst 3, 1) := by decide +kernel
theorem dL_law_828 : decode cL_law 828 = .ok (.iadd, 1) := by decide +kernel
theorem dL_law_829 : decode cL_law 829 = .ok (.iaload, 1) := by decide +kernel
theorem dL_law_830 : decode cL_law 830 = .ok (.invokevirtual 120, 3) := by decide +kernel
theorem dL_law_833 : decode cL_law 833 = .ok (.if_icmp .eq 31, 3) := by decide +kernel
theorem dL_law_836 : decode cL_law 836 = .ok (.iconst 0, 1) := by decide +kernel
theorem dL_law_837 : decode cL_law 837 = .ok (.ireturn, 1) := by decide +kernel
theorem dL_law_838 : decode cL_law 838 = .ok (.aload_n 1, 1) := by decide +kernel
theorem dL_law_839 : decode cL_law 839 = .ok (.invokevirtual 121, 3) := by decide +kernel
theorem dL_law_842 : decode cL_law 842 = .ok (.aload_n 2, 1) := by decide +kernel
theorem dL_law_843 : decode cL_law 843 = .ok (.invokevirtual 124, 3) := by decide +kernel
theorem dL_law_846 : decode cL_law 846 = .ok (.if_icmp .eq 18, 3) := by decide +kernel
theorem dL_law_849 : decode cL_law 849 = .ok (.iconst 0, 1) := by decide +kernel
theorem dL_law_850 : decode cL_law 850 = .ok (.ireturn, 1) := by decide +kernel
theorem dL_law_851 : decode cL_law 851 = .ok (.aload_n 1, 1) := by decide +kernel
theorem dL_law_852 : decode cL_law 852 = .ok (.invokevirtual 125, 3) := by decide +kernel
theorem dL_law_855 : decode cL_law 855 = .ok (.aload_n 2, 1) := by decide +kernel
theorem dL_law_856 : decode cL_law 856 = .ok (.invokevirtual 128, 3) := by decide +kernel
theorem dL_law_859 : decode cL_law 859 = .ok (.if_icmp .eq 5, 3) := by decide +kernel
theorem dL_law_862 : decode cL_law 862 = .ok (.iconst 0, 1) := by decide +kernel
theorem dL_law_863 : decode cL_law 863 = .ok (.ireturn, 1) := by decide +kernel
theorem dL_law_864 : decode cL_law 864 = .ok (.iinc 3 4, 3) := by decide +kernel
theorem dL_law_867 : decode cL_law 867 = .ok (.goto (-849), 3) := by decide +kernel
theorem dL_law_870 : decode cL_law 870 = .ok (.iconst 1, 1) := by decide +kernel
theorem dL_law_871 : decode cL_law 871 = .ok (.ireturn, 1) := by decide +kernel
