theorem dX7_leftOfPiece_0 : decode cX7_leftOfPiece 0 = .ok (.iconst 0, 1) := by decide +kernel
theorem dX7_leftOfPiece_1 : decode cX7_leftOfPiece 1 = .ok (.istore_n 3, 1) := by decide +kernel
theorem dX7_leftOfPiece_2 : decode cX7_leftOfPiece 2 = .ok (.iconst 0, 1) := by decide +kernel
theorem dX7_leftOfPiece_3 : decode cX7_leftOfPiece 3 = .ok (.istore 4, 2) := by decide +kernel
theorem dX7_leftOfPiece_5 : decode cX7_leftOfPiece 5 = .ok (.iload 4, 2) := by decide +kernel
theorem dX7_leftOfPiece_7 : decode cX7_leftOfPiece 7 = .ok (.aload_n 0, 1) := by decide +kernel
theorem dX7_leftOfPiece_8 : decode cX7_leftOfPiece 8 = .ok (.aload_n 1, 1) := by decide +kernel
theorem dX7_leftOfPiece_9 : decode cX7_leftOfPiece 9 = .ok (.invokevirtual 19, 3) := by decide +kernel
theorem dX7_leftOfPiece_12 : decode cX7_leftOfPiece 12 = .ok (.if_icmp .ge 32, 3) := by decide +kernel
theorem dX7_leftOfPiece_15 : decode cX7_leftOfPiece 15 = .ok (.aload_n 0, 1) := by decide +kernel
theorem dX7_leftOfPiece_16 : decode cX7_leftOfPiece 16 = .ok (.getfield 9, 3) := by decide +kernel
theorem dX7_leftOfPiece_19 : decode cX7_leftOfPiece 19 = .ok (.iload 4, 2) := by decide +kernel
theorem dX7_leftOfPiece_21 : decode cX7_leftOfPiece 21 = .ok (.baload, 1) := by decide +kernel
theorem dX7_leftOfPiece_22 : decode cX7_leftOfPiece 22 = .ok (.ifCond .ne 16, 3) := by decide +kernel
theorem dX7_leftOfPiece_25 : decode cX7_leftOfPiece 25 = .ok (.aload_n 1, 1) := by decide +kernel
theorem dX7_leftOfPiece_26 : decode cX7_leftOfPiece 26 = .ok (.iload 4, 2) := by decide +kernel
theorem dX7_leftOfPiece_28 : decode cX7_leftOfPiece 28 = .ok (.invokevirtual 47, 3) := by decide +kernel
theorem dX7_leftOfPiece_31 : decode cX7_leftOfPiece 31 = .ok (.iload_n 2, 1) := by decide +kernel
theorem dX7_leftOfPiece_32 : decode cX7_leftOfPiece 32 = .ok (.if_icmp .ne 6, 3) := by decide +kernel
theorem dX7_leftOfPiece_35 : decode cX7_leftOfPiece 35 = .ok (.iinc 3 1, 3) := by decide +kernel
theorem dX7_leftOfPiece_38 : decode cX7_leftOfPiece 38 = .ok (.iinc 4 1, 3) := by decide +kernel
theorem dX7_leftOfPiece_41 : decode cX7_leftOfPiece 41 = .ok (.goto (-36), 3) := by decide +kernel
theorem dX7_leftOfPiece_44 : decode cX7_leftOfPiece 44 = .ok (.iload_n 3, 1) := by decide +kernel
theorem dX7_leftOfPiece_45 : decode cX7_leftOfPiece 45 = .ok (.ireturn, 1) := by decide +kernel
theorem dX7_leftAtCell_0 : decode cX7_leftAtCell 0 = .ok (.iconst 0, 1) := by decide +kernel
theorem dX7_leftAtCell_1 : decode cX7_leftAtCell 1 = .ok (.istore_n 3, 1) := by decide +kernel
theorem dX7_leftAtCell_2 : decode cX7_leftAtCell 2 = .ok (.iconst 0, 1) := by decide +kernel
theorem dX7_leftAtCell_3 : decode cX7_leftAtCell 3 = .ok (.istore 4, 2) := by decide +kernel
theorem dX7_leftAtCell_5 : decode cX7_leftAtCell 5 = .ok (.iload 4, 2) := by decide +kernel
theorem dX7_leftAtCell_7 : decode cX7_leftAtCell 7 = .ok (.aload_n 0, 1) := by decide +kernel
theorem dX7_leftAtCell_8 : decode cX7_leftAtCell 8 = .ok (.aload_n 1, 1) := by decide +kernel
theorem dX7_leftAtCell_9 : decode cX7_leftAtCell 9 = .ok (.invokevirtual 19, 3) := by decide +kernel
theorem dX7_leftAtCell_12 : decode cX7_leftAtCell 12 = .ok (.if_icmp .ge 35, 3) := by decide +kernel
theorem dX7_leftAtCell_15 : decode cX7_leftAtCell 15 = .ok (.aload_n 0, 1) := by decide +kernel
theorem dX7_leftAtCell_16 : decode cX7_leftAtCell 16 = .ok (.getfield 9, 3) := by decide +kernel
theorem dX7_leftAtCell_19 : decode cX7_leftAtCell 19 = .ok (.iload 4, 2) := by decide +kernel
theorem dX7_leftAtCell_21 : decode cX7_leftAtCell 21 = .ok (.baload, 1) := by decide +kernel
theorem dX7_leftAtCell_22 : decode cX7_leftAtCell 22 = .ok (.ifCond .ne 19, 3) := by decide +kernel
theorem dX7_leftAtCell_25 : decode cX7_leftAtCell 25 = .ok (.aload_n 1, 1) := by decide +kernel
theorem dX7_leftAtCell_26 : decode cX7_leftAtCell 26 = .ok (.iload 4, 2) := by decide +kernel
theorem dX7_leftAtCell_28 : decode cX7_leftAtCell 28 = .ok (.invokevirtual 39, 3) := by decide +kernel
theorem dX7_leftAtCell_31 : decode cX7_leftAtCell 31 = .ok (.iload_n 2, 1) := by decide +kernel
theorem dX7_leftAtCell_32 : decode cX7_leftAtCell 32 = .ok (.invokestatic 51, 3) := by decide +kernel
theorem dX7_leftAtCell_35 : decode cX7_leftAtCell 35 = .ok (.ifCond .eq 6, 3) := by decide +kernel
theorem dX7_leftAtCell_38 : decode cX7_leftAtCell 38 = .ok (.iinc 3 1, 3) := by decide +kernel
theorem dX7_leftAtCell_41 : decode cX7_leftAtCell 41 = .ok (.iinc 4 1, 3) := by decide +kernel
theorem dX7_leftAtCell_44 : decode cX7_leftAtCell 44 = .ok (.goto (-39), 3) := by decide +kernel
theorem dX7_leftAtCell_47 : decode cX7_leftAtCell 47 = .ok (.iload_n 3, 1) := by decide +kernel
theorem dX7_leftAtCell_48 : decode cX7_leftAtCell 48 = .ok (.ireturn, 1) := by decide +kernel
theorem dX8_init_0 : decode cX8_init 0 = .ok (.aload_n 0, 1) := by decide +kernel
theorem dX8_init_1 : decode cX8_init 1 = .ok (.invokespecial 3, 3) := by decide +kernel
theorem dX8_init_4 : decode cX8_init 4 = .ok (.aload_n 0, 1) := by decide +kernel
theorem dX8_init_5 : decode cX8_init 5 = .ok (.sipush 288, 3) := by decide +kernel
theorem dX8_init_8 : decode cX8_init 8 = .ok (.newarray .int, 2) := by decide +kernel
theorem dX8_init_10 : decode cX8_init 10 = .ok (.putfield 9, 3) := by decide +kernel
theorem dX8_init_13 : decode cX8_init 13 = .ok (.aload_n 0, 1) := by decide +kernel
theorem dX8_init_14 : decode cX8_init 14 = .ok (.iconst 0, 1) := by decide +kernel
theorem dX8_init_15 : decode cX8_init 15 = .ok (.putfield 15, 3) := by decide +kernel
theorem dX8_init_18 : decode cX8_init 18 = .ok (.return_, 1) := by decide +kernel
theorem dX8_fill_0 : decode cX8_fill 0 = .ok (.aload_n 1, 1) := by decide +kernel
theorem dX8_fill_1 : decode cX8_fill 1 = .ok (.getfield 19, 3) := by decide +kernel
theorem dX8_fill_4 : decode cX8_fill 4 = .ok (.aload_n 1, 1) := by decide +kernel
theorem dX8_fill_5 : decode cX8_fill 5 = .ok (.getfield 24, 3) := by decide +kernel
theorem dX8_fill_8 : decode cX8_fill 8 = .ok (.if_icmp .ne 8, 3) := by decide +kernel
theorem dX8_fill_11 : decode cX8_fill 11 = .ok (.bipush 8, 2) := by decide +kernel
theorem dX8_fill_13 : decode cX8_fill 13 = .ok (.goto 4, 3) := by decide +kernel
theorem dX8_fill_16 : decode cX8_fill 16 = .ok (.iconst 4, 1) := by decide +kernel
theorem dX8_fill_17 : decode cX8_fill 17 = .ok (.istore_n 2, 1) := by decide +kernel
theorem dX8_fill_18 : decode cX8_fill 18 = .ok (.aload_n 0, 1) := by decide +kernel
theorem dX8_fill_19 : decode cX8_fill 19 = .ok (.iconst 0, 1) := by decide +kernel
theorem dX8_fill_20 : decode cX8_fill 20 = .ok (.putfield 15, 3) := by decide +kernel
theorem dX8_fill_23 : decode cX8_fill 23 = .ok (.iconst 0, 1) := by decide +kernel
theorem dX8_fill_24 : decode cX8_fill 24 = .ok (.istore_n 3, 1) := by decide +kernel
theorem dX8_fill_25 : decode cX8_fill 25 = .ok (.iload_n 3, 1) := by decide +kernel
theorem dX8_fill_26 : decode cX8_fill 26 = .ok (.iload_n 2, 1) := by decide +kernel
theorem dX8_fill_27 : decode cX8_fill 27 = .ok (.if_icmp .ge 28, 3) := by decide +kernel
theorem dX8_fill_30 : decode cX8_fill 30 = .ok (.aload_n 0, 1) := by decide +kernel
theorem dX8_fill_31 : decode cX8_fill 31 = .ok (.aload_n 1, 1) := by decide +kernel
theorem dX8_fill_32 : decode cX8_fill 32 = .ok (.iload_n 3, 1) := by decide +kernel
theorem dX8_fill_33 : decode cX8_fill 33 = .ok (.invokevirtual 27, 3) := by decide +kernel
theorem dX8_fill_36 : decode cX8_fill 36 = .ok (.ifCond .eq 13, 3) := by decide +kernel
theorem dX8_fill_39 : decode cX8_fill 39 = .ok (.aload_n 0, 1) := by decide +kernel
theorem dX8_fill_40 : decode cX8_fill 40 = .ok (.dup, 1) := by decide +kernel
theorem dX8_fill_41 : decode cX8_fill 41 = .ok (.getfield 15, 3) := by decide +kernel
theorem dX8_fill_44 : decode cX8_fill 44 = .ok (.iconst 1, 1) := by decide +kernel
theorem dX8_fill_45 : decode cX8_fill 45 = .ok (.iadd, 1) := by decide +kernel
theorem dX8_fill_46 : decode cX8_fill 46 = .ok (.putfield 15, 3) := by decide +kernel
theorem dX8_fill_49 : decode cX8_fill 49 = .ok (.iinc 3 1, 3) := by decide +kernel
theorem dX8_fill_52 : decode cX8_fill 52 = .ok (.goto (-27), 3) := by decide +kernel
theorem dX8_fill_55 : decode cX8_fill 55 = .ok (.return_, 1) := by decide +kernel
theorem dX8_fillNext_0 : decode cX8_fillNext 0 = .ok (.iconst 0, 1) := by decide +kernel
theorem dX8_fillNext_1 : decode cX8_fillNext 1 = .ok (.istore_n 3, 1) := by decide +kernel
theorem dX8_fillNext_2 : decode cX8_fillNext 2 = .ok (.iload_n 3, 1) := by decide +kernel
theorem dX8_fillNext_3 : decode cX8_fillNext 3 = .ok (.aload_n 1, 1) := by decide +kernel
theorem dX8_fillNext_4 : decode cX8_fillNext 4 = .ok (.invokevirtual 31, 3) := by decide +kernel
theorem dX8_fillNext_7 : decode cX8_fillNext 7 = .ok (.if_icmp .ge 51, 3) := by decide +kernel
theorem dX8_fillNext_10 : decode cX8_fillNext 10 = .ok (.aload_n 1, 1) := by decide +kernel
theorem dX8_fillNext_11 : decode cX8_fillNext 11 = .ok (.iload_n 2, 1) := by decide +kernel
theorem dX8_fillNext_12 : decode cX8_fillNext 12 = .ok (.iload_n 3, 1) := by decide +kernel
theorem dX8_fillNext_13 : decode cX8_fillNext 13 = .ok (.invokestatic 35, 3) := by decide +kernel
theorem dX8_fillNext_16 : decode cX8_fillNext 16 = .ok (.istore 4, 2) := by decide +kernel
theorem dX8_fillNext_18 : decode cX8_fillNext 18 = .ok (.aload_n 1, 1) := by decide +kernel
theorem dX8_fillNext_19 : decode cX8_fillNext 19 = .ok (.iload 4, 2) := by decide +kernel
theorem dX8_fillNext_21 : decode cX8_fillNext 21 = .ok (.invokevirtual 39, 3) := by decide +kernel
theorem dX8_fillNext_24 : decode cX8_fillNext 24 = .ok (.aload_n 1, 1) := by decide +kernel
theorem dX8_fillNext_25 : decode cX8_fillNext 25 = .ok (.iload_n 3, 1) := by decide +kernel
theorem dX8_fillNext_26 : decode cX8_fillNext 26 = .ok (.invokevirtual 39, 3) := by decide +kernel
theorem dX8_fillNext_29 : decode cX8_fillNext 29 = .ok (.if_icmp .eq 5, 3) := by decide +kernel
theorem dX8_fillNext_32 : decode cX8_fillNext 32 = .ok (.iconst 0, 1) := by decide +kernel
theorem dX8_fillNext_33 : decode cX8_fillNext 33 = .ok (.ireturn, 1) := by decide +kernel
theorem dX8_fillNext_34 : decode cX8_fillNext 34 = .ok (.aload_n 0, 1) := by decide +kernel
theorem dX8_fillNext_35 : decode cX8_fillNext 35 = .ok (.getfield 9, 3) := by decide +kernel
theorem dX8_fillNext_38 : decode cX8_fillNext 38 = .ok (.aload_n 0, 1) := by decide +kernel
theorem dX8_fillNext_39 : decode cX8_fillNext 39 = .ok (.getfield 15, 3) := by decide +kernel
theorem dX8_fillNext_42 : decode cX8_fillNext 42 = .ok (.bipush 36, 2) := by decide +kernel
theorem dX8_fillNext_44 : decode cX8_fillNext 44 = .ok (.imul, 1) := by decide +kernel
theorem dX8_fillNext_45 : decode cX8_fillNext 45 = .ok (.iload_n 3, 1) := by decide +kernel
theorem dX8_fillNext_46 : decode cX8_fillNext 46 = .ok (.iadd, 1) := by decide +kernel
theorem dX8_fillNext_47 : decode cX8_fillNext 47 = .ok (.iload 4, 2) := by decide +kernel
theorem dX8_fillNext_49 : decode cX8_fillNext 49 = .ok (.invokestatic 43, 3) := by decide +kernel
theorem dX8_fillNext_52 : decode cX8_fillNext 52 = .ok (.iinc 3 1, 3) := by decide +kernel
theorem dX8_fillNext_55 : decode cX8_fillNext 55 = .ok (.goto (-53), 3) := by decide +kernel
theorem dX8_fillNext_58 : decode cX8_fillNext 58 = .ok (.iconst 1, 1) := by decide +kernel
theorem dX8_fillNext_59 : decode cX8_fillNext 59 = .ok (.ireturn, 1) := by decide +kernel
theorem dX8_mapCell_0 : decode cX8_mapCell 0 = .ok (.aload_n 0, 1) := by decide +kernel
theorem dX8_mapCell_1 : decode cX8_mapCell 1 = .ok (.iload_n 2, 1) := by decide +kernel
theorem dX8_mapCell_2 : decode cX8_mapCell 2 = .ok (.invokevirtual 47, 3) := by decide +kernel
theorem dX8_mapCell_5 : decode cX8_mapCell 5 = .ok (.istore_n 3, 1) := by decide +kernel
theorem dX8_mapCell_6 : decode cX8_mapCell 6 = .ok (.aload_n 0, 1) := by decide +kernel
theorem dX8_mapCell_7 : decode cX8_mapCell 7 = .ok (.iload_n 2, 1) := by decide +kernel
theorem dX8_mapCell_8 : decode cX8_mapCell 8 = .ok (.invokevirtual 50, 3) := by decide +kernel
theorem dX8_mapCell_11 : decode cX8_mapCell 11 = .ok (.istore 4, 2) := by decide +kernel
theorem dX8_mapCell_13 : decode cX8_mapCell 13 = .ok (.iload_n 1, 1) := by decide +kernel
theorem dX8_mapCell_14 : decode cX8_mapCell 14 = .ok (.iconst 1, 1) := by decide +kernel
theorem dX8_mapCell_15 : decode cX8_mapCell 15 = .ok (.iand, 1) := by decide +kernel
theorem dX8_mapCell_16 : decode cX8_mapCell 16 = .ok (.ifCond .eq 12, 3) := by decide +kernel
theorem dX8_mapCell_19 : decode cX8_mapCell 19 = .ok (.aload_n 0, 1) := by decide +kernel
theorem dX8_mapCell_20 : decode cX8_mapCell 20 = .ok (.getfield 19, 3) := by decide +kernel
theorem dX8_mapCell_23 : decode cX8_mapCell 23 = .ok (.iconst 1, 1) := by decide +kernel
theorem dX8_mapCell_24 : decode cX8_mapCell 24 = .ok (.isub, 1) := by decide +kernel
theorem dX8_mapCell_25 : decode cX8_mapCell 25 = .ok (.iload_n 3, 1) := by decide +kernel
theorem dX8_mapCell_26 : decode cX8_mapCell 26 = .ok (.isub, 1) := by decide +kernel
theorem dX8_mapCell_27 : decode cX8_mapCell 27 = .ok (.istore_n 3, 1) := by decide +kernel
theorem dX8_mapCell_28 : decode cX8_mapCell 28 = .ok (.iload_n 1, 1) := by decide +kernel
theorem dX8_mapCell_29 : decode cX8_mapCell 29 = .ok (.iconst 2, 1) := by decide +kernel
theorem dX8_mapCell_30 : decode cX8_mapCell 30 = .ok (.iand, 1) := by decide +kernel
theorem dX8_mapCell_31 : decode cX8_mapCell 31 = .ok (.ifCond .eq 14, 3) := by decide +kernel
theorem dX8_mapCell_34 : decode cX8_mapCell 34 = .ok (.aload_n 0, 1) := by decide +kernel
theorem dX8_mapCell_35 : decode cX8_mapCell 35 = .ok (.getfield 24, 3) := by decide +kernel
theorem dX8_mapCell_38 : decode cX8_mapCell 38 = .ok (.iconst 1, 1) := by decide +kernel
theorem dX8_mapCell_39 : decode cX8_mapCell 39 = .ok (.isub, 1) := by decide +kernel
theorem dX8_mapCell_40 : decode cX8_mapCell 40 = .ok (.iload 4, 2) := by decide +kernel
theorem dX8_mapCell_42 : decode cX8_mapCell 42 = .ok (.isub, 1) := by decide +kernel
theorem dX8_mapCell_43 : decode cX8_mapCell 43 = .ok (.istore 4, 2) := by decide +kernel
theorem dX8_mapCell_45 : decode cX8_mapCell 45 = .ok (.iload_n 1, 1) := by decide +kernel
theorem dX8_mapCell_46 : decode cX8_mapCell 46 = .ok (.iconst 4, 1) := by decide +kernel
theorem dX8_mapCell_47 : decode cX8_mapCell 47 = .ok (.iand, 1) := by decide +kernel
theorem dX8_mapCell_48 : decode cX8_mapCell 48 = .ok (.ifCond .eq 15, 3) := by decide +kernel
theorem dX8_mapCell_51 : decode cX8_mapCell 51 = .ok (.iload_n 3, 1) := by decide +kernel
theorem dX8_mapCell_52 : decode cX8_mapCell 52 = .ok (.aload_n 0, 1) := by decide +kernel
theorem dX8_mapCell_53 : decode cX8_mapCell 53 = .ok (.getfield 19, 3) := by decide +kernel
theorem dX8_mapCell_56 : decode cX8_mapCell 56 = .ok (.imul, 1) := by decide +kernel
theorem dX8_mapCell_57 : decode cX8_mapCell 57 = .ok (.iload 4, 2) := by decide +kernel
theorem dX8_mapCell_59 : decode cX8_mapCell 59 = .ok (.iadd, 1) := by decide +kernel
theorem dX8_mapCell_60 : decode cX8_mapCell 60 = .ok (.goto 12, 3) := by decide +kernel
theorem dX8_mapCell_63 : decode cX8_mapCell 63 = .ok (.iload 4, 2) := by decide +kernel
theorem dX8_mapCell_65 : decode cX8_mapCell 65 = .ok (.aload_n 0, 1) := by decide +kernel
theorem dX8_mapCell_66 : decode cX8_mapCell 66 = .ok (.getfield 19, 3) := by decide +kernel
theorem dX8_mapCell_69 : decode cX8_mapCell 69 = .ok (.imul, 1) := by decide +kernel
theorem dX8_mapCell_70 : decode cX8_mapCell 70 = .ok (.iload_n 3, 1) := by decide +kernel
theorem dX8_mapCell_71 : decode cX8_mapCell 71 = .ok (.iadd, 1) := by decide +kernel
theorem dX8_mapCell_72 : decode cX8_mapCell 72 = .ok (.ireturn, 1) := by decide +kernel
theorem dX8_imageOf_0 : decode cX8_imageOf 0 = .ok (.aload_n 0, 1) := by decide +kernel
theorem dX8_imageOf_1 : decode cX8_imageOf 1 = .ok (.getfield 9, 3) := by decide +kernel
theorem dX8_imageOf_4 : decode cX8_imageOf 4 = .ok (.iload_n 1, 1) := by decide +kernel
theorem dX8_imageOf_5 : decode cX8_imageOf 5 = .ok (.bipush 36, 2) := by decide +kernel
theorem dX8_imageOf_7 : decode cX8_imageOf 7 = .ok (.imul, 1) := by decide +kernel
theorem dX8_imageOf_8 : decode cX8_imageOf 8 = .ok (.iload_n 2, 1) := by decide +kernel
theorem dX8_imageOf_9 : decode cX8_imageOf 9 = .ok (.iadd, 1) := by decide +kernel
theorem dX8_imageOf_10 : decode cX8_imageOf 10 = .ok (.invokestatic 53, 3) := by decide +kernel
theorem dX8_imageOf_13 : decode cX8_imageOf 13 = .ok (.ireturn, 1) := by decide +kernel
theorem dX9_init_0 : decode cX9_init 0 = .ok (.aload_n 0, 1) := by decide +kernel
theorem dX9_init_1 : decode cX9_init 1 = .ok (.invokespecial 3, 3) := by decide +kernel
theorem dX9_init_4 : decode cX9_init 4 = .ok (.aload_n 0, 1) := by decide +kernel
theorem dX9_init_5 : decode cX9_init 5 = .ok (.bipush 36, 2) := by decide +kernel
theorem dX9_init_7 : decode cX9_init 7 = .ok (.newarray .int, 2) := by decide +kernel
theorem dX9_init_9 : decode cX9_init 9 = .ok (.putfield 9, 3) := by decide +kernel
theorem dX9_init_12 : decode cX9_init 12 = .ok (.aload_n 0, 1) := by decide +kernel
theorem dX9_init_13 : decode cX9_init 13 = .ok (.bipush 36, 2) := by decide +kernel
theorem dX9_init_15 : decode cX9_init 15 = .ok (.newarray .int, 2) := by decide +kernel
theorem dX9_init_17 : decode cX9_init 17 = .ok (.putfield 15, 3) := by decide +kernel
theorem dX9_init_20 : decode cX9_init 20 = .ok (.aload_n 0, 1) := by decide +kernel
theorem dX9_init_21 : decode cX9_init 21 = .ok (.bipush 8, 2) := by decide +kernel
theorem dX9_init_23 : decode cX9_init 23 = .ok (.newarray .int, 2) := by decide +kernel
theorem dX9_init_25 : decode cX9_init 25 = .ok (.putfield 18, 3) := by decide +kernel
theorem dX9_init_28 : decode cX9_init 28 = .ok (.aload_n 0, 1) := by decide +kernel
theorem dX9_init_29 : decode cX9_init 29 = .ok (.iconst 4, 1) := by decide +kernel
theorem dX9_init_30 : decode cX9_init 30 = .ok (.newarray .long, 2) := by decide +kernel
theorem dX9_init_32 : decode cX9_init 32 = .ok (.putfield 21, 3) := by decide +kernel
theorem dX9_init_35 : decode cX9_init 35 = .ok (.aload_n 0, 1) := by decide +kernel
theorem dX9_init_36 : decode cX9_init 36 = .ok (.lconst 0, 1) := by decide +kernel
theorem dX9_init_37 : decode cX9_init 37 = .ok (.putfield 25, 3) := by decide +kernel
theorem dX9_init_40 : decode cX9_init 40 = .ok (.aload_n 0, 1) := by decide +kernel
theorem dX9_init_41 : decode cX9_init 41 = .ok (.lconst 0, 1) := by decide +kernel
theorem dX9_init_42 : decode cX9_init 42 = .ok (.putfield 29, 3) := by decide +kernel
theorem dX9_init_45 : decode cX9_init 45 = .ok (.aload_n 0, 1) := by decide +kernel
theorem dX9_init_46 : decode cX9_init 46 = .ok (.lconst 0, 1) := by decide +kernel
theorem dX9_init_47 : decode cX9_init 47 = .ok (.putfield 32, 3) := by decide +kernel
theorem dX9_init_50 : decode cX9_init 50 = .ok (.aload_n 0, 1) := by decide +kernel
theorem dX9_init_51 : decode cX9_init 51 = .ok (.iconst 0, 1) := by decide +kernel
theorem dX9_init_52 : decode cX9_init 52 = .ok (.putfield 35, 3) := by decide +kernel
theorem dX9_init_55 : decode cX9_init 55 = .ok (.aload_n 0, 1) := by decide +kernel
theorem dX9_init_56 : decode cX9_init 56 = .ok (.iconst 0, 1) := by decide +kernel
theorem dX9_init_57 : decode cX9_init 57 = .ok (.putfield 39, 3) := by decide +kernel
theorem dX9_init_60 : decode cX9_init 60 = .ok (.aload_n 0, 1) := by decide +kernel
theorem dX9_init_61 : decode cX9_init 61 = .ok (.iconst 0, 1) := by decide +kernel
theorem dX9_init_62 : decode cX9_init 62 = .ok (.putfield 42, 3) := by decide +kernel
theorem dX9_init_65 : decode cX9_init 65 = .ok (.aload_n 0, 1) := by decide +kernel
theorem dX9_init_66 : decode cX9_init 66 = .ok (.iconst 0, 1) := by decide +kernel
theorem dX9_init_67 : decode cX9_init 67 = .ok (.putfield 45, 3) := by decide +kernel
theorem dX9_init_70 : decode cX9_init 70 = .ok (.aload_n 0, 1) := by decide +kernel
theorem dX9_init_71 : decode cX9_init 71 = .ok (.iconst 0, 1) := by decide +kernel
theorem dX9_init_72 : decode cX9_init 72 = .ok (.putfield 48, 3) := by decide +kernel
theorem dX9_init_75 : decode cX9_init 75 = .ok (.aload_n 0, 1) := by decide +kernel
theorem dX9_init_76 : decode cX9_init 76 = .ok (.iconst 1, 1) := by decide +kernel
theorem dX9_init_77 : decode cX9_init 77 = .ok (.putfield 52, 3) := by decide +kernel
theorem dX9_init_80 : decode cX9_init 80 = .ok (.aload_n 0, 1) := by decide +kernel
theorem dX9_init_81 : decode cX9_init 81 = .ok (.iconst 0, 1) := by decide +kernel
theorem dX9_init_82 : decode cX9_init 82 = .ok (.putfield 55, 3) := by decide +kernel
theorem dX9_init_85 : decode cX9_init 85 = .ok (.aload_n 0, 1) := by decide +kernel
theorem dX9_init_86 : decode cX9_init 86 = .ok (.aload_n 1, 1) := by decide +kernel
theorem dX9_init_87 : decode cX9_init 87 = .ok (.putfield 58, 3) := by decide +kernel
theorem dX9_init_90 : decode cX9_init 90 = .ok (.aload_n 0, 1) := by decide +kernel
theorem dX9_init_91 : decode cX9_init 91 = .ok (.aload_n 2, 1) := by decide +kernel
theorem dX9_init_92 : decode cX9_init 92 = .ok (.putfield 62, 3) := by decide +kernel
theorem dX9_init_95 : decode cX9_init 95 = .ok (.return_, 1) := by decide +kernel
theorem dX9_begin_0 : decode cX9_begin 0 = .ok (.iconst 0, 1) := by decide +kernel
theorem dX9_begin_1 : decode cX9_begin 1 = .ok (.istore_n 1, 1) := by decide +kernel
theorem dX9_begin_2 : decode cX9_begin 2 = .ok (.iload_n 1, 1) := by decide +kernel
theorem dX9_begin_3 : decode cX9_begin 3 = .ok (.bipush 8, 2) := by decide +kernel
theorem dX9_begin_5 : decode cX9_begin 5 = .ok (.if_icmp .ge 25, 3) := by decide +kernel
theorem dX9_begin_8 : decode cX9_begin 8 = .ok (.aload_n 0, 1) := by decide +kernel
theorem dX9_begin_9 : decode cX9_begin 9 = .ok (.getfield 18, 3) := by decide +kernel
theorem dX9_begin_12 : decode cX9_begin 12 = .ok (.iload_n 1, 1) := by decide +kernel
theorem dX9_begin_13 : decode cX9_begin 13 = .ok (.aload_n 0, 1) := by decide +kernel
theorem dX9_begin_14 : decode cX9_begin 14 = .ok (.getfield 58, 3) := by decide +kernel
theorem dX9_begin_17 : decode cX9_begin 17 = .ok (.iload_n 1, 1) := by decide +kernel
theorem dX9_begin_18 : decode cX9_begin 18 = .ok (.invokevirtual 66, 3) := by decide +kernel
theorem dX9_begin_21 : decode cX9_begin 21 = .ok (.invokestatic 72, 3) := by decide +kernel
theorem dX9_begin_24 : decode cX9_begin 24 = .ok (.iinc 1 1, 3) := by decide +kernel
theorem dX9_begin_27 : decode cX9_begin 27 = .ok (.goto (-25), 3) := by decide +kernel
theorem dX9_begin_30 : decode cX9_begin 30 = .ok (.iconst 0, 1) := by decide +kernel
theorem dX9_begin_31 : decode cX9_begin 31 = .ok (.istore_n 1, 1) := by decide +kernel
theorem dX9_begin_32 : decode cX9_begin 32 = .ok (.iload_n 1, 1) := by decide +kernel
theorem dX9_begin_33 : decode cX9_begin 33 = .ok (.iconst 4, 1) := by decide +kernel
theorem dX9_begin_34 : decode cX9_begin 34 = .ok (.if_icmp .ge 16, 3) := by decide +kernel
theorem dX9_begin_37 : decode cX9_begin 37 = .ok (.aload_n 0, 1) := by decide +kernel
theorem dX9_begin_38 : decode cX9_begin 38 = .ok (.getfield 21, 3) := by decide +kernel
theorem dX9_begin_41 : decode cX9_begin 41 = .ok (.iload_n 1, 1) := by decide +kernel
theorem dX9_begin_42 : decode cX9_begin 42 = .ok (.lconst 0, 1) := by decide +kernel
theorem dX9_begin_43 : decode cX9_begin 43 = .ok (.lastore, 1) := by decide +kernel
theorem dX9_begin_44 : decode cX9_begin 44 = .ok (.iinc 1 1, 3) := by decide +kernel
theorem dX9_begin_47 : decode cX9_begin 47 = .ok (.goto (-15), 3) := by decide +kernel
theorem dX9_begin_50 : decode cX9_begin 50 = .ok (.aload_n 0, 1) := by decide +kernel
theorem dX9_begin_51 : decode cX9_begin 51 = .ok (.lconst 0, 1) := by decide +kernel
theorem dX9_begin_52 : decode cX9_begin 52 = .ok (.putfield 29, 3) := by decide +kernel
theorem dX9_begin_55 : decode cX9_begin 55 = .ok (.aload_n 0, 1) := by decide +kernel
theorem dX9_begin_56 : decode cX9_begin 56 = .ok (.lconst 0, 1) := by decide +kernel
theorem dX9_begin_57 : decode cX9_begin 57 = .ok (.putfield 32, 3) := by decide +kernel
theorem dX9_begin_60 : decode cX9_begin 60 = .ok (.iconst 0, 1) := by decide +kernel
theorem dX9_begin_61 : decode cX9_begin 61 = .ok (.istore_n 1, 1) := by decide +kernel
theorem dX9_begin_62 : decode cX9_begin 62 = .ok (.iload_n 1, 1) := by decide +kernel
theorem dX9_begin_63 : decode cX9_begin 63 = .ok (.aload_n 0, 1) := by decide +kernel
theorem dX9_begin_64 : decode cX9_begin 64 = .ok (.getfield 58, 3) := by decide +kernel
theorem dX9_begin_67 : decode cX9_begin 67 = .ok (.getfield 76, 3) := by decide +kernel
theorem dX9_begin_70 : decode cX9_begin 70 = .ok (.if_icmp .ge 59, 3) := by decide +kernel
theorem dX9_begin_73 : decode cX9_begin 73 = .ok (.aload_n 0, 1) := by decide +kernel
theorem dX9_begin_74 : decode cX9_begin 74 = .ok (.dup, 1) := by decide +kernel
theorem dX9_begin_75 : decode cX9_begin 75 = .ok (.getfield 29, 3) := by decide +kernel
theorem dX9_begin_78 : decode cX9_begin 78 = .ok (.lconst 1, 1) := by decide +kernel
theorem dX9_begin_79 : decode cX9_begin 79 = .ok (.iload_n 1, 1) := by decide +kernel
theorem dX9_begin_80 : decode cX9_begin 80 = .ok (.aload_n 0, 1) := by decide +kernel
theorem dX9_begin_81 : decode cX9_begin 81 = .ok (.getfield 58, 3) := by decide +kernel
theorem dX9_begin_84 : decode cX9_begin 84 = .ok (.getfield 79, 3) := by decide +kernel
theorem dX9_begin_87 : decode cX9_begin 87 = .ok (.imul, 1) := by decide +kernel
theorem dX9_begin_88 : decode cX9_begin 88 = .ok (.lshl, 1) := by decide +kernel
theorem dX9_begin_89 : decode cX9_begin 89 = .ok (.lor, 1) := by decide +kernel
theorem dX9_begin_90 : decode cX9_begin 90 = .ok (.putfield 29, 3) := by decide +kernel
theorem dX9_begin_93 : decode cX9_begin 93 = .ok (.aload_n 0, 1) := by decide +kernel
theorem dX9_begin_94 : decode cX9_begin 94 = .ok (.dup, 1) := by decide +kernel
theorem dX9_begin_95 : decode cX9_begin 95 = .ok (.getfield 32, 3) := by decide +kernel
theorem dX9_begin_98 : decode cX9_begin 98 = .ok (.lconst 1, 1) := by decide +kernel
theorem dX9_begin_99 : decode cX9_begin 99 = .ok (.iload_n 1, 1) := by decide +kernel
theorem dX9_begin_100 : decode cX9_begin 100 = .ok (.aload_n 0, 1) := by decide +kernel
theorem dX9_begin_101 : decode cX9_begin 101 = .ok (.getfield 58, 3) := by decide +kernel
theorem dX9_begin_104 : decode cX9_begin 104 = .ok (.getfield 79, 3) := by decide +kernel
theorem dX9_begin_107 : decode cX9_begin 107 = .ok (.imul, 1) := by decide +kernel
theorem dX9_begin_108 : decode cX9_begin 108 = .ok (.aload_n 0, 1) := by decide +kernel
theorem dX9_begin_109 : decode cX9_begin 109 = .ok (.getfield 58, 3) := by decide +kernel
theorem dX9_begin_112 : decode cX9_begin 112 = .ok (.getfield 79, 3) := by decide +kernel
theorem dX9_begin_115 : decode cX9_begin 115 = .ok (.iadd, 1) := by decide +kernel
theorem dX9_begin_116 : decode cX9_begin 116 = .ok (.iconst 1, 1) := by decide +kernel
theorem dX9_begin_117 : decode cX9_begin 117 = .ok (.isub, 1) := by decide +kernel
theorem dX9_begin_118 : decode cX9_begin 118 = .ok (.lshl, 1) := by decide +kernel
theorem dX9_begin_119 : decode cX9_begin 119 = .ok (.lor, 1) := by decide +kernel
theorem dX9_begin_120 : decode cX9_begin 120 = .ok (.putfield 32, 3) := by decide +kernel
theorem dX9_begin_123 : decode cX9_begin 123 = .ok (.iinc 1 1, 3) := by decide +kernel
theorem dX9_begin_126 : decode cX9_begin 126 = .ok (.goto (-64), 3) := by decide +kernel
theorem dX9_begin_129 : decode cX9_begin 129 = .ok (.aload_n 0, 1) := by decide +kernel
theorem dX9_begin_130 : decode cX9_begin 130 = .ok (.lconst 0, 1) := by decide +kernel
theorem dX9_begin_131 : decode cX9_begin 131 = .ok (.putfield 25, 3) := by decide +kernel
theorem dX9_begin_134 : decode cX9_begin 134 = .ok (.aload_n 0, 1) := by decide +kernel
theorem dX9_begin_135 : decode cX9_begin 135 = .ok (.iconst 0, 1) := by decide +kernel
theorem dX9_begin_136 : decode cX9_begin 136 = .ok (.putfield 35, 3) := by decide +kernel
theorem dX9_begin_139 : decode cX9_begin 139 = .ok (.aload_n 0, 1) := by decide +kernel
theorem dX9_begin_140 : decode cX9_begin 140 = .ok (.aload_n 0, 1) := by decide +kernel
theorem dX9_begin_141 : decode cX9_begin 141 = .ok (.getfield 58, 3) := by decide +kernel
theorem dX9_begin_144 : decode cX9_begin 144 = .ok (.invokevirtual 82, 3) := by decide +kernel
theorem dX9_begin_147 : decode cX9_begin 147 = .ok (.putfield 39, 3) := by decide +kernel
theorem dX9_begin_150 : decode cX9_begin 150 = .ok (.aload_n 0, 1) := by decide +kernel
theorem dX9_begin_151 : decode cX9_begin 151 = .ok (.iconst 0, 1) := by decide +kernel
theorem dX9_begin_152 : decode cX9_begin 152 = .ok (.putfield 42, 3) := by decide +kernel
theorem dX9_begin_155 : decode cX9_begin 155 = .ok (.aload_n 0, 1) := by decide +kernel
theorem dX9_begin_156 : decode cX9_begin 156 = .ok (.iconst 0, 1) := by decide +kernel
theorem dX9_begin_157 : decode cX9_begin 157 = .ok (.putfield 45, 3) := by decide +kernel
theorem dX9_begin_160 : decode cX9_begin 160 = .ok (.aload_n 0, 1) := by decide +kernel
theorem dX9_begin_161 : decode cX9_begin 161 = .ok (.iconst 1, 1) := by decide +kernel
theorem dX9_begin_162 : decode cX9_begin 162 = .ok (.putfield 48, 3) := by decide +kernel
theorem dX9_begin_165 : decode cX9_begin 165 = .ok (.aload_n 0, 1) := by decide +kernel
theorem dX9_begin_166 : decode cX9_begin 166 = .ok (.iconst 0, 1) := by decide +kernel
theorem dX9_begin_167 : decode cX9_begin 167 = .ok (.putfield 52, 3) := by decide +kernel
theorem dX9_begin_170 : decode cX9_begin 170 = .ok (.aload_n 0, 1) := by decide +kernel
theorem dX9_begin_171 : decode cX9_begin 171 = .ok (.iconst 0, 1) := by decide +kernel
theorem dX9_begin_172 : decode cX9_begin 172 = .ok (.putfield 55, 3) := by decide +kernel
theorem dX9_begin_175 : decode cX9_begin 175 = .ok (.aload_n 0, 1) := by decide +kernel
theorem dX9_begin_176 : decode cX9_begin 176 = .ok (.invokevirtual 85, 3) := by decide +kernel
theorem dX9_begin_179 : decode cX9_begin 179 = .ok (.return_, 1) := by decide +kernel
theorem dX9_advance_0 : decode cX9_advance 0 = .ok (.iconst 0, 1) := by decide +kernel
theorem dX9_advance_1 : decode cX9_advance 1 = .ok (.istore_n 1, 1) := by decide +kernel
theorem dX9_advance_2 : decode cX9_advance 2 = .ok (.iload_n 1, 1) := by decide +kernel
theorem dX9_advance_3 : decode cX9_advance 3 = .ok (.ldc 88, 2) := by decide +kernel
theorem dX9_advance_5 : decode cX9_advance 5 = .ok (.if_icmp .ge 125, 3) := by decide +kernel
theorem dX9_advance_8 : decode cX9_advance 8 = .ok (.aload_n 0, 1) := by decide +kernel
theorem dX9_advance_9 : decode cX9_advance 9 = .ok (.getfield 52, 3) := by decide +kernel
theorem dX9_advance_12 : decode cX9_advance 12 = .ok (.ifCond .ne 118, 3) := by decide +kernel
theorem dX9_advance_15 : decode cX9_advance 15 = .ok (.aload_n 0, 1) := by decide +kernel
theorem dX9_advance_16 : decode cX9_advance 16 = .ok (.getfield 25, 3) := by decide +kernel
theorem dX9_advance_19 : decode cX9_advance 19 = .ok (.aload_n 0, 1) := by decide +kernel
theorem dX9_advance_20 : decode cX9_advance 20 = .ok (.getfield 62, 3) := by decide +kernel
theorem dX9_advance_23 : decode cX9_advance 23 = .ok (.getfield 89, 3) := by decide +kernel
theorem dX9_advance_26 : decode cX9_advance 26 = .ok (.lcmp, 1) := by decide +kernel
theorem dX9_advance_27 : decode cX9_advance 27 = .ok (.ifCond .ne 7, 3) := by decide +kernel
theorem dX9_advance_30 : decode cX9_advance 30 = .ok (.iconst 1, 1) := by decide +kernel
theorem dX9_advance_31 : decode cX9_advance 31 = .ok (.goto 4, 3) := by decide +kernel
theorem dX9_advance_34 : decode cX9_advance 34 = .ok (.iconst 0, 1) := by decide +kernel
theorem dX9_advance_35 : decode cX9_advance 35 = .ok (.istore_n 2, 1) := by decide +kernel
theorem dX9_advance_36 : decode cX9_advance 36 = .ok (.iload_n 2, 1) := by decide +kernel
theorem dX9_advance_37 : decode cX9_advance 37 = .ok (.ifCond .eq 34, 3) := by decide +kernel
theorem dX9_advance_40 : decode cX9_advance 40 = .ok (.aload_n 0, 1) := by decide +kernel
theorem dX9_advance_41 : decode cX9_advance 41 = .ok (.getfield 48, 3) := by decide +kernel
theorem dX9_advance_44 : decode cX9_advance 44 = .ok (.ifCond .eq 27, 3) := by decide +kernel
theorem dX9_advance_47 : decode cX9_advance 47 = .ok (.aload_n 0, 1) := by decide +kernel
theorem dX9_advance_48 : decode cX9_advance 48 = .ok (.invokevirtual 94, 3) := by decide +kernel
theorem dX9_advance_51 : decode cX9_advance 51 = .ok (.ifCond .eq 20, 3) := by decide +kernel
theorem dX9_advance_54 : decode cX9_advance 54 = .ok (.aload_n 0, 1) := by decide +kernel
theorem dX9_advance_55 : decode cX9_advance 55 = .ok (.iconst 0, 1) := by decide +kernel
theorem dX9_advance_56 : decode cX9_advance 56 = .ok (.putfield 48, 3) := by decide +kernel
theorem dX9_advance_59 : decode cX9_advance 59 = .ok (.aload_n 0, 1) := by decide +kernel
theorem dX9_advance_60 : decode cX9_advance 60 = .ok (.dup, 1) := by decide +kernel
theorem dX9_advance_61 : decode cX9_advance 61 = .ok (.getfield 45, 3) := by decide +kernel
theorem dX9_advance_64 : decode cX9_advance 64 = .ok (.iconst 1, 1) := by decide +kernel
theorem dX9_advance_65 : decode cX9_advance 65 = .ok (.iadd, 1) := by decide +kernel
theorem dX9_advance_66 : decode cX9_advance 66 = .ok (.putfield 45, 3) := by decide +kernel
theorem dX9_advance_69 : decode cX9_advance 69 = .ok (.iconst 1, 1) := by decide +kernel
theorem dX9_advance_70 : decode cX9_advance 70 = .ok (.ireturn, 1) := by decide +kernel
theorem dX9_advance_71 : decode cX9_advance 71 = .ok (.iload_n 2, 1) := by decide +kernel
theorem dX9_advance_72 : decode cX9_advance 72 = .ok (.ifCond .eq 7, 3) := by decide +kernel
theorem dX9_advance_75 : decode cX9_advance 75 = .ok (.iconst (-1), 1) := by decide +kernel
theorem dX9_advance_76 : decode cX9_advance 76 = .ok (.goto 7, 3) := by decide +kernel
theorem dX9_advance_79 : decode cX9_advance 79 = .ok (.aload_n 0, 1) := by decide +kernel
theorem dX9_advance_80 : decode cX9_advance 80 = .ok (.invokevirtual 98, 3) := by decide +kernel
theorem dX9_advance_83 : decode cX9_advance 83 = .ok (.istore_n 3, 1) := by decide +kernel
theorem dX9_advance_84 : decode cX9_advance 84 = .ok (.iload_n 3, 1) := by decide +kernel
theorem dX9_advance_85 : decode cX9_advance 85 = .ok (.iconst (-1), 1) := by decide +kernel
theorem dX9_advance_86 : decode cX9_advance 86 = .ok (.if_icmp .ne 10, 3) := by decide +kernel
theorem dX9_advance_89 : decode cX9_advance 89 = .ok (.aload_n 0, 1) := by decide +kernel
theorem dX9_advance_90 : decode cX9_advance 90 = .ok (.invokevirtual 101, 3) := by decide +kernel
theorem dX9_advance_93 : decode cX9_advance 93 = .ok (.goto 31, 3) := by decide +kernel
theorem dX9_advance_96 : decode cX9_advance 96 = .ok (.aload_n 0, 1) := by decide +kernel
theorem dX9_advance_97 : decode cX9_advance 97 = .ok (.getfield 42, 3) := by decide +kernel
theorem dX9_advance_100 : decode cX9_advance 100 = .ok (.sipush 20000, 3) := by decide +kernel
theorem dX9_advance_103 : decode cX9_advance 103 = .ok (.if_icmp .ge 11, 3) := by decide +kernel
theorem dX9_advance_106 : decode cX9_advance 106 = .ok (.aload_n 0, 1) := by decide +kernel
theorem dX9_advance_107 : decode cX9_advance 107 = .ok (.iload_n 3, 1) := by decide +kernel
theorem dX9_advance_108 : decode cX9_advance 108 = .ok (.invokevirtual 104, 3) := by decide +kernel
theorem dX9_advance_111 : decode cX9_advance 111 = .ok (.goto 13, 3) := by decide +kernel
theorem dX9_advance_114 : decode cX9_advance 114 = .ok (.aload_n 0, 1) := by decide +kernel
theorem dX9_advance_115 : decode cX9_advance 115 = .ok (.iconst 1, 1) := by decide +kernel
theorem dX9_advance_116 : decode cX9_advance 116 = .ok (.putfield 52, 3) := by decide +kernel
theorem dX9_advance_119 : decode cX9_advance 119 = .ok (.aload_n 0, 1) := by decide +kernel
theorem dX9_advance_120 : decode cX9_advance 120 = .ok (.iconst 1, 1) := by decide +kernel
theorem dX9_advance_121 : decode cX9_advance 121 = .ok (.putfield 55, 3) := by decide +kernel
theorem dX9_advance_124 : decode cX9_advance 124 = .ok (.iinc 1 1, 3) := by decide +kernel
theorem dX9_advance_127 : decode cX9_advance 127 = .ok (.goto (-125), 3) := by decide +kernel
theorem dX9_advance_130 : decode cX9_advance 130 = .ok (.iconst 0, 1) := by decide +kernel
theorem dX9_advance_131 : decode cX9_advance 131 = .ok (.ireturn, 1) := by decide +kernel
theorem dX9_isCover_0 : decode cX9_isCover 0 = .ok (.aload_n 0, 1) := by decide +kernel
theorem dX9_isCover_1 : decode cX9_isCover 1 = .ok (.getfield 58, 3) := by decide +kernel
theorem dX9_isCover_4 : decode cX9_isCover 4 = .ok (.getfield 108, 3) := by decide +kernel
theorem dX9_isCover_7 : decode cX9_isCover 7 = .ok (.ifCond .eq 14, 3) := by decide +kernel
theorem dX9_isCover_10 : decode cX9_isCover 10 = .ok (.aload_n 0, 1) := by decide +kernel
theorem dX9_isCover_11 : decode cX9_isCover 11 = .ok (.getfield 35, 3) := by decide +kernel
theorem dX9_isCover_14 : decode cX9_isCover 14 = .ok (.aload_n 0, 1) := by decide +kernel
theorem dX9_isCover_15 : decode cX9_isCover 15 = .ok (.getfield 39, 3) := by decide +kernel
theorem dX9_isCover_18 : decode cX9_isCover 18 = .ok (.if_icmp .ne 7, 3) := by decide +kernel
theorem dX9_isCover_21 : decode cX9_isCover 21 = .ok (.iconst 1, 1) := by decide +kernel
theorem dX9_isCover_22 : decode cX9_isCover 22 = .ok (.goto 4, 3) := by decide +kernel
theorem dX9_isCover_25 : decode cX9_isCover 25 = .ok (.iconst 0, 1) := by decide +kernel
theorem dX9_isCover_26 : decode cX9_isCover 26 = .ok (.ireturn, 1) := by decide +kernel
theorem dX9_stepOn_0 : decode cX9_stepOn 0 = .ok (.aload_n 0, 1) := by decide +kernel
theorem dX9_stepOn_1 : decode cX9_stepOn 1 = .ok (.dup, 1) := by decide +kernel
theorem dX9_stepOn_2 : decode cX9_stepOn 2 = .ok (.getfield 42, 3) := by decide +kernel
theorem dX9_stepOn_5 : decode cX9_stepOn 5 = .ok (.iconst 1, 1) := by decide +kernel
theorem dX9_stepOn_6 : decode cX9_stepOn 6 = .ok (.iadd, 1) := by decide +kernel
theorem dX9_stepOn_7 : decode cX9_stepOn 7 = .ok (.putfield 42, 3) := by decide +kernel
theorem dX9_stepOn_10 : decode cX9_stepOn 10 = .ok (.aload_n 0, 1) := by decide +kernel
theorem dX9_stepOn_11 : decode cX9_stepOn 11 = .ok (.iload_n 1, 1) := by decide +kernel
theorem dX9_stepOn_12 : decode cX9_stepOn 12 = .ok (.iconst 1, 1) := by decide +kernel
theorem dX9_stepOn_13 : decode cX9_stepOn 13 = .ok (.invokevirtual 111, 3) := by decide +kernel
theorem dX9_stepOn_16 : decode cX9_stepOn 16 = .ok (.aload_n 0, 1) := by decide +kernel
theorem dX9_stepOn_17 : decode cX9_stepOn 17 = .ok (.getfield 9, 3) := by decide +kernel
theorem dX9_stepOn_20 : decode cX9_stepOn 20 = .ok (.aload_n 0, 1) := by decide +kernel
theorem dX9_stepOn_21 : decode cX9_stepOn 21 = .ok (.getfield 35, 3) := by decide +kernel
theorem dX9_stepOn_24 : decode cX9_stepOn 24 = .ok (.iload_n 1, 1) := by decide +kernel
theorem dX9_stepOn_25 : decode cX9_stepOn 25 = .ok (.invokestatic 72, 3) := by decide +kernel
theorem dX9_stepOn_28 : decode cX9_stepOn 28 = .ok (.aload_n 0, 1) := by decide +kernel
theorem dX9_stepOn_29 : decode cX9_stepOn 29 = .ok (.dup, 1) := by decide +kernel
theorem dX9_stepOn_30 : decode cX9_stepOn 30 = .ok (.getfield 35, 3) := by decide +kernel
theorem dX9_stepOn_33 : decode cX9_stepOn 33 = .ok (.iconst 1, 1) := by decide +kernel
theorem dX9_stepOn_34 : decode cX9_stepOn 34 = .ok (.iadd, 1) := by decide +kernel
theorem dX9_stepOn_35 : decode cX9_stepOn 35 = .ok (.putfield 35, 3) := by decide +kernel
theorem dX9_stepOn_38 : decode cX9_stepOn 38 = .ok (.aload_n 0, 1) := by decide +kernel
theorem dX9_stepOn_39 : decode cX9_stepOn 39 = .ok (.iconst 1, 1) := by decide +kernel
theorem dX9_stepOn_40 : decode cX9_stepOn 40 = .ok (.putfield 48, 3) := by decide +kernel
theorem dX9_stepOn_43 : decode cX9_stepOn 43 = .ok (.aload_n 0, 1) := by decide +kernel
theorem dX9_stepOn_44 : decode cX9_stepOn 44 = .ok (.invokevirtual 85, 3) := by decide +kernel
theorem dX9_stepOn_47 : decode cX9_stepOn 47 = .ok (.return_, 1) := by decide +kernel
theorem dX9_stepBack_0 : decode cX9_stepBack 0 = .ok (.aload_n 0, 1) := by decide +kernel
theorem dX9_stepBack_1 : decode cX9_stepBack 1 = .ok (.getfield 35, 3) := by decide +kernel
theorem dX9_stepBack_4 : decode cX9_stepBack 4 = .ok (.ifCond .ne 11, 3) := by decide +kernel
theorem dX9_stepBack_7 : decode cX9_stepBack 7 = .ok (.aload_n 0, 1) := by decide +kernel
theorem dX9_stepBack_8 : decode cX9_stepBack 8 = .ok (.iconst 1, 1) := by decide +kernel
theorem dX9_stepBack_9 : decode cX9_stepBack 9 = .ok (.putfield 52, 3) := by decide +kernel
theorem dX9_stepBack_12 : decode cX9_stepBack 12 = .ok (.goto 29, 3) := by decide +kernel
theorem dX9_stepBack_15 : decode cX9_stepBack 15 = .ok (.aload_n 0, 1) := by decide +kernel
theorem dX9_stepBack_16 : decode cX9_stepBack 16 = .ok (.dup, 1) := by decide +kernel
theorem dX9_stepBack_17 : decode cX9_stepBack 17 = .ok (.getfield 35, 3) := by decide +kernel
theorem dX9_stepBack_20 : decode cX9_stepBack 20 = .ok (.iconst 1, 1) := by decide +kernel
theorem dX9_stepBack_21 : decode cX9_stepBack 21 = .ok (.isub, 1) := by decide +kernel
theorem dX9_stepBack_22 : decode cX9_stepBack 22 = .ok (.putfield 35, 3) := by decide +kernel
theorem dX9_stepBack_25 : decode cX9_stepBack 25 = .ok (.aload_n 0, 1) := by decide +kernel
theorem dX9_stepBack_26 : decode cX9_stepBack 26 = .ok (.aload_n 0, 1) := by decide +kernel
theorem dX9_stepBack_27 : decode cX9_stepBack 27 = .ok (.getfield 9, 3) := by decide +kernel
theorem dX9_stepBack_30 : decode cX9_stepBack 30 = .ok (.aload_n 0, 1) := by decide +kernel
theorem dX9_stepBack_31 : decode cX9_stepBack 31 = .ok (.getfield 35, 3) := by decide +kernel
theorem dX9_stepBack_34 : decode cX9_stepBack 34 = .ok (.invokestatic 115, 3) := by decide +kernel
theorem dX9_stepBack_37 : decode cX9_stepBack 37 = .ok (.iconst (-1), 1) := by decide +kernel
theorem dX9_stepBack_38 : decode cX9_stepBack 38 = .ok (.invokevirtual 111, 3) := by decide +kernel
theorem dX9_stepBack_41 : decode cX9_stepBack 41 = .ok (.return_, 1) := by decide +kernel
theorem dX9_openLevel_0 : decode cX9_openLevel 0 = .ok (.aload_n 0, 1) := by decide +kernel
theorem dX9_openLevel_1 : decode cX9_openLevel 1 = .ok (.getfield 62, 3) := by decide +kernel
theorem dX9_openLevel_4 : decode cX9_openLevel 4 = .ok (.getfield 89, 3) := by decide +kernel
theorem dX9_openLevel_7 : decode cX9_openLevel 7 = .ok (.aload_n 0, 1) := by decide +kernel
theorem dX9_openLevel_8 : decode cX9_openLevel 8 = .ok (.getfield 25, 3) := by decide +kernel
theorem dX9_openLevel_11 : decode cX9_openLevel 11 = .ok (.ldc2_w 119, 3) := by decide +kernel
theorem dX9_openLevel_14 : decode cX9_openLevel 14 = .ok (.lxor, 1) := by decide +kernel
theorem dX9_openLevel_15 : decode cX9_openLevel 15 = .ok (.land, 1) := by decide +kernel
theorem dX9_openLevel_16 : decode cX9_openLevel 16 = .ok (.invokestatic 121, 3) := by decide +kernel
theorem dX9_openLevel_19 : decode cX9_openLevel 19 = .ok (.istore_n 1, 1) := by decide +kernel
theorem dX9_openLevel_20 : decode cX9_openLevel 20 = .ok (.aload_n 0, 1) := by decide +kernel
theorem dX9_openLevel_21 : decode cX9_openLevel 21 = .ok (.getfield 15, 3) := by decide +kernel
theorem dX9_openLevel_24 : decode cX9_openLevel 24 = .ok (.aload_n 0, 1) := by decide +kernel
theorem dX9_openLevel_25 : decode cX9_openLevel 25 = .ok (.getfield 35, 3) := by decide +kernel
theorem dX9_openLevel_28 : decode cX9_openLevel 28 = .ok (.aload_n 0, 1) := by decide +kernel
theorem dX9_openLevel_29 : decode cX9_openLevel 29 = .ok (.getfield 62, 3) := by decide +kernel
theorem dX9_openLevel_32 : decode cX9_openLevel 32 = .ok (.getfield 125, 3) := by decide +kernel
theorem dX9_openLevel_35 : decode cX9_openLevel 35 = .ok (.iload_n 1, 1) := by decide +kernel
theorem dX9_openLevel_36 : decode cX9_openLevel 36 = .ok (.invokestatic 115, 3) := by decide +kernel
theorem dX9_openLevel_39 : decode cX9_openLevel 39 = .ok (.invokestatic 72, 3) := by decide +kernel
theorem dX9_openLevel_42 : decode cX9_openLevel 42 = .ok (.return_, 1) := by decide +kernel
theorem dX9_nextThatFits_0 : decode cX9_nextThatFits 0 = .ok (.aload_n 0, 1) := by decide +kernel
theorem dX9_nextThatFits_1 : decode cX9_nextThatFits 1 = .ok (.getfield 62, 3) := by decide +kernel
theorem dX9_nextThatFits_4 : decode cX9_nextThatFits 4 = .ok (.getfield 89, 3) := by decide +kernel
theorem dX9_nextThatFits_7 : decode cX9_nextThatFits 7 = .ok (.aload_n 0, 1) := by decide +kernel
theorem dX9_nextThatFits_8 : decode cX9_nextThatFits 8 = .ok (.getfield 25, 3) := by decide +kernel
theorem dX9_nextThatFits_11 : decode cX9_nextThatFits 11 = .ok (.ldc2_w 119, 3) := by decide +kernel
theorem dX9_nextThatFits_14 : decode cX9_nextThatFits 14 = .ok (.lxor, 1) := by decide +kernel
theorem dX9_nextThatFits_15 : decode cX9_nextThatFits 15 = .ok (.land, 1) := by decide +kernel
theorem dX9_nextThatFits_16 : decode cX9_nextThatFits 16 = .ok (.invokestatic 121, 3) := by decide +kernel
theorem dX9_nextThatFits_19 : decode cX9_nextThatFits 19 = .ok (.istore_n 1, 1) := by decide +kernel
theorem dX9_nextThatFits_20 : decode cX9_nextThatFits 20 = .ok (.aload_n 0, 1) := by decide +kernel
theorem dX9_nextThatFits_21 : decode cX9_nextThatFits 21 = .ok (.getfield 62, 3) := by decide +kernel
theorem dX9_nextThatFits_24 : decode cX9_nextThatFits 24 = .ok (.getfield 125, 3) := by decide +kernel
theorem dX9_nextThatFits_27 : decode cX9_nextThatFits 27 = .ok (.iload_n 1, 1) := by decide +kernel
theorem dX9_nextThatFits_28 : decode cX9_nextThatFits 28 = .ok (.iconst 1, 1) := by decide +kernel
theorem dX9_nextThatFits_29 : decode cX9_nextThatFits 29 = .ok (.iadd, 1) := by decide +kernel
theorem dX9_nextThatFits_30 : decode cX9_nextThatFits 30 = .ok (.invokestatic 115, 3) := by decide +kernel
theorem dX9_nextThatFits_33 : decode cX9_nextThatFits 33 = .ok (.istore_n 2, 1) := by decide +kernel
theorem dX9_nextThatFits_34 : decode cX9_nextThatFits 34 = .ok (.aload_n 0, 1) := by decide +kernel
theorem dX9_nextThatFits_35 : decode cX9_nextThatFits 35 = .ok (.getfield 15, 3) := by decide +kernel
theorem dX9_nextThatFits_38 : decode cX9_nextThatFits 38 = .ok (.aload_n 0, 1) := by decide +kernel
theorem dX9_nextThatFits_39 : decode cX9_nextThatFits 39 = .ok (.getfield 35, 3) := by decide +kernel
theorem dX9_nextThatFits_42 : decode cX9_nextThatFits 42 = .ok (.invokestatic 115, 3) := by decide +kernel
theorem dX9_nextThatFits_45 : decode cX9_nextThatFits 45 = .ok (.istore_n 3, 1) := by decide +kernel
theorem dX9_nextThatFits_46 : decode cX9_nextThatFits 46 = .ok (.iload_n 3, 1) := by decide +kernel
theorem dX9_nextThatFits_47 : decode cX9_nextThatFits 47 = .ok (.iload_n 2, 1) := by decide +kernel
theorem dX9_nextThatFits_48 : decode cX9_nextThatFits 48 = .ok (.if_icmp .ge 80, 3) := by decide +kernel
theorem dX9_nextThatFits_51 : decode cX9_nextThatFits 51 = .ok (.aload_n 0, 1) := by decide +kernel
theorem dX9_nextThatFits_52 : decode cX9_nextThatFits 52 = .ok (.getfield 62, 3) := by decide +kernel
theorem dX9_nextThatFits_55 : decode cX9_nextThatFits 55 = .ok (.getfield 128, 3) := by decide +kernel
theorem dX9_nextThatFits_58 : decode cX9_nextThatFits 58 = .ok (.iload_n 3, 1) := by decide +kernel
theorem dX9_nextThatFits_59 : decode cX9_nextThatFits 59 = .ok (.invokestatic 115, 3) := by decide +kernel
theorem dX9_nextThatFits_62 : decode cX9_nextThatFits 62 = .ok (.istore 4, 2) := by decide +kernel
theorem dX9_nextThatFits_64 : decode cX9_nextThatFits 64 = .ok (.aload_n 0, 1) := by decide +kernel
theorem dX9_nextThatFits_65 : decode cX9_nextThatFits 65 = .ok (.getfield 62, 3) := by decide +kernel
theorem dX9_nextThatFits_68 : decode cX9_nextThatFits 68 = .ok (.iload 4, 2) := by decide +kernel
theorem dX9_nextThatFits_70 : decode cX9_nextThatFits 70 = .ok (.invokevirtual 131, 3) := by decide +kernel
theorem dX9_nextThatFits_73 : decode cX9_nextThatFits 73 = .ok (.lstore 5, 2) := by decide +kernel
theorem dX9_nextThatFits_75 : decode cX9_nextThatFits 75 = .ok (.lload 5, 2) := by decide +kernel
theorem dX9_nextThatFits_77 : decode cX9_nextThatFits 77 = .ok (.aload_n 0, 1) := by decide +kernel
theorem dX9_nextThatFits_78 : decode cX9_nextThatFits 78 = .ok (.getfield 25, 3) := by decide +kernel
theorem dX9_nextThatFits_81 : decode cX9_nextThatFits 81 = .ok (.land, 1) := by decide +kernel
theorem dX9_nextThatFits_82 : decode cX9_nextThatFits 82 = .ok (.lconst 0, 1) := by decide +kernel
theorem dX9_nextThatFits_83 : decode cX9_nextThatFits 83 = .ok (.lcmp, 1) := by decide +kernel
theorem dX9_nextThatFits_84 : decode cX9_nextThatFits 84 = .ok (.ifCond .ne 38, 3) := by decide +kernel
theorem dX9_nextThatFits_87 : decode cX9_nextThatFits 87 = .ok (.aload_n 0, 1) := by decide +kernel
theorem dX9_nextThatFits_88 : decode cX9_nextThatFits 88 = .ok (.aload_n 0, 1) := by decide +kernel
theorem dX9_nextThatFits_89 : decode cX9_nextThatFits 89 = .ok (.getfield 62, 3) := by decide +kernel
theorem dX9_nextThatFits_92 : decode cX9_nextThatFits 92 = .ok (.iload 4, 2) := by decide +kernel
theorem dX9_nextThatFits_94 : decode cX9_nextThatFits 94 = .ok (.invokevirtual 135, 3) := by decide +kernel
theorem dX9_nextThatFits_97 : decode cX9_nextThatFits 97 = .ok (.lload 5, 2) := by decide +kernel
theorem dX9_nextThatFits_99 : decode cX9_nextThatFits 99 = .ok (.invokevirtual 138, 3) := by decide +kernel
theorem dX9_nextThatFits_102 : decode cX9_nextThatFits 102 = .ok (.ifCond .eq 20, 3) := by decide +kernel
theorem dX9_nextThatFits_105 : decode cX9_nextThatFits 105 = .ok (.aload_n 0, 1) := by decide +kernel
theorem dX9_nextThatFits_106 : decode cX9_nextThatFits 106 = .ok (.getfield 15, 3) := by decide +kernel
theorem dX9_nextThatFits_109 : decode cX9_nextThatFits 109 = .ok (.aload_n 0, 1) := by decide +kernel
theorem dX9_nextThatFits_110 : decode cX9_nextThatFits 110 = .ok (.getfield 35, 3) := by decide +kernel
theorem dX9_nextThatFits_113 : decode cX9_nextThatFits 113 = .ok (.iload_n 3, 1) := by decide +kernel
theorem dX9_nextThatFits_114 : decode cX9_nextThatFits 114 = .ok (.iconst 1, 1) := by decide +kernel
theorem dX9_nextThatFits_115 : decode cX9_nextThatFits 115 = .ok (.iadd, 1) := by decide +kernel
theorem dX9_nextThatFits_116 : decode cX9_nextThatFits 116 = .ok (.invokestatic 72, 3) := by decide +kernel
theorem dX9_nextThatFits_119 : decode cX9_nextThatFits 119 = .ok (.iload 4, 2) := by decide +kernel
theorem dX9_nextThatFits_121 : decode cX9_nextThatFits 121 = .ok (.ireturn, 1) := by decide +kernel
theorem dX9_nextThatFits_122 : decode cX9_nextThatFits 122 = .ok (.iinc 3 1, 3) := by decide +kernel
theorem dX9_nextThatFits_125 : decode cX9_nextThatFits 125 = .ok (.goto (-79), 3) := by decide +kernel
theorem dX9_nextThatFits_128 : decode cX9_nextThatFits 128 = .ok (.iconst (-1), 1) := by decide +kernel
theorem dX9_nextThatFits_129 : decode cX9_nextThatFits 129 = .ok (.ireturn, 1) := by decide +kernel
theorem dX9_isAllowed_0 : decode cX9_isAllowed 0 = .ok (.aload_n 0, 1) := by decide +kernel
theorem dX9_isAllowed_1 : decode cX9_isAllowed 1 = .ok (.getfield 18, 3) := by decide +kernel
theorem dX9_isAllowed_4 : decode cX9_isAllowed 4 = .ok (.iload_n 1, 1) := by decide +kernel
theorem dX9_isAllowed_5 : decode cX9_isAllowed 5 = .ok (.invokestatic 115, 3) := by decide +kernel
theorem dX9_isAllowed_8 : decode cX9_isAllowed 8 = .ok (.ifCond .ne 5, 3) := by decide +kernel
theorem dX9_isAllowed_11 : decode cX9_isAllowed 11 = .ok (.iconst 0, 1) := by decide +kernel
theorem dX9_isAllowed_12 : decode cX9_isAllowed 12 = .ok (.ireturn, 1) := by decide +kernel
theorem dX9_isAllowed_13 : decode cX9_isAllowed 13 = .ok (.aload_n 0, 1) := by decide +kernel
theorem dX9_isAllowed_14 : decode cX9_isAllowed 14 = .ok (.getfield 58, 3) := by decide +kernel
theorem dX9_isAllowed_17 : decode cX9_isAllowed 17 = .ok (.iload_n 1, 1) := by decide +kernel
theorem dX9_isAllowed_18 : decode cX9_isAllowed 18 = .ok (.invokevirtual 142, 3) := by decide +kernel
theorem dX9_isAllowed_21 : decode cX9_isAllowed 21 = .ok (.istore 4, 2) := by decide +kernel
theorem dX9_isAllowed_23 : decode cX9_isAllowed 23 = .ok (.aload_n 0, 1) := by decide +kernel
theorem dX9_isAllowed_24 : decode cX9_isAllowed 24 = .ok (.getfield 58, 3) := by decide +kernel
theorem dX9_isAllowed_27 : decode cX9_isAllowed 27 = .ok (.getfield 145, 3) := by decide +kernel
theorem dX9_isAllowed_30 : decode cX9_isAllowed 30 = .ok (.ifCond .eq 32, 3) := by decide +kernel
theorem dX9_isAllowed_33 : decode cX9_isAllowed 33 = .ok (.iload 4, 2) := by decide +kernel
theorem dX9_isAllowed_35 : decode cX9_isAllowed 35 = .ok (.ifCond .le 27, 3) := by decide +kernel
theorem dX9_isAllowed_38 : decode cX9_isAllowed 38 = .ok (.iload 4, 2) := by decide +kernel
theorem dX9_isAllowed_40 : decode cX9_isAllowed 40 = .ok (.iconst 4, 1) := by decide +kernel
theorem dX9_isAllowed_41 : decode cX9_isAllowed 41 = .ok (.if_icmp .ge 21, 3) := by decide +kernel
theorem dX9_isAllowed_44 : decode cX9_isAllowed 44 = .ok (.aload_n 0, 1) := by decide +kernel
theorem dX9_isAllowed_45 : decode cX9_isAllowed 45 = .ok (.lload_n 2, 1) := by decide +kernel
theorem dX9_isAllowed_46 : decode cX9_isAllowed 46 = .ok (.invokevirtual 148, 3) := by decide +kernel
theorem dX9_isAllowed_49 : decode cX9_isAllowed 49 = .ok (.aload_n 0, 1) := by decide +kernel
theorem dX9_isAllowed_50 : decode cX9_isAllowed 50 = .ok (.getfield 21, 3) := by decide +kernel
theorem dX9_isAllowed_53 : decode cX9_isAllowed 53 = .ok (.iload 4, 2) := by decide +kernel
theorem dX9_isAllowed_55 : decode cX9_isAllowed 55 = .ok (.laload, 1) := by decide +kernel
theorem dX9_isAllowed_56 : decode cX9_isAllowed 56 = .ok (.land, 1) := by decide +kernel
theorem dX9_isAllowed_57 : decode cX9_isAllowed 57 = .ok (.lconst 0, 1) := by decide +kernel
theorem dX9_isAllowed_58 : decode cX9_isAllowed 58 = .ok (.lcmp, 1) := by decide +kernel
theorem dX9_isAllowed_59 : decode cX9_isAllowed 59 = .ok (.ifCond .ne 7, 3) := by decide +kernel
theorem dX9_isAllowed_62 : decode cX9_isAllowed 62 = .ok (.iconst 1, 1) := by decide +kernel
theorem dX9_isAllowed_63 : decode cX9_isAllowed 63 = .ok (.goto 4, 3) := by decide +kernel
theorem dX9_isAllowed_66 : decode cX9_isAllowed 66 = .ok (.iconst 0, 1) := by decide +kernel
theorem dX9_isAllowed_67 : decode cX9_isAllowed 67 = .ok (.ireturn, 1) := by decide +kernel
theorem dX9_around_0 : decode cX9_around 0 = .ok (.lload_n 1, 1) := by decide +kernel
theorem dX9_around_1 : decode cX9_around 1 = .ok (.aload_n 0, 1) := by decide +kernel
theorem dX9_around_2 : decode cX9_around 2 = .ok (.getfield 32, 3) := by decide +kernel
theorem dX9_around_5 : decode cX9_around 5 = .ok (.ldc2_w 119, 3) := by decide +kernel
theorem dX9_around_8 : decode cX9_around 8 = .ok (.lxor, 1) := by decide +kernel
theorem dX9_around_9 : decode cX9_around 9 = .ok (.land, 1) := by decide +kernel
theorem dX9_around_10 : decode cX9_around 10 = .ok (.iconst 1, 1) := by decide +kernel
theorem dX9_around_11 : decode cX9_around 11 = .ok (.lshl, 1) := by decide +kernel
theorem dX9_around_12 : decode cX9_around 12 = .ok (.lstore_n 3, 1) := by decide +kernel
theorem dX9_around_13 : decode cX9_around 13 = .ok (.lload_n 1, 1) := by decide +kernel
theorem dX9_around_14 : decode cX9_around 14 = .ok (.aload_n 0, 1) := by decide +kernel
theorem dX9_around_15 : decode cX9_around 15 = .ok (.getfield 29, 3) := by decide +kernel
theorem dX9_around_18 : decode cX9_around 18 = .ok (.ldc2_w 119, 3) := by decide +kernel
theorem dX9_around_21 : decode cX9_around 21 = .ok (.lxor, 1) := by decide +kernel
theorem dX9_around_22 : decode cX9_around 22 = .ok (.land, 1) := by decide +kernel
theorem dX9_around_23 : decode cX9_around 23 = .ok (.iconst 1, 1) := by decide +kernel
theorem dX9_around_24 : decode cX9_around 24 = .ok (.lushr, 1) := by decide +kernel
theorem dX9_around_25 : decode cX9_around 25 = .ok (.lstore 5, 2) := by decide +kernel
theorem dX9_around_27 : decode cX9_around 27 = .ok (.lload_n 3, 1) := by decide +kernel
theorem dX9_around_28 : decode cX9_around 28 = .ok (.lload 5, 2) := by decide +kernel
theorem dX9_around_30 : decode cX9_around 30 = .ok (.lor, 1) := by decide +kernel
theorem dX9_around_31 : decode cX9_around 31 = .ok (.lload_n 1, 1) := by decide +kernel
theorem dX9_around_32 : decode cX9_around 32 = .ok (.aload_n 0, 1) := by decide +kernel
theorem dX9_around_33 : decode cX9_around 33 = .ok (.getfield 58, 3) := by decide +kernel
theorem dX9_around_36 : decode cX9_around 36 = .ok (.getfield 79, 3) := by decide +kernel
theorem dX9_around_39 : decode cX9_around 39 = .ok (.lshl, 1) := by decide +kernel
theorem dX9_around_40 : decode cX9_around 40 = .ok (.lor, 1) := by decide +kernel
theorem dX9_around_41 : decode cX9_around 41 = .ok (.lload_n 1, 1) := by decide +kernel
theorem dX9_around_42 : decode cX9_around 42 = .ok (.aload_n 0, 1) := by decide +kernel
theorem dX9_around_43 : decode cX9_around 43 = .ok (.getfield 58, 3) := by decide +kernel
theorem dX9_around_46 : decode cX9_around 46 = .ok (.getfield 79, 3) := by decide +kernel
theorem dX9_around_49 : decode cX9_around 49 = .ok (.lushr, 1) := by decide +kernel
theorem dX9_around_50 : decode cX9_around 50 = .ok (.lor, 1) := by decide +kernel
theorem dX9_around_51 : decode cX9_around 51 = .ok (.lreturn, 1) := by decide +kernel
theorem dX9_change_0 : decode cX9_change 0 = .ok (.aload_n 0, 1) := by decide +kernel
theorem dX9_change_1 : decode cX9_change 1 = .ok (.getfield 62, 3) := by decide +kernel
theorem dX9_change_4 : decode cX9_change 4 = .ok (.iload_n 1, 1) := by decide +kernel
theorem dX9_change_5 : decode cX9_change 5 = .ok (.invokevirtual 131, 3) := by decide +kernel
theorem dX9_change_8 : decode cX9_change 8 = .ok (.lstore_n 3, 1) := by decide +kernel
theorem dX9_change_9 : decode cX9_change 9 = .ok (.aload_n 0, 1) := by decide +kernel
theorem dX9_change_10 : decode cX9_change 10 = .ok (.getfield 62, 3) := by decide +kernel
theorem dX9_change_13 : decode cX9_change 13 = .ok (.iload_n 1, 1) := by decide +kernel
theorem dX9_change_14 : decode cX9_change 14 = .ok (.invokevirtual 135, 3) := by decide +kernel
theorem dX9_change_17 : decode cX9_change 17 = .ok (.istore 5, 2) := by decide +kernel
theorem dX9_change_19 : decode cX9_change 19 = .ok (.aload_n 0, 1) := by decide +kernel
theorem dX9_change_20 : decode cX9_change 20 = .ok (.getfield 58, 3) := by decide +kernel
theorem dX9_change_23 : decode cX9_change 23 = .ok (.iload 5, 2) := by decide +kernel
theorem dX9_change_25 : decode cX9_change 25 = .ok (.invokevirtual 142, 3) := by decide +kernel
theorem dX9_change_28 : decode cX9_change 28 = .ok (.istore 6, 2) := by decide +kernel
theorem dX9_change_30 : decode cX9_change 30 = .ok (.aload_n 0, 1) := by decide +kernel
theorem dX9_change_31 : decode cX9_change 31 = .ok (.dup, 1) := by decide +kernel
theorem dX9_change_32 : decode cX9_change 32 = .ok (.getfield 25, 3) := by decide +kernel
theorem dX9_change_35 : decode cX9_change 35 = .ok (.lload_n 3, 1) := by decide +kernel
theorem dX9_change_36 : decode cX9_change 36 = .ok (.lxor, 1) := by decide +kernel
theorem dX9_change_37 : decode cX9_change 37 = .ok (.putfield 25, 3) := by decide +kernel
theorem dX9_change_40 : decode cX9_change 40 = .ok (.aload_n 0, 1) := by decide +kernel
theorem dX9_change_41 : decode cX9_change 41 = .ok (.getfield 18, 3) := by decide +kernel
theorem dX9_change_44 : decode cX9_change 44 = .ok (.iload 5, 2) := by decide +kernel
theorem dX9_change_46 : decode cX9_change 46 = .ok (.aload_n 0, 1) := by decide +kernel
theorem dX9_change_47 : decode cX9_change 47 = .ok (.getfield 18, 3) := by decide +kernel
theorem dX9_change_50 : decode cX9_change 50 = .ok (.iload 5, 2) := by decide +kernel
theorem dX9_change_52 : decode cX9_change 52 = .ok (.invokestatic 115, 3) := by decide +kernel
theorem dX9_change_55 : decode cX9_change 55 = .ok (.iload_n 2, 1) := by decide +kernel
theorem dX9_change_56 : decode cX9_change 56 = .ok (.isub, 1) := by decide +kernel
theorem dX9_change_57 : decode cX9_change 57 = .ok (.invokestatic 72, 3) := by decide +kernel
theorem dX9_change_60 : decode cX9_change 60 = .ok (.iload 6, 2) := by decide +kernel
theorem dX9_change_62 : decode cX9_change 62 = .ok (.ifCond .lt 20, 3) := by decide +kernel
theorem dX9_change_65 : decode cX9_change 65 = .ok (.iload 6, 2) := by decide +kernel
theorem dX9_change_67 : decode cX9_change 67 = .ok (.iconst 4, 1) := by decide +kernel
theorem dX9_change_68 : decode cX9_change 68 = .ok (.if_icmp .ge 14, 3) := by decide +kernel
theorem dX9_change_71 : decode cX9_change 71 = .ok (.aload_n 0, 1) := by decide +kernel
theorem dX9_change_72 : decode cX9_change 72 = .ok (.getfield 21, 3) := by decide +kernel
theorem dX9_change_75 : decode cX9_change 75 = .ok (.iload 6, 2) := by decide +kernel
theorem dX9_change_77 : decode cX9_change 77 = .ok (.dup2, 1) := by decide +kernel
theorem dX9_change_78 : decode cX9_change 78 = .ok (.laload, 1) := by decide +kernel
theorem dX9_change_79 : decode cX9_change 79 = .ok (.lload_n 3, 1) := by decide +kernel
theorem dX9_change_80 : decode cX9_change 80 = .ok (.lxor, 1) := by decide +kernel
theorem dX9_change_81 : decode cX9_change 81 = .ok (.lastore, 1) := by decide +kernel
theorem dX9_change_82 : decode cX9_change 82 = .ok (.return_, 1) := by decide +kernel
theorem dX9_writeTo_0 : decode cX9_writeTo 0 = .ok (.iconst 0, 1) := by decide +kernel
theorem dX9_writeTo_1 : decode cX9_writeTo 1 = .ok (.istore_n 3, 1) := by decide +kernel
theorem dX9_writeTo_2 : decode cX9_writeTo 2 = .ok (.iload_n 3, 1) := by decide +kernel
theorem dX9_writeTo_3 : decode cX9_writeTo 3 = .ok (.bipush 36, 2) := by decide +kernel
theorem dX9_writeTo_5 : decode cX9_writeTo 5 = .ok (.if_icmp .ge 17, 3) := by decide +kernel
theorem dX9_writeTo_8 : decode cX9_writeTo 8 = .ok (.aload_n 1, 1) := by decide +kernel
theorem dX9_writeTo_9 : decode cX9_writeTo 9 = .ok (.iload_n 2, 1) := by decide +kernel
theorem dX9_writeTo_10 : decode cX9_writeTo 10 = .ok (.iload_n 3, 1) := by decide +kernel
theorem dX9_writeTo_11 : decode cX9_writeTo 11 = .ok (.iadd, 1) := by decide +kernel
theorem dX9_writeTo_12 : decode cX9_writeTo 12 = .ok (.iconst (-1), 1) := by decide +kernel
theorem dX9_writeTo_13 : decode cX9_writeTo 13 = .ok (.invokestatic 72, 3) := by decide +kernel
theorem dX9_writeTo_16 : decode cX9_writeTo 16 = .ok (.iinc 3 1, 3) := by decide +kernel
theorem dX9_writeTo_19 : decode cX9_writeTo 19 = .ok (.goto (-17), 3) := by decide +kernel
theorem dX9_writeTo_22 : decode cX9_writeTo 22 = .ok (.iconst 0, 1) := by decide +kernel
theorem dX9_writeTo_23 : decode cX9_writeTo 23 = .ok (.istore_n 3, 1) := by decide +kernel
theorem dX9_writeTo_24 : decode cX9_writeTo 24 = .ok (.iload_n 3, 1) := by decide +kernel
theorem dX9_writeTo_25 : decode cX9_writeTo 25 = .ok (.aload_n 0, 1) := by decide +kernel
theorem dX9_writeTo_26 : decode cX9_writeTo 26 = .ok (.getfield 35, 3) := by decide +kernel
theorem dX9_writeTo_29 : decode cX9_writeTo 29 = .ok (.if_icmp .ge 70, 3) := by decide +kernel
theorem dX9_writeTo_32 : decode cX9_writeTo 32 = .ok (.aload_n 0, 1) := by decide +kernel
theorem dX9_writeTo_33 : decode cX9_writeTo 33 = .ok (.getfield 9, 3) := by decide +kernel
theorem dX9_writeTo_36 : decode cX9_writeTo 36 = .ok (.iload_n 3, 1) := by decide +kernel
theorem dX9_writeTo_37 : decode cX9_writeTo 37 = .ok (.invokestatic 115, 3) := by decide +kernel
theorem dX9_writeTo_40 : decode cX9_writeTo 40 = .ok (.istore 4, 2) := by decide +kernel
theorem dX9_writeTo_42 : decode cX9_writeTo 42 = .ok (.aload_n 0, 1) := by decide +kernel
theorem dX9_writeTo_43 : decode cX9_writeTo 43 = .ok (.getfield 62, 3) := by decide +kernel
theorem dX9_writeTo_46 : decode cX9_writeTo 46 = .ok (.iload 4, 2) := by decide +kernel
theorem dX9_writeTo_48 : decode cX9_writeTo 48 = .ok (.invokevirtual 131, 3) := by decide +kernel
theorem dX9_writeTo_51 : decode cX9_writeTo 51 = .ok (.lstore 5, 2) := by decide +kernel
theorem dX9_writeTo_53 : decode cX9_writeTo 53 = .ok (.lload 5, 2) := by decide +kernel
theorem dX9_writeTo_55 : decode cX9_writeTo 55 = .ok (.invokestatic 121, 3) := by decide +kernel
theorem dX9_writeTo_58 : decode cX9_writeTo 58 = .ok (.istore 7, 2) := by decide +kernel
theorem dX9_writeTo_60 : decode cX9_writeTo 60 = .ok (.iload 7, 2) := by decide +kernel
theorem dX9_writeTo_62 : decode cX9_writeTo 62 = .ok (.bipush 36, 2) := by decide +kernel
theorem dX9_writeTo_64 : decode cX9_writeTo 64 = .ok (.if_icmp .ge 29, 3) := by decide +kernel
theorem dX9_writeTo_67 : decode cX9_writeTo 67 = .ok (.lload 5, 2) := by decide +kernel
theorem dX9_writeTo_69 : decode cX9_writeTo 69 = .ok (.iload 7, 2) := by decide +kernel
theorem dX9_writeTo_71 : decode cX9_writeTo 71 = .ok (.invokestatic 152, 3) := by decide +kernel
theorem dX9_writeTo_74 : decode cX9_writeTo 74 = .ok (.ifCond .eq 13, 3) := by decide +kernel
theorem dX9_writeTo_77 : decode cX9_writeTo 77 = .ok (.aload_n 1, 1) := by decide +kernel
theorem dX9_writeTo_78 : decode cX9_writeTo 78 = .ok (.iload_n 2, 1) := by decide +kernel
theorem dX9_writeTo_79 : decode cX9_writeTo 79 = .ok (.iload 7, 2) := by decide +kernel
theorem dX9_writeTo_81 : decode cX9_writeTo 81 = .ok (.iadd, 1) := by decide +kernel
theorem dX9_writeTo_82 : decode cX9_writeTo 82 = .ok (.iload 4, 2) := by decide +kernel
theorem dX9_writeTo_84 : decode cX9_writeTo 84 = .ok (.invokestatic 72, 3) := by decide +kernel
theorem dX9_writeTo_87 : decode cX9_writeTo 87 = .ok (.iinc 7 1, 3) := by decide +kernel
theorem dX9_writeTo_90 : decode cX9_writeTo 90 = .ok (.goto (-30), 3) := by decide +kernel
theorem dX9_writeTo_93 : decode cX9_writeTo 93 = .ok (.iinc 3 1, 3) := by decide +kernel
theorem dX9_writeTo_96 : decode cX9_writeTo 96 = .ok (.goto (-72), 3) := by decide +kernel
theorem dX9_writeTo_99 : decode cX9_writeTo 99 = .ok (.return_, 1) := by decide +kernel
theorem dX10_init_0 : decode cX10_init 0 = .ok (.aload_n 0, 1) := by decide +kernel
theorem dX10_init_1 : decode cX10_init 1 = .ok (.invokespecial 3, 3) := by decide +kernel
theorem dX10_init_4 : decode cX10_init 4 = .ok (.aload_n 0, 1) := by decide +kernel
theorem dX10_init_5 : decode cX10_init 5 = .ok (.bipush 36, 2) := by decide +kernel
theorem dX10_init_7 : decode cX10_init 7 = .ok (.newarray .int, 2) := by decide +kernel
theorem dX10_init_9 : decode cX10_init 9 = .ok (.putfield 9, 3) := by decide +kernel
theorem dX10_init_12 : decode cX10_init 12 = .ok (.aload_n 0, 1) := by decide +kernel
theorem dX10_init_13 : decode cX10_init 13 = .ok (.bipush 8, 2) := by decide +kernel
theorem dX10_init_15 : decode cX10_init 15 = .ok (.newarray .int, 2) := by decide +kernel
theorem dX10_init_17 : decode cX10_init 17 = .ok (.putfield 15, 3) := by decide +kernel
theorem dX10_init_20 : decode cX10_init 20 = .ok (.aload_n 0, 1) := by decide +kernel
theorem dX10_init_21 : decode cX10_init 21 = .ok (.iconst 2, 1) := by decide +kernel
theorem dX10_init_22 : decode cX10_init 22 = .ok (.putfield 18, 3) := by decide +kernel
theorem dX10_init_25 : decode cX10_init 25 = .ok (.return_, 1) := by decide +kernel
theorem dX10_excludeCover_0 : decode cX10_excludeCover 0 = .ok (.aload_n 0, 1) := by decide +kernel
theorem dX10_excludeCover_1 : decode cX10_excludeCover 1 = .ok (.iload 5, 2) := by decide +kernel
theorem dX10_excludeCover_3 : decode cX10_excludeCover 3 = .ok (.putfield 18, 3) := by decide +kernel
theorem dX10_excludeCover_6 : decode cX10_excludeCover 6 = .ok (.aload_n 0, 1) := by decide +kernel
theorem dX10_excludeCover_7 : decode cX10_excludeCover 7 = .ok (.aload_n 1, 1) := by decide +kernel
theorem dX10_excludeCover_8 : decode cX10_excludeCover 8 = .ok (.iload_n 3, 1) := by decide +kernel
theorem dX10_excludeCover_9 : decode cX10_excludeCover 9 = .ok (.iload 4, 2) := by decide +kernel
theorem dX10_excludeCover_11 : decode cX10_excludeCover 11 = .ok (.invokevirtual 22, 3) := by decide +kernel
theorem dX10_excludeCover_14 : decode cX10_excludeCover 14 = .ok (.aload_n 0, 1) := by decide +kernel
theorem dX10_excludeCover_15 : decode cX10_excludeCover 15 = .ok (.aload_n 2, 1) := by decide +kernel
theorem dX10_excludeCover_16 : decode cX10_excludeCover 16 = .ok (.invokevirtual 26, 3) := by decide +kernel
theorem dX10_excludeCover_19 : decode cX10_excludeCover 19 = .ok (.iconst 1, 1) := by decide +kernel
theorem dX10_excludeCover_20 : decode cX10_excludeCover 20 = .ok (.istore 6, 2) := by decide +kernel
theorem dX10_excludeCover_22 : decode cX10_excludeCover 22 = .ok (.iconst 0, 1) := by decide +kernel
theorem dX10_excludeCover_23 : decode cX10_excludeCover 23 = .ok (.istore 7, 2) := by decide +kernel
theorem dX10_excludeCover_25 : decode cX10_excludeCover 25 = .ok (.iload 7, 2) := by decide +kernel
theorem dX10_excludeCover_27 : decode cX10_excludeCover 27 = .ok (.aload_n 1, 1) := by decide +kernel
theorem dX10_excludeCover_28 : decode cX10_excludeCover 28 = .ok (.getfield 30, 3) := by decide +kernel
theorem dX10_excludeCover_31 : decode cX10_excludeCover 31 = .ok (.if_icmp .ge 63, 3) := by decide +kernel
theorem dX10_excludeCover_34 : decode cX10_excludeCover 34 = .ok (.aload_n 0, 1) := by decide +kernel
theorem dX10_excludeCover_35 : decode cX10_excludeCover 35 = .ok (.getfield 15, 3) := by decide +kernel
theorem dX10_excludeCover_38 : decode cX10_excludeCover 38 = .ok (.iload 7, 2) := by decide +kernel
theorem dX10_excludeCover_40 : decode cX10_excludeCover 40 = .ok (.invokestatic 35, 3) := by decide +kernel
theorem dX10_excludeCover_43 : decode cX10_excludeCover 43 = .ok (.aload_n 1, 1) := by decide +kernel
theorem dX10_excludeCover_44 : decode cX10_excludeCover 44 = .ok (.getfield 39, 3) := by decide +kernel
theorem dX10_excludeCover_47 : decode cX10_excludeCover 47 = .ok (.ifCond .ne 7, 3) := by decide +kernel
theorem dX10_excludeCover_50 : decode cX10_excludeCover 50 = .ok (.iconst 1, 1) := by decide +kernel
theorem dX10_excludeCover_51 : decode cX10_excludeCover 51 = .ok (.goto 4, 3) := by decide +kernel
theorem dX10_excludeCover_54 : decode cX10_excludeCover 54 = .ok (.iconst 0, 1) := by decide +kernel
theorem dX10_excludeCover_55 : decode cX10_excludeCover 55 = .ok (.ior, 1) := by decide +kernel
theorem dX10_excludeCover_56 : decode cX10_excludeCover 56 = .ok (.istore 8, 2) := by decide +kernel
theorem dX10_excludeCover_58 : decode cX10_excludeCover 58 = .ok (.iconst 0, 1) := by decide +kernel
theorem dX10_excludeCover_59 : decode cX10_excludeCover 59 = .ok (.istore 9, 2) := by decide +kernel
theorem dX10_excludeCover_61 : decode cX10_excludeCover 61 = .ok (.iload 9, 2) := by decide +kernel
theorem dX10_excludeCover_63 : decode cX10_excludeCover 63 = .ok (.aload_n 1, 1) := by decide +kernel
theorem dX10_excludeCover_64 : decode cX10_excludeCover 64 = .ok (.iload 7, 2) := by decide +kernel
theorem dX10_excludeCover_66 : decode cX10_excludeCover 66 = .ok (.invokevirtual 42, 3) := by decide +kernel
theorem dX10_excludeCover_69 : decode cX10_excludeCover 69 = .ok (.if_icmp .ge 19, 3) := by decide +kernel
theorem dX10_excludeCover_72 : decode cX10_excludeCover 72 = .ok (.aload_n 0, 1) := by decide +kernel
theorem dX10_excludeCover_73 : decode cX10_excludeCover 73 = .ok (.iload 6, 2) := by decide +kernel
theorem dX10_excludeCover_75 : decode cX10_excludeCover 75 = .ok (.iload 8, 2) := by decide +kernel
theorem dX10_excludeCover_77 : decode cX10_excludeCover 77 = .ok (.invokevirtual 46, 3) := by decide +kernel
theorem dX10_excludeCover_80 : decode cX10_excludeCover 80 = .ok (.istore 6, 2) := by decide +kernel
theorem dX10_excludeCover_82 : decode cX10_excludeCover 82 = .ok (.iinc 9 1, 3) := by decide +kernel
theorem dX10_excludeCover_85 : decode cX10_excludeCover 85 = .ok (.goto (-24), 3) := by decide +kernel
theorem dX10_excludeCover_88 : decode cX10_excludeCover 88 = .ok (.iinc 7 1, 3) := by decide +kernel
theorem dX10_excludeCover_91 : decode cX10_excludeCover 91 = .ok (.goto (-66), 3) := by decide +kernel
theorem dX10_excludeCover_94 : decode cX10_excludeCover 94 = .ok (.iload 6, 2) := by decide +kernel
theorem dX10_excludeCover_96 : decode cX10_excludeCover 96 = .ok (.aload_n 0, 1) := by decide +kernel
theorem dX10_excludeCover_97 : decode cX10_excludeCover 97 = .ok (.aload_n 2, 1) := by decide +kernel
theorem dX10_excludeCover_98 : decode cX10_excludeCover 98 = .ok (.getfield 50, 3) := by decide +kernel
theorem dX10_excludeCover_101 : decode cX10_excludeCover 101 = .ok (.invokevirtual 56, 3) := by decide +kernel
theorem dX10_excludeCover_104 : decode cX10_excludeCover 104 = .ok (.iushr, 1) := by decide +kernel
theorem dX10_excludeCover_105 : decode cX10_excludeCover 105 = .ok (.iconst 1, 1) := by decide +kernel
theorem dX10_excludeCover_106 : decode cX10_excludeCover 106 = .ok (.iand, 1) := by decide +kernel
theorem dX10_excludeCover_107 : decode cX10_excludeCover 107 = .ok (.ifCond .ne 7, 3) := by decide +kernel
theorem dX10_excludeCover_110 : decode cX10_excludeCover 110 = .ok (.iconst 1, 1) := by decide +kernel
theorem dX10_excludeCover_111 : decode cX10_excludeCover 111 = .ok (.goto 4, 3) := by decide +kernel
theorem dX10_excludeCover_114 : decode cX10_excludeCover 114 = .ok (.iconst 0, 1) := by decide +kernel
theorem dX10_excludeCover_115 : decode cX10_excludeCover 115 = .ok (.ireturn, 1) := by decide +kernel
theorem dX10_weighCells_0 : decode cX10_weighCells 0 = .ok (.iconst 0, 1) := by decide +kernel
theorem dX10_weighCells_1 : decode cX10_weighCells 1 = .ok (.istore 4, 2) := by decide +kernel
theorem dX10_weighCells_3 : decode cX10_weighCells 3 = .ok (.iload 4, 2) := by decide +kernel
theorem dX10_weighCells_5 : decode cX10_weighCells 5 = .ok (.aload_n 0, 1) := by decide +kernel
theorem dX10_weighCells_6 : decode cX10_weighCells 6 = .ok (.getfield 9, 3) := by decide +kernel
theorem dX10_weighCells_9 : decode cX10_weighCells 9 = .ok (.arraylength, 1) := by decide +kernel
theorem dX10_weighCells_10 : decode cX10_weighCells 10 = .ok (.if_icmp .ge 37, 3) := by decide +kernel
theorem dX10_weighCells_13 : decode cX10_weighCells 13 = .ok (.aload_n 0, 1) := by decide +kernel
theorem dX10_weighCells_14 : decode cX10_weighCells 14 = .ok (.getfield 9, 3) := by decide +kernel
theorem dX10_weighCells_17 : decode cX10_weighCells 17 = .ok (.iload 4, 2) := by decide +kernel
theorem dX10_weighCells_19 : decode cX10_weighCells 19 = .ok (.aload_n 0, 1) := by decide +kernel
theorem dX10_weighCells_20 : decode cX10_weighCells 20 = .ok (.iload_n 2, 1) := by decide +kernel
theorem dX10_weighCells_21 : decode cX10_weighCells 21 = .ok (.aload_n 1, 1) := by decide +kernel
theorem dX10_weighCells_22 : decode cX10_weighCells 22 = .ok (.iload 4, 2) := by decide +kernel
theorem dX10_weighCells_24 : decode cX10_weighCells 24 = .ok (.invokevirtual 60, 3) := by decide +kernel
theorem dX10_weighCells_27 : decode cX10_weighCells 27 = .ok (.imul, 1) := by decide +kernel
theorem dX10_weighCells_28 : decode cX10_weighCells 28 = .ok (.iload_n 3, 1) := by decide +kernel
theorem dX10_weighCells_29 : decode cX10_weighCells 29 = .ok (.aload_n 1, 1) := by decide +kernel
theorem dX10_weighCells_30 : decode cX10_weighCells 30 = .ok (.iload 4, 2) := by decide +kernel
theorem dX10_weighCells_32 : decode cX10_weighCells 32 = .ok (.invokevirtual 63, 3) := by decide +kernel
theorem dX10_weighCells_35 : decode cX10_weighCells 35 = .ok (.imul, 1) := by decide +kernel
theorem dX10_weighCells_36 : decode cX10_weighCells 36 = .ok (.iadd, 1) := by decide +kernel
theorem dX10_weighCells_37 : decode cX10_weighCells 37 = .ok (.invokevirtual 66, 3) := by decide +kernel
theorem dX10_weighCells_40 : decode cX10_weighCells 40 = .ok (.iastore, 1) := by decide +kernel
theorem dX10_weighCells_41 : decode cX10_weighCells 41 = .ok (.iinc 4 1, 3) := by decide +kernel
theorem dX10_weighCells_44 : decode cX10_weighCells 44 = .ok (.goto (-41), 3) := by decide +kernel
theorem dX10_weighCells_47 : decode cX10_weighCells 47 = .ok (.return_, 1) := by decide +kernel
theorem dX10_weighPieces_0 : decode cX10_weighPieces 0 = .ok (.iconst 0, 1) := by decide +kernel
theorem dX10_weighPieces_1 : decode cX10_weighPieces 1 = .ok (.istore_n 2, 1) := by decide +kernel
theorem dX10_weighPieces_2 : decode cX10_weighPieces 2 = .ok (.iload_n 2, 1) := by decide +kernel
theorem dX10_weighPieces_3 : decode cX10_weighPieces 3 = .ok (.aload_n 0, 1) := by decide +kernel
theorem dX10_weighPieces_4 : decode cX10_weighPieces 4 = .ok (.getfield 15, 3) := by decide +kernel
theorem dX10_weighPieces_7 : decode cX10_weighPieces 7 = .ok (.arraylength, 1) := by decide +kernel
theorem dX10_weighPieces_8 : decode cX10_weighPieces 8 = .ok (.if_icmp .ge 16, 3) := by decide +kernel
theorem dX10_weighPieces_11 : decode cX10_weighPieces 11 = .ok (.aload_n 0, 1) := by decide +kernel
theorem dX10_weighPieces_12 : decode cX10_weighPieces 12 = .ok (.getfield 15, 3) := by decide +kernel
theorem dX10_weighPieces_15 : decode cX10_weighPieces 15 = .ok (.iload_n 2, 1) := by decide +kernel
theorem dX10_weighPieces_16 : decode cX10_weighPieces 16 = .ok (.iconst 0, 1) := by decide +kernel
theorem dX10_weighPieces_17 : decode cX10_weighPieces 17 = .ok (.iastore, 1) := by decide +kernel
theorem dX10_weighPieces_18 : decode cX10_weighPieces 18 = .ok (.iinc 2 1, 3) := by decide +kernel
theorem dX10_weighPieces_21 : decode cX10_weighPieces 21 = .ok (.goto (-19), 3) := by decide +kernel
theorem dX10_weighPieces_24 : decode cX10_weighPieces 24 = .ok (.iconst 0, 1) := by decide +kernel
theorem dX10_weighPieces_25 : decode cX10_weighPieces 25 = .ok (.istore_n 2, 1) := by decide +kernel
theorem dX10_weighPieces_26 : decode cX10_weighPieces 26 = .ok (.iload_n 2, 1) := by decide +kernel
theorem dX10_weighPieces_27 : decode cX10_weighPieces 27 = .ok (.aload_n 1, 1) := by decide +kernel
theorem dX10_weighPieces_28 : decode cX10_weighPieces 28 = .ok (.getfield 69, 3) := by decide +kernel
theorem dX10_weighPieces_31 : decode cX10_weighPieces 31 = .ok (.if_icmp .ge 47, 3) := by decide +kernel
theorem dX10_weighPieces_34 : decode cX10_weighPieces 34 = .ok (.aload_n 1, 1) := by decide +kernel
theorem dX10_weighPieces_35 : decode cX10_weighPieces 35 = .ok (.iload_n 2, 1) := by decide +kernel
theorem dX10_weighPieces_36 : decode cX10_weighPieces 36 = .ok (.invokevirtual 72, 3) := by decide +kernel
theorem dX10_weighPieces_39 : decode cX10_weighPieces 39 = .ok (.istore_n 3, 1) := by decide +kernel
theorem dX10_weighPieces_40 : decode cX10_weighPieces 40 = .ok (.aload_n 0, 1) := by decide +kernel
theorem dX10_weighPieces_41 : decode cX10_weighPieces 41 = .ok (.aload_n 1, 1) := by decide +kernel
theorem dX10_weighPieces_42 : decode cX10_weighPieces 42 = .ok (.iload_n 2, 1) := by decide +kernel
theorem dX10_weighPieces_43 : decode cX10_weighPieces 43 = .ok (.invokevirtual 75, 3) := by decide +kernel
theorem dX10_weighPieces_46 : decode cX10_weighPieces 46 = .ok (.invokevirtual 56, 3) := by decide +kernel
theorem dX10_weighPieces_49 : decode cX10_weighPieces 49 = .ok (.istore 4, 2) := by decide +kernel
theorem dX10_weighPieces_51 : decode cX10_weighPieces 51 = .ok (.aload_n 0, 1) := by decide +kernel
theorem dX10_weighPieces_52 : decode cX10_weighPieces 52 = .ok (.getfield 15, 3) := by decide +kernel
theorem dX10_weighPieces_55 : decode cX10_weighPieces 55 = .ok (.iload_n 3, 1) := by decide +kernel
theorem dX10_weighPieces_56 : decode cX10_weighPieces 56 = .ok (.aload_n 0, 1) := by decide +kernel
theorem dX10_weighPieces_57 : decode cX10_weighPieces 57 = .ok (.getfield 15, 3) := by decide +kernel
theorem dX10_weighPieces_60 : decode cX10_weighPieces 60 = .ok (.iload_n 3, 1) := by decide +kernel
theorem dX10_weighPieces_61 : decode cX10_weighPieces 61 = .ok (.invokestatic 35, 3) := by decide +kernel
theorem dX10_weighPieces_64 : decode cX10_weighPieces 64 = .ok (.iconst 1, 1) := by decide +kernel
theorem dX10_weighPieces_65 : decode cX10_weighPieces 65 = .ok (.iload 4, 2) := by decide +kernel
theorem dX10_weighPieces_67 : decode cX10_weighPieces 67 = .ok (.ishl, 1) := by decide +kernel
theorem dX10_weighPieces_68 : decode cX10_weighPieces 68 = .ok (.ior, 1) := by decide +kernel
theorem dX10_weighPieces_69 : decode cX10_weighPieces 69 = .ok (.invokestatic 79, 3) := by decide +kernel
theorem dX10_weighPieces_72 : decode cX10_weighPieces 72 = .ok (.iinc 2 1, 3) := by decide +kernel
theorem dX10_weighPieces_75 : decode cX10_weighPieces 75 = .ok (.goto (-49), 3) := by decide +kernel
theorem dX10_weighPieces_78 : decode cX10_weighPieces 78 = .ok (.return_, 1) := by decide +kernel
theorem dX10_weightOf_0 : decode cX10_weightOf 0 = .ok (.iconst 0, 1) := by decide +kernel
theorem dX10_weightOf_1 : decode cX10_weightOf 1 = .ok (.istore_n 3, 1) := by decide +kernel
theorem dX10_weightOf_2 : decode cX10_weightOf 2 = .ok (.lload_n 1, 1) := by decide +kernel
theorem dX10_weightOf_3 : decode cX10_weightOf 3 = .ok (.invokestatic 83, 3) := by decide +kernel
theorem dX10_weightOf_6 : decode cX10_weightOf 6 = .ok (.istore 4, 2) := by decide +kernel
theorem dX10_weightOf_8 : decode cX10_weightOf 8 = .ok (.iload 4, 2) := by decide +kernel
theorem dX10_weightOf_10 : decode cX10_weightOf 10 = .ok (.bipush 36, 2) := by decide +kernel
theorem dX10_weightOf_12 : decode cX10_weightOf 12 = .ok (.if_icmp .ge 39, 3) := by decide +kernel
theorem dX10_weightOf_15 : decode cX10_weightOf 15 = .ok (.lload_n 1, 1) := by decide +kernel
theorem dX10_weightOf_16 : decode cX10_weightOf 16 = .ok (.iload 4, 2) := by decide +kernel
theorem dX10_weightOf_18 : decode cX10_weightOf 18 = .ok (.lushr, 1) := by decide +kernel
theorem dX10_weightOf_19 : decode cX10_weightOf 19 = .ok (.lconst 0, 1) := by decide +kernel
theorem dX10_weightOf_20 : decode cX10_weightOf 20 = .ok (.lcmp, 1) := by decide +kernel
theorem dX10_weightOf_21 : decode cX10_weightOf 21 = .ok (.ifCond .eq 30, 3) := by decide +kernel
theorem dX10_weightOf_24 : decode cX10_weightOf 24 = .ok (.lload_n 1, 1) := by decide +kernel
theorem dX10_weightOf_25 : decode cX10_weightOf 25 = .ok (.iload 4, 2) := by decide +kernel
theorem dX10_weightOf_27 : decode cX10_weightOf 27 = .ok (.invokestatic 86, 3) := by decide +kernel
theorem dX10_weightOf_30 : decode cX10_weightOf 30 = .ok (.ifCond .eq 15, 3) := by decide +kernel
theorem dX10_weightOf_33 : decode cX10_weightOf 33 = .ok (.iload_n 3, 1) := by decide +kernel
theorem dX10_weightOf_34 : decode cX10_weightOf 34 = .ok (.aload_n 0, 1) := by decide +kernel
theorem dX10_weightOf_35 : decode cX10_weightOf 35 = .ok (.getfield 9, 3) := by decide +kernel
theorem dX10_weightOf_38 : decode cX10_weightOf 38 = .ok (.iload 4, 2) := by decide +kernel
theorem dX10_weightOf_40 : decode cX10_weightOf 40 = .ok (.invokestatic 35, 3) := by decide +kernel
theorem dX10_weightOf_43 : decode cX10_weightOf 43 = .ok (.iadd, 1) := by decide +kernel
theorem dX10_weightOf_44 : decode cX10_weightOf 44 = .ok (.istore_n 3, 1) := by decide +kernel
theorem dX10_weightOf_45 : decode cX10_weightOf 45 = .ok (.iinc 4 1, 3) := by decide +kernel
theorem dX10_weightOf_48 : decode cX10_weightOf 48 = .ok (.goto (-40), 3) := by decide +kernel
theorem dX10_weightOf_51 : decode cX10_weightOf 51 = .ok (.aload_n 0, 1) := by decide +kernel
theorem dX10_weightOf_52 : decode cX10_weightOf 52 = .ok (.iload_n 3, 1) := by decide +kernel
theorem dX10_weightOf_53 : decode cX10_weightOf 53 = .ok (.invokevirtual 66, 3) := by decide +kernel
theorem dX10_weightOf_56 : decode cX10_weightOf 56 = .ok (.ireturn, 1) := by decide +kernel
theorem dX10_rest_0 : decode cX10_rest 0 = .ok (.aload_n 0, 1) := by decide +kernel
theorem dX10_rest_1 : decode cX10_rest 1 = .ok (.getfield 18, 3) := by decide +kernel
theorem dX10_rest_4 : decode cX10_rest 4 = .ok (.ifCond .le 12, 3) := by decide +kernel
theorem dX10_rest_7 : decode cX10_rest 7 = .ok (.iload_n 1, 1) := by decide +kernel
theorem dX10_rest_8 : decode cX10_rest 8 = .ok (.aload_n 0, 1) := by decide +kernel
theorem dX10_rest_9 : decode cX10_rest 9 = .ok (.getfield 18, 3) := by decide +kernel
theorem dX10_rest_12 : decode cX10_rest 12 = .ok (.irem, 1) := by decide +kernel
theorem dX10_rest_13 : decode cX10_rest 13 = .ok (.goto 4, 3) := by decide +kernel
theorem dX10_rest_16 : decode cX10_rest 16 = .ok (.iconst 0, 1) := by decide +kernel
theorem dX10_rest_17 : decode cX10_rest 17 = .ok (.ireturn, 1) := by decide +kernel
theorem dX10_addAll_0 : decode cX10_addAll 0 = .ok (.iconst 0, 1) := by decide +kernel
theorem dX10_addAll_1 : decode cX10_addAll 1 = .ok (.istore_n 3, 1) := by decide +kernel
theorem dX10_addAll_2 : decode cX10_addAll 2 = .ok (.iconst 0, 1) := by decide +kernel
theorem dX10_addAll_3 : decode cX10_addAll 3 = .ok (.istore 4, 2) := by decide +kernel
theorem dX10_addAll_5 : decode cX10_addAll 5 = .ok (.iload 4, 2) := by decide +kernel
theorem dX10_addAll_7 : decode cX10_addAll 7 = .ok (.aload_n 0, 1) := by decide +kernel
theorem dX10_addAll_8 : decode cX10_addAll 8 = .ok (.getfield 18, 3) := by decide +kernel
theorem dX10_addAll_11 : decode cX10_addAll 11 = .ok (.if_icmp .ge 59, 3) := by decide +kernel
theorem dX10_addAll_14 : decode cX10_addAll 14 = .ok (.iconst 0, 1) := by decide +kernel
theorem dX10_addAll_15 : decode cX10_addAll 15 = .ok (.istore 5, 2) := by decide +kernel
theorem dX10_addAll_17 : decode cX10_addAll 17 = .ok (.iload 5, 2) := by decide +kernel
theorem dX10_addAll_19 : decode cX10_addAll 19 = .ok (.aload_n 0, 1) := by decide +kernel
theorem dX10_addAll_20 : decode cX10_addAll 20 = .ok (.getfield 18, 3) := by decide +kernel
theorem dX10_addAll_23 : decode cX10_addAll 23 = .ok (.if_icmp .ge 41, 3) := by decide +kernel
theorem dX10_addAll_26 : decode cX10_addAll 26 = .ok (.iload_n 1, 1) := by decide +kernel
theorem dX10_addAll_27 : decode cX10_addAll 27 = .ok (.iload 4, 2) := by decide +kernel
theorem dX10_addAll_29 : decode cX10_addAll 29 = .ok (.iushr, 1) := by decide +kernel
theorem dX10_addAll_30 : decode cX10_addAll 30 = .ok (.iconst 1, 1) := by decide +kernel
theorem dX10_addAll_31 : decode cX10_addAll 31 = .ok (.iand, 1) := by decide +kernel
theorem dX10_addAll_32 : decode cX10_addAll 32 = .ok (.ifCond .eq 26, 3) := by decide +kernel
theorem dX10_addAll_35 : decode cX10_addAll 35 = .ok (.iload_n 2, 1) := by decide +kernel
theorem dX10_addAll_36 : decode cX10_addAll 36 = .ok (.iload 5, 2) := by decide +kernel
theorem dX10_addAll_38 : decode cX10_addAll 38 = .ok (.iushr, 1) := by decide +kernel
theorem dX10_addAll_39 : decode cX10_addAll 39 = .ok (.iconst 1, 1) := by decide +kernel
theorem dX10_addAll_40 : decode cX10_addAll 40 = .ok (.iand, 1) := by decide +kernel
theorem dX10_addAll_41 : decode cX10_addAll 41 = .ok (.ifCond .eq 17, 3) := by decide +kernel
theorem dX10_addAll_44 : decode cX10_addAll 44 = .ok (.iload_n 3, 1) := by decide +kernel
theorem dX10_addAll_45 : decode cX10_addAll 45 = .ok (.iconst 1, 1) := by decide +kernel
theorem dX10_addAll_46 : decode cX10_addAll 46 = .ok (.aload_n 0, 1) := by decide +kernel
theorem dX10_addAll_47 : decode cX10_addAll 47 = .ok (.iload 4, 2) := by decide +kernel
theorem dX10_addAll_49 : decode cX10_addAll 49 = .ok (.iload 5, 2) := by decide +kernel
theorem dX10_addAll_51 : decode cX10_addAll 51 = .ok (.iadd, 1) := by decide +kernel
theorem dX10_addAll_52 : decode cX10_addAll 52 = .ok (.invokevirtual 66, 3) := by decide +kernel
theorem dX10_addAll_55 : decode cX10_addAll 55 = .ok (.ishl, 1) := by decide +kernel
theorem dX10_addAll_56 : decode cX10_addAll 56 = .ok (.ior, 1) := by decide +kernel
theorem dX10_addAll_57 : decode cX10_addAll 57 = .ok (.istore_n 3, 1) := by decide +kernel
theorem dX10_addAll_58 : decode cX10_addAll 58 = .ok (.iinc 5 1, 3) := by decide +kernel
theorem dX10_addAll_61 : decode cX10_addAll 61 = .ok (.goto (-44), 3) := by decide +kernel
theorem dX10_addAll_64 : decode cX10_addAll 64 = .ok (.iinc 4 1, 3) := by decide +kernel
theorem dX10_addAll_67 : decode cX10_addAll 67 = .ok (.goto (-62), 3) := by decide +kernel
theorem dX10_addAll_70 : decode cX10_addAll 70 = .ok (.iload_n 3, 1) := by decide +kernel
theorem dX10_addAll_71 : decode cX10_addAll 71 = .ok (.ireturn, 1) := by decide +kernel
theorem dX11_init_0 : decode cX11_init 0 = .ok (.aload_n 0, 1) := by decide +kernel
theorem dX11_init_1 : decode cX11_init 1 = .ok (.invokespecial 3, 3) := by decide +kernel
theorem dX11_init_4 : decode cX11_init 4 = .ok (.aload_n 0, 1) := by decide +kernel
theorem dX11_init_5 : decode cX11_init 5 = .ok (.new 9, 3) := by decide +kernel
theorem dX11_init_8 : decode cX11_init 8 = .ok (.dup, 1) := by decide +kernel
theorem dX11_init_9 : decode cX11_init 9 = .ok (.invokespecial 11, 3) := by decide +kernel
theorem dX11_init_12 : decode cX11_init 12 = .ok (.putfield 12, 3) := by decide +kernel
theorem dX11_init_15 : decode cX11_init 15 = .ok (.aload_n 0, 1) := by decide +kernel
theorem dX11_init_16 : decode cX11_init 16 = .ok (.new 16, 3) := by decide +kernel
theorem dX11_init_19 : decode cX11_init 19 = .ok (.dup, 1) := by decide +kernel
theorem dX11_init_20 : decode cX11_init 20 = .ok (.invokespecial 18, 3) := by decide +kernel
theorem dX11_init_23 : decode cX11_init 23 = .ok (.putfield 19, 3) := by decide +kernel
theorem dX11_init_26 : decode cX11_init 26 = .ok (.aload_n 0, 1) := by decide +kernel
theorem dX11_init_27 : decode cX11_init 27 = .ok (.new 23, 3) := by decide +kernel
theorem dX11_init_30 : decode cX11_init 30 = .ok (.dup, 1) := by decide +kernel
theorem dX11_init_31 : decode cX11_init 31 = .ok (.invokespecial 25, 3) := by decide +kernel
theorem dX11_init_34 : decode cX11_init 34 = .ok (.putfield 26, 3) := by decide +kernel
theorem dX11_init_37 : decode cX11_init 37 = .ok (.aload_n 0, 1) := by decide +kernel
theorem dX11_init_38 : decode cX11_init 38 = .ok (.new 30, 3) := by decide +kernel
theorem dX11_init_41 : decode cX11_init 41 = .ok (.dup, 1) := by decide +kernel
theorem dX11_init_42 : decode cX11_init 42 = .ok (.invokespecial 32, 3) := by decide +kernel
theorem dX11_init_45 : decode cX11_init 45 = .ok (.putfield 33, 3) := by decide +kernel
theorem dX11_init_48 : decode cX11_init 48 = .ok (.aload_n 0, 1) := by decide +kernel
theorem dX11_init_49 : decode cX11_init 49 = .ok (.new 37, 3) := by decide +kernel
theorem dX11_init_52 : decode cX11_init 52 = .ok (.dup, 1) := by decide +kernel
theorem dX11_init_53 : decode cX11_init 53 = .ok (.invokespecial 39, 3) := by decide +kernel
theorem dX11_init_56 : decode cX11_init 56 = .ok (.putfield 40, 3) := by decide +kernel
theorem dX11_init_59 : decode cX11_init 59 = .ok (.aload_n 0, 1) := by decide +kernel
theorem dX11_init_60 : decode cX11_init 60 = .ok (.new 44, 3) := by decide +kernel
theorem dX11_init_63 : decode cX11_init 63 = .ok (.dup, 1) := by decide +kernel
theorem dX11_init_64 : decode cX11_init 64 = .ok (.invokespecial 46, 3) := by decide +kernel
theorem dX11_init_67 : decode cX11_init 67 = .ok (.putfield 47, 3) := by decide +kernel
theorem dX11_init_70 : decode cX11_init 70 = .ok (.aload_n 0, 1) := by decide +kernel
theorem dX11_init_71 : decode cX11_init 71 = .ok (.new 51, 3) := by decide +kernel
theorem dX11_init_74 : decode cX11_init 74 = .ok (.dup, 1) := by decide +kernel
theorem dX11_init_75 : decode cX11_init 75 = .ok (.aload_n 0, 1) := by decide +kernel
theorem dX11_init_76 : decode cX11_init 76 = .ok (.getfield 12, 3) := by decide +kernel
theorem dX11_init_79 : decode cX11_init 79 = .ok (.aload_n 0, 1) := by decide +kernel
theorem dX11_init_80 : decode cX11_init 80 = .ok (.getfield 40, 3) := by decide +kernel
theorem dX11_init_83 : decode cX11_init 83 = .ok (.invokespecial 53, 3) := by decide +kernel
theorem dX11_init_86 : decode cX11_init 86 = .ok (.putfield 56, 3) := by decide +kernel
theorem dX11_init_89 : decode cX11_init 89 = .ok (.aload_n 0, 1) := by decide +kernel
theorem dX11_init_90 : decode cX11_init 90 = .ok (.new 60, 3) := by decide +kernel
theorem dX11_init_93 : decode cX11_init 93 = .ok (.dup, 1) := by decide +kernel
theorem dX11_init_94 : decode cX11_init 94 = .ok (.aload_n 0, 1) := by decide +kernel
theorem dX11_init_95 : decode cX11_init 95 = .ok (.getfield 56, 3) := by decide +kernel
theorem dX11_init_98 : decode cX11_init 98 = .ok (.aload_n 0, 1) := by decide +kernel
theorem dX11_init_99 : decode cX11_init 99 = .ok (.getfield 40, 3) := by decide +kernel
theorem dX11_init_102 : decode cX11_init 102 = .ok (.aload_n 0, 1) := by decide +kernel
theorem dX11_init_103 : decode cX11_init 103 = .ok (.getfield 47, 3) := by decide +kernel
theorem dX11_init_106 : decode cX11_init 106 = .ok (.invokespecial 62, 3) := by decide +kernel
theorem dX11_init_109 : decode cX11_init 109 = .ok (.putfield 65, 3) := by decide +kernel
theorem dX11_init_112 : decode cX11_init 112 = .ok (.aload_n 0, 1) := by decide +kernel
theorem dX11_init_113 : decode cX11_init 113 = .ok (.new 69, 3) := by decide +kernel
theorem dX11_init_116 : decode cX11_init 116 = .ok (.dup, 1) := by decide +kernel
theorem dX11_init_117 : decode cX11_init 117 = .ok (.invokespecial 71, 3) := by decide +kernel
theorem dX11_init_120 : decode cX11_init 120 = .ok (.putfield 72, 3) := by decide +kernel
theorem dX11_init_123 : decode cX11_init 123 = .ok (.aload_n 0, 1) := by decide +kernel
theorem dX11_init_124 : decode cX11_init 124 = .ok (.new 76, 3) := by decide +kernel
theorem dX11_init_127 : decode cX11_init 127 = .ok (.dup, 1) := by decide +kernel
theorem dX11_init_128 : decode cX11_init 128 = .ok (.invokespecial 78, 3) := by decide +kernel
theorem dX11_init_131 : decode cX11_init 131 = .ok (.putfield 79, 3) := by decide +kernel
theorem dX11_init_134 : decode cX11_init 134 = .ok (.aload_n 0, 1) := by decide +kernel
theorem dX11_init_135 : decode cX11_init 135 = .ok (.iconst 0, 1) := by decide +kernel
theorem dX11_init_136 : decode cX11_init 136 = .ok (.putfield 83, 3) := by decide +kernel
theorem dX11_init_139 : decode cX11_init 139 = .ok (.aload_n 0, 1) := by decide +kernel
theorem dX11_init_140 : decode cX11_init 140 = .ok (.iconst 0, 1) := by decide +kernel
theorem dX11_init_141 : decode cX11_init 141 = .ok (.putfield 87, 3) := by decide +kernel
theorem dX11_init_144 : decode cX11_init 144 = .ok (.aload_n 0, 1) := by decide +kernel
theorem dX11_init_145 : decode cX11_init 145 = .ok (.iconst 0, 1) := by decide +kernel
theorem dX11_init_146 : decode cX11_init 146 = .ok (.putfield 90, 3) := by decide +kernel
theorem dX11_init_149 : decode cX11_init 149 = .ok (.return_, 1) := by decide +kernel
theorem dX11_setBoard_0 : decode cX11_setBoard 0 = .ok (.iload_n 1, 1) := by decide +kernel
theorem dX11_setBoard_1 : decode cX11_setBoard 1 = .ok (.iconst 1, 1) := by decide +kernel
theorem dX11_setBoard_2 : decode cX11_setBoard 2 = .ok (.bipush 6, 2) := by decide +kernel
theorem dX11_setBoard_4 : decode cX11_setBoard 4 = .ok (.invokestatic 93, 3) := by decide +kernel
theorem dX11_setBoard_7 : decode cX11_setBoard 7 = .ok (.ifCond .eq 13, 3) := by decide +kernel
theorem dX11_setBoard_10 : decode cX11_setBoard 10 = .ok (.iload_n 2, 1) := by decide +kernel
theorem dX11_setBoard_11 : decode cX11_setBoard 11 = .ok (.iconst 1, 1) := by decide +kernel
theorem dX11_setBoard_12 : decode cX11_setBoard 12 = .ok (.bipush 6, 2) := by decide +kernel
theorem dX11_setBoard_14 : decode cX11_setBoard 14 = .ok (.invokestatic 93, 3) := by decide +kernel
theorem dX11_setBoard_17 : decode cX11_setBoard 17 = .ok (.ifCond .ne 5, 3) := by decide +kernel
theorem dX11_setBoard_20 : decode cX11_setBoard 20 = .ok (.iconst (-1), 1) := by decide +kernel
theorem dX11_setBoard_21 : decode cX11_setBoard 21 = .ok (.ireturn, 1) := by decide +kernel
theorem dX11_setBoard_22 : decode cX11_setBoard 22 = .ok (.aload_n 0, 1) := by decide +kernel
theorem dX11_setBoard_23 : decode cX11_setBoard 23 = .ok (.invokevirtual 97, 3) := by decide +kernel
theorem dX11_setBoard_26 : decode cX11_setBoard 26 = .ok (.aload_n 0, 1) := by decide +kernel
theorem dX11_setBoard_27 : decode cX11_setBoard 27 = .ok (.getfield 12, 3) := by decide +kernel
theorem dX11_setBoard_30 : decode cX11_setBoard 30 = .ok (.iload_n 1, 1) := by decide +kernel
theorem dX11_setBoard_31 : decode cX11_setBoard 31 = .ok (.iload_n 2, 1) := by decide +kernel
theorem dX11_setBoard_32 : decode cX11_setBoard 32 = .ok (.invokevirtual 100, 3) := by decide +kernel
theorem dX11_setBoard_35 : decode cX11_setBoard 35 = .ok (.aload_n 0, 1) := by decide +kernel
theorem dX11_setBoard_36 : decode cX11_setBoard 36 = .ok (.getfield 12, 3) := by decide +kernel
theorem dX11_setBoard_39 : decode cX11_setBoard 39 = .ok (.invokevirtual 104, 3) := by decide +kernel
theorem dX11_setBoard_42 : decode cX11_setBoard 42 = .ok (.ireturn, 1) := by decide +kernel
theorem dX11_setHole_0 : decode cX11_setHole 0 = .ok (.aload_n 0, 1) := by decide +kernel
theorem dX11_setHole_1 : decode cX11_setHole 1 = .ok (.getfield 12, 3) := by decide +kernel
theorem dX11_setHole_4 : decode cX11_setHole 4 = .ok (.iload_n 1, 1) := by decide +kernel
theorem dX11_setHole_5 : decode cX11_setHole 5 = .ok (.invokevirtual 108, 3) := by decide +kernel
theorem dX11_setHole_8 : decode cX11_setHole 8 = .ok (.ifCond .eq 12, 3) := by decide +kernel
theorem dX11_setHole_11 : decode cX11_setHole 11 = .ok (.iload_n 2, 1) := by decide +kernel
theorem dX11_setHole_12 : decode cX11_setHole 12 = .ok (.iconst 0, 1) := by decide +kernel
theorem dX11_setHole_13 : decode cX11_setHole 13 = .ok (.iconst 1, 1) := by decide +kernel
theorem dX11_setHole_14 : decode cX11_setHole 14 = .ok (.invokestatic 93, 3) := by decide +kernel
theorem dX11_setHole_17 : decode cX11_setHole 17 = .ok (.ifCond .ne 5, 3) := by decide +kernel
theorem dX11_setHole_20 : decode cX11_setHole 20 = .ok (.iconst (-1), 1) := by decide +kernel
theorem dX11_setHole_21 : decode cX11_setHole 21 = .ok (.ireturn, 1) := by decide +kernel
theorem dX11_setHole_22 : decode cX11_setHole 22 = .ok (.aload_n 0, 1) := by decide +kernel
theorem dX11_setHole_23 : decode cX11_setHole 23 = .ok (.getfield 12, 3) := by decide +kernel
theorem dX11_setHole_26 : decode cX11_setHole 26 = .ok (.iload_n 1, 1) := by decide +kernel
theorem dX11_setHole_27 : decode cX11_setHole 27 = .ok (.invokevirtual 112, 3) := by decide +kernel
theorem dX11_setHole_30 : decode cX11_setHole 30 = .ok (.iload_n 2, 1) := by decide +kernel
theorem dX11_setHole_31 : decode cX11_setHole 31 = .ok (.iconst 1, 1) := by decide +kernel
theorem dX11_setHole_32 : decode cX11_setHole 32 = .ok (.if_icmp .ne 7, 3) := by decide +kernel
theorem dX11_setHole_35 : decode cX11_setHole 35 = .ok (.iconst 1, 1) := by decide +kernel
theorem dX11_setHole_36 : decode cX11_setHole 36 = .ok (.goto 4, 3) := by decide +kernel
theorem dX11_setHole_39 : decode cX11_setHole 39 = .ok (.iconst 0, 1) := by decide +kernel
theorem dX11_setHole_40 : decode cX11_setHole 40 = .ok (.if_icmp .ne 6, 3) := by decide +kernel
theorem dX11_setHole_43 : decode cX11_setHole 43 = .ok (.bipush (-2), 2) := by decide +kernel
theorem dX11_setHole_45 : decode cX11_setHole 45 = .ok (.ireturn, 1) := by decide +kernel
theorem dX11_setHole_46 : decode cX11_setHole 46 = .ok (.aload_n 0, 1) := by decide +kernel
theorem dX11_setHole_47 : decode cX11_setHole 47 = .ok (.invokevirtual 97, 3) := by decide +kernel
theorem dX11_setHole_50 : decode cX11_setHole 50 = .ok (.aload_n 0, 1) := by decide +kernel
theorem dX11_setHole_51 : decode cX11_setHole 51 = .ok (.getfield 12, 3) := by decide +kernel
theorem dX11_setHole_54 : decode cX11_setHole 54 = .ok (.iload_n 1, 1) := by decide +kernel
theorem dX11_setHole_55 : decode cX11_setHole 55 = .ok (.iload_n 2, 1) := by decide +kernel
theorem dX11_setHole_56 : decode cX11_setHole 56 = .ok (.iconst 1, 1) := by decide +kernel
theorem dX11_setHole_57 : decode cX11_setHole 57 = .ok (.if_icmp .ne 7, 3) := by decide +kernel
theorem dX11_setHole_60 : decode cX11_setHole 60 = .ok (.iconst (-1), 1) := by decide +kernel
theorem dX11_setHole_61 : decode cX11_setHole 61 = .ok (.goto 4, 3) := by decide +kernel
theorem dX11_setHole_64 : decode cX11_setHole 64 = .ok (.iconst 0, 1) := by decide +kernel
theorem dX11_setHole_65 : decode cX11_setHole 65 = .ok (.invokevirtual 115, 3) := by decide +kernel
theorem dX11_setHole_68 : decode cX11_setHole 68 = .ok (.aload_n 0, 1) := by decide +kernel
theorem dX11_setHole_69 : decode cX11_setHole 69 = .ok (.getfield 12, 3) := by decide +kernel
theorem dX11_setHole_72 : decode cX11_setHole 72 = .ok (.invokevirtual 118, 3) := by decide +kernel
theorem dX11_setHole_75 : decode cX11_setHole 75 = .ok (.ireturn, 1) := by decide +kernel
theorem dX11_setColour_0 : decode cX11_setColour 0 = .ok (.aload_n 0, 1) := by decide +kernel
theorem dX11_setColour_1 : decode cX11_setColour 1 = .ok (.getfield 12, 3) := by decide +kernel
theorem dX11_setColour_4 : decode cX11_setColour 4 = .ok (.iload_n 1, 1) := by decide +kernel
theorem dX11_setColour_5 : decode cX11_setColour 5 = .ok (.invokevirtual 108, 3) := by decide +kernel
theorem dX11_setColour_8 : decode cX11_setColour 8 = .ok (.ifCond .eq 12, 3) := by decide +kernel
theorem dX11_setColour_11 : decode cX11_setColour 11 = .ok (.iload_n 2, 1) := by decide +kernel
theorem dX11_setColour_12 : decode cX11_setColour 12 = .ok (.iconst 0, 1) := by decide +kernel
theorem dX11_setColour_13 : decode cX11_setColour 13 = .ok (.iconst 3, 1) := by decide +kernel
theorem dX11_setColour_14 : decode cX11_setColour 14 = .ok (.invokestatic 93, 3) := by decide +kernel
theorem dX11_setColour_17 : decode cX11_setColour 17 = .ok (.ifCond .ne 5, 3) := by decide +kernel
theorem dX11_setColour_20 : decode cX11_setColour 20 = .ok (.iconst (-1), 1) := by decide +kernel
theorem dX11_setColour_21 : decode cX11_setColour 21 = .ok (.ireturn, 1) := by decide +kernel
theorem dX11_setColour_22 : decode cX11_setColour 22 = .ok (.aload_n 0, 1) := by decide +kernel
theorem dX11_setColour_23 : decode cX11_setColour 23 = .ok (.getfield 12, 3) := by decide +kernel
theorem dX11_setColour_26 : decode cX11_setColour 26 = .ok (.iload_n 1, 1) := by decide +kernel
theorem dX11_setColour_27 : decode cX11_setColour 27 = .ok (.invokevirtual 112, 3) := by decide +kernel
theorem dX11_setColour_30 : decode cX11_setColour 30 = .ok (.ifCond .eq 6, 3) := by decide +kernel
theorem dX11_setColour_33 : decode cX11_setColour 33 = .ok (.bipush (-2), 2) := by decide +kernel
theorem dX11_setColour_35 : decode cX11_setColour 35 = .ok (.ireturn, 1) := by decide +kernel
theorem dX11_setColour_36 : decode cX11_setColour 36 = .ok (.aload_n 0, 1) := by decide +kernel
theorem dX11_setColour_37 : decode cX11_setColour 37 = .ok (.getfield 12, 3) := by decide +kernel
theorem dX11_setColour_40 : decode cX11_setColour 40 = .ok (.iload_n 1, 1) := by decide +kernel
theorem dX11_setColour_41 : decode cX11_setColour 41 = .ok (.invokevirtual 121, 3) := by decide +kernel
theorem dX11_setColour_44 : decode cX11_setColour 44 = .ok (.istore_n 3, 1) := by decide +kernel
theorem dX11_setColour_45 : decode cX11_setColour 45 = .ok (.aload_n 0, 1) := by decide +kernel
theorem dX11_setColour_46 : decode cX11_setColour 46 = .ok (.invokevirtual 97, 3) := by decide +kernel
theorem dX11_setColour_49 : decode cX11_setColour 49 = .ok (.aload_n 0, 1) := by decide +kernel
theorem dX11_setColour_50 : decode cX11_setColour 50 = .ok (.getfield 12, 3) := by decide +kernel
theorem dX11_setColour_53 : decode cX11_setColour 53 = .ok (.iload_n 1, 1) := by decide +kernel
theorem dX11_setColour_54 : decode cX11_setColour 54 = .ok (.iload_n 2, 1) := by decide +kernel
theorem dX11_setColour_55 : decode cX11_setColour 55 = .ok (.invokevirtual 115, 3) := by decide +kernel
theorem dX11_setColour_58 : decode cX11_setColour 58 = .ok (.iload_n 3, 1) := by decide +kernel
theorem dX11_setColour_59 : decode cX11_setColour 59 = .ok (.ireturn, 1) := by decide +kernel
theorem dX11_addPiece_0 : decode cX11_addPiece 0 = .ok (.iload_n 1, 1) := by decide +kernel
theorem dX11_addPiece_1 : decode cX11_addPiece 1 = .ok (.invokestatic 125, 3) := by decide +kernel
theorem dX11_addPiece_4 : decode cX11_addPiece 4 = .ok (.ifCond .eq 21, 3) := by decide +kernel
theorem dX11_addPiece_7 : decode cX11_addPiece 7 = .ok (.iload_n 2, 1) := by decide +kernel
theorem dX11_addPiece_8 : decode cX11_addPiece 8 = .ok (.iconst 0, 1) := by decide +kernel
theorem dX11_addPiece_9 : decode cX11_addPiece 9 = .ok (.iconst 2, 1) := by decide +kernel
theorem dX11_addPiece_10 : decode cX11_addPiece 10 = .ok (.invokestatic 93, 3) := by decide +kernel
theorem dX11_addPiece_13 : decode cX11_addPiece 13 = .ok (.ifCond .eq 12, 3) := by decide +kernel
theorem dX11_addPiece_16 : decode cX11_addPiece 16 = .ok (.iload_n 3, 1) := by decide +kernel
theorem dX11_addPiece_17 : decode cX11_addPiece 17 = .ok (.iconst 0, 1) := by decide +kernel
theorem dX11_addPiece_18 : decode cX11_addPiece 18 = .ok (.iconst 3, 1) := by decide +kernel
theorem dX11_addPiece_19 : decode cX11_addPiece 19 = .ok (.invokestatic 93, 3) := by decide +kernel
theorem dX11_addPiece_22 : decode cX11_addPiece 22 = .ok (.ifCond .ne 5, 3) := by decide +kernel
theorem dX11_addPiece_25 : decode cX11_addPiece 25 = .ok (.iconst (-1), 1) := by decide +kernel
theorem dX11_addPiece_26 : decode cX11_addPiece 26 = .ok (.ireturn, 1) := by decide +kernel
theorem dX11_addPiece_27 : decode cX11_addPiece 27 = .ok (.aload_n 0, 1) := by decide +kernel
theorem dX11_addPiece_28 : decode cX11_addPiece 28 = .ok (.getfield 12, 3) := by decide +kernel
theorem dX11_addPiece_31 : decode cX11_addPiece 31 = .ok (.getfield 130, 3) := by decide +kernel
theorem dX11_addPiece_34 : decode cX11_addPiece 34 = .ok (.bipush 8, 2) := by decide +kernel
theorem dX11_addPiece_36 : decode cX11_addPiece 36 = .ok (.if_icmp .lt 6, 3) := by decide +kernel
theorem dX11_addPiece_39 : decode cX11_addPiece 39 = .ok (.bipush (-3), 2) := by decide +kernel
theorem dX11_addPiece_41 : decode cX11_addPiece 41 = .ok (.ireturn, 1) := by decide +kernel
theorem dX11_addPiece_42 : decode cX11_addPiece 42 = .ok (.aload_n 0, 1) := by decide +kernel
theorem dX11_addPiece_43 : decode cX11_addPiece 43 = .ok (.invokevirtual 97, 3) := by decide +kernel
theorem dX11_addPiece_46 : decode cX11_addPiece 46 = .ok (.aload_n 0, 1) := by decide +kernel
theorem dX11_addPiece_47 : decode cX11_addPiece 47 = .ok (.getfield 12, 3) := by decide +kernel
theorem dX11_addPiece_50 : decode cX11_addPiece 50 = .ok (.iload_n 1, 1) := by decide +kernel
theorem dX11_addPiece_51 : decode cX11_addPiece 51 = .ok (.invokestatic 134, 3) := by decide +kernel
theorem dX11_addPiece_54 : decode cX11_addPiece 54 = .ok (.iload_n 2, 1) := by decide +kernel
theorem dX11_addPiece_55 : decode cX11_addPiece 55 = .ok (.iload_n 3, 1) := by decide +kernel
theorem dX11_addPiece_56 : decode cX11_addPiece 56 = .ok (.iconst 1, 1) := by decide +kernel
theorem dX11_addPiece_57 : decode cX11_addPiece 57 = .ok (.invokevirtual 137, 3) := by decide +kernel
theorem dX11_addPiece_60 : decode cX11_addPiece 60 = .ok (.aload_n 0, 1) := by decide +kernel
theorem dX11_addPiece_61 : decode cX11_addPiece 61 = .ok (.getfield 12, 3) := by decide +kernel
theorem dX11_addPiece_64 : decode cX11_addPiece 64 = .ok (.getfield 130, 3) := by decide +kernel
theorem dX11_addPiece_67 : decode cX11_addPiece 67 = .ok (.iconst 1, 1) := by decide +kernel
theorem dX11_addPiece_68 : decode cX11_addPiece 68 = .ok (.isub, 1) := by decide +kernel
theorem dX11_addPiece_69 : decode cX11_addPiece 69 = .ok (.ireturn, 1) := by decide +kernel
theorem dX11_removePiece_0 : decode cX11_removePiece 0 = .ok (.aload_n 0, 1) := by decide +kernel
theorem dX11_removePiece_1 : decode cX11_removePiece 1 = .ok (.getfield 12, 3) := by decide +kernel
theorem dX11_removePiece_4 : decode cX11_removePiece 4 = .ok (.iload_n 1, 1) := by decide +kernel
theorem dX11_removePiece_5 : decode cX11_removePiece 5 = .ok (.invokevirtual 141, 3) := by decide +kernel
theorem dX11_removePiece_8 : decode cX11_removePiece 8 = .ok (.ifCond .ne 5, 3) := by decide +kernel
theorem dX11_removePiece_11 : decode cX11_removePiece 11 = .ok (.iconst (-1), 1) := by decide +kernel
theorem dX11_removePiece_12 : decode cX11_removePiece 12 = .ok (.ireturn, 1) := by decide +kernel
theorem dX11_removePiece_13 : decode cX11_removePiece 13 = .ok (.aload_n 0, 1) := by decide +kernel
theorem dX11_removePiece_14 : decode cX11_removePiece 14 = .ok (.invokevirtual 97, 3) := by decide +kernel
theorem dX11_removePiece_17 : decode cX11_removePiece 17 = .ok (.aload_n 0, 1) := by decide +kernel
theorem dX11_removePiece_18 : decode cX11_removePiece 18 = .ok (.getfield 12, 3) := by decide +kernel
theorem dX11_removePiece_21 : decode cX11_removePiece 21 = .ok (.iload_n 1, 1) := by decide +kernel
theorem dX11_removePiece_22 : decode cX11_removePiece 22 = .ok (.invokevirtual 144, 3) := by decide +kernel
theorem dX11_removePiece_25 : decode cX11_removePiece 25 = .ok (.aload_n 0, 1) := by decide +kernel
theorem dX11_removePiece_26 : decode cX11_removePiece 26 = .ok (.getfield 12, 3) := by decide +kernel
theorem dX11_removePiece_29 : decode cX11_removePiece 29 = .ok (.getfield 130, 3) := by decide +kernel
theorem dX11_removePiece_32 : decode cX11_removePiece 32 = .ok (.ireturn, 1) := by decide +kernel
theorem dX11_setCopies_0 : decode cX11_setCopies 0 = .ok (.aload_n 0, 1) := by decide +kernel
theorem dX11_setCopies_1 : decode cX11_setCopies 1 = .ok (.getfield 12, 3) := by decide +kernel
theorem dX11_setCopies_4 : decode cX11_setCopies 4 = .ok (.iload_n 1, 1) := by decide +kernel
theorem dX11_setCopies_5 : decode cX11_setCopies 5 = .ok (.invokevirtual 141, 3) := by decide +kernel
theorem dX11_setCopies_8 : decode cX11_setCopies 8 = .ok (.ifCond .eq 13, 3) := by decide +kernel
theorem dX11_setCopies_11 : decode cX11_setCopies 11 = .ok (.iload_n 2, 1) := by decide +kernel
theorem dX11_setCopies_12 : decode cX11_setCopies 12 = .ok (.iconst 1, 1) := by decide +kernel
theorem dX11_setCopies_13 : decode cX11_setCopies 13 = .ok (.bipush 9, 2) := by decide +kernel
theorem dX11_setCopies_15 : decode cX11_setCopies 15 = .ok (.invokestatic 93, 3) := by decide +kernel
theorem dX11_setCopies_18 : decode cX11_setCopies 18 = .ok (.ifCond .ne 5, 3) := by decide +kernel
theorem dX11_setCopies_21 : decode cX11_setCopies 21 = .ok (.iconst (-1), 1) := by decide +kernel
theorem dX11_setCopies_22 : decode cX11_setCopies 22 = .ok (.ireturn, 1) := by decide +kernel
theorem dX11_setCopies_23 : decode cX11_setCopies 23 = .ok (.aload_n 0, 1) := by decide +kernel
theorem dX11_setCopies_24 : decode cX11_setCopies 24 = .ok (.getfield 12, 3) := by decide +kernel
theorem dX11_setCopies_27 : decode cX11_setCopies 27 = .ok (.iload_n 1, 1) := by decide +kernel
theorem dX11_setCopies_28 : decode cX11_setCopies 28 = .ok (.invokevirtual 148, 3) := by decide +kernel
theorem dX11_setCopies_31 : decode cX11_setCopies 31 = .ok (.istore_n 3, 1) := by decide +kernel
theorem dX11_setCopies_32 : decode cX11_setCopies 32 = .ok (.aload_n 0, 1) := by decide +kernel
theorem dX11_setCopies_33 : decode cX11_setCopies 33 = .ok (.invokevirtual 97, 3) := by decide +kernel
theorem dX11_setCopies_36 : decode cX11_setCopies 36 = .ok (.aload_n 0, 1) := by decide +kernel
theorem dX11_setCopies_37 : decode cX11_setCopies 37 = .ok (.getfield 12, 3) := by decide +kernel
theorem dX11_setCopies_40 : decode cX11_setCopies 40 = .ok (.getfield 151, 3) := by decide +kernel
theorem dX11_setCopies_43 : decode cX11_setCopies 43 = .ok (.iload_n 1, 1) := by decide +kernel
theorem dX11_setCopies_44 : decode cX11_setCopies 44 = .ok (.iload_n 2, 1) := by decide +kernel
theorem dX11_setCopies_45 : decode cX11_setCopies 45 = .ok (.invokestatic 155, 3) := by decide +kernel
theorem dX11_setCopies_48 : decode cX11_setCopies 48 = .ok (.iload_n 3, 1) := by decide +kernel
theorem dX11_setCopies_49 : decode cX11_setCopies 49 = .ok (.ireturn, 1) := by decide +kernel
theorem dX11_setMode_0 : decode cX11_setMode 0 = .ok (.iload_n 1, 1) := by decide +kernel
theorem dX11_setMode_1 : decode cX11_setMode 1 = .ok (.iconst 0, 1) := by decide +kernel
theorem dX11_setMode_2 : decode cX11_setMode 2 = .ok (.iconst 1, 1) := by decide +kernel
theorem dX11_setMode_3 : decode cX11_setMode 3 = .ok (.invokestatic 93, 3) := by decide +kernel
theorem dX11_setMode_6 : decode cX11_setMode 6 = .ok (.ifCond .ne 5, 3) := by decide +kernel
theorem dX11_setMode_9 : decode cX11_setMode 9 = .ok (.iconst (-1), 1) := by decide +kernel
theorem dX11_setMode_10 : decode cX11_setMode 10 = .ok (.ireturn, 1) := by decide +kernel
theorem dX11_setMode_11 : decode cX11_setMode 11 = .ok (.aload_n 0, 1) := by decide +kernel
theorem dX11_setMode_12 : decode cX11_setMode 12 = .ok (.getfield 12, 3) := by decide +kernel
theorem dX11_setMode_15 : decode cX11_setMode 15 = .ok (.getfield 159, 3) := by decide +kernel
theorem dX11_setMode_18 : decode cX11_setMode 18 = .ok (.istore_n 2, 1) := by decide +kernel
theorem dX11_setMode_19 : decode cX11_setMode 19 = .ok (.aload_n 0, 1) := by decide +kernel
theorem dX11_setMode_20 : decode cX11_setMode 20 = .ok (.invokevirtual 97, 3) := by decide +kernel
theorem dX11_setMode_23 : decode cX11_setMode 23 = .ok (.aload_n 0, 1) := by decide +kernel
theorem dX11_setMode_24 : decode cX11_setMode 24 = .ok (.getfield 12, 3) := by decide +kernel
theorem dX11_setMode_27 : decode cX11_setMode 27 = .ok (.iload_n 1, 1) := by decide +kernel
theorem dX11_setMode_28 : decode cX11_setMode 28 = .ok (.putfield 159, 3) := by decide +kernel
theorem dX11_setMode_31 : decode cX11_setMode 31 = .ok (.iload_n 2, 1) := by decide +kernel
theorem dX11_setMode_32 : decode cX11_setMode 32 = .ok (.ireturn, 1) := by decide +kernel
theorem dX11_setRule_0 : decode cX11_setRule 0 = .ok (.iload_n 1, 1) := by decide +kernel
theorem dX11_setRule_1 : decode cX11_setRule 1 = .ok (.iconst 0, 1) := by decide +kernel
theorem dX11_setRule_2 : decode cX11_setRule 2 = .ok (.iconst 1, 1) := by decide +kernel
theorem dX11_setRule_3 : decode cX11_setRule 3 = .ok (.invokestatic 93, 3) := by decide +kernel
theorem dX11_setRule_6 : decode cX11_setRule 6 = .ok (.ifCond .ne 5, 3) := by decide +kernel
theorem dX11_setRule_9 : decode cX11_setRule 9 = .ok (.iconst (-1), 1) := by decide +kernel
theorem dX11_setRule_10 : decode cX11_setRule 10 = .ok (.ireturn, 1) := by decide +kernel
theorem dX11_setRule_11 : decode cX11_setRule 11 = .ok (.aload_n 0, 1) := by decide +kernel
theorem dX11_setRule_12 : decode cX11_setRule 12 = .ok (.getfield 12, 3) := by decide +kernel
theorem dX11_setRule_15 : decode cX11_setRule 15 = .ok (.getfield 162, 3) := by decide +kernel
theorem dX11_setRule_18 : decode cX11_setRule 18 = .ok (.istore_n 2, 1) := by decide +kernel
theorem dX11_setRule_19 : decode cX11_setRule 19 = .ok (.aload_n 0, 1) := by decide +kernel
theorem dX11_setRule_20 : decode cX11_setRule 20 = .ok (.invokevirtual 97, 3) := by decide +kernel
theorem dX11_setRule_23 : decode cX11_setRule 23 = .ok (.aload_n 0, 1) := by decide +kernel
theorem dX11_setRule_24 : decode cX11_setRule 24 = .ok (.getfield 12, 3) := by decide +kernel
theorem dX11_setRule_27 : decode cX11_setRule 27 = .ok (.iload_n 1, 1) := by decide +kernel
theorem dX11_setRule_28 : decode cX11_setRule 28 = .ok (.putfield 162, 3) := by decide +kernel
theorem dX11_setRule_31 : decode cX11_setRule 31 = .ok (.iload_n 2, 1) := by decide +kernel
theorem dX11_setRule_32 : decode cX11_setRule 32 = .ok (.ireturn, 1) := by decide +kernel
theorem dX11_count_0 : decode cX11_count 0 = .ok (.iload_n 1, 1) := by decide +kernel
theorem dX11_count_1 : decode cX11_count 1 = .ok (.tableswitch 143 0 9 #[55, 63, 71, 79, 87, 95, 103, 111, 123, 135], 55) := by decide +kernel
theorem dX11_count_56 : decode cX11_count 56 = .ok (.aload_n 0, 1) := by decide +kernel
theorem dX11_count_57 : decode cX11_count 57 = .ok (.getfield 12, 3) := by decide +kernel
theorem dX11_count_60 : decode cX11_count 60 = .ok (.getfield 165, 3) := by decide +kernel
theorem dX11_count_63 : decode cX11_count 63 = .ok (.ireturn, 1) := by decide +kernel
theorem dX11_count_64 : decode cX11_count 64 = .ok (.aload_n 0, 1) := by decide +kernel
theorem dX11_count_65 : decode cX11_count 65 = .ok (.getfield 12, 3) := by decide +kernel
theorem dX11_count_68 : decode cX11_count 68 = .ok (.getfield 168, 3) := by decide +kernel
theorem dX11_count_71 : decode cX11_count 71 = .ok (.ireturn, 1) := by decide +kernel
theorem dX11_count_72 : decode cX11_count 72 = .ok (.aload_n 0, 1) := by decide +kernel
theorem dX11_count_73 : decode cX11_count 73 = .ok (.getfield 12, 3) := by decide +kernel
theorem dX11_count_76 : decode cX11_count 76 = .ok (.invokevirtual 118, 3) := by decide +kernel
theorem dX11_count_79 : decode cX11_count 79 = .ok (.ireturn, 1) := by decide +kernel
theorem dX11_count_80 : decode cX11_count 80 = .ok (.aload_n 0, 1) := by decide +kernel
theorem dX11_count_81 : decode cX11_count 81 = .ok (.getfield 12, 3) := by decide +kernel
theorem dX11_count_84 : decode cX11_count 84 = .ok (.getfield 130, 3) := by decide +kernel
theorem dX11_count_87 : decode cX11_count 87 = .ok (.ireturn, 1) := by decide +kernel
theorem dX11_count_88 : decode cX11_count 88 = .ok (.aload_n 0, 1) := by decide +kernel
theorem dX11_count_89 : decode cX11_count 89 = .ok (.getfield 12, 3) := by decide +kernel
theorem dX11_count_92 : decode cX11_count 92 = .ok (.getfield 159, 3) := by decide +kernel
theorem dX11_count_95 : decode cX11_count 95 = .ok (.ireturn, 1) := by decide +kernel
theorem dX11_count_96 : decode cX11_count 96 = .ok (.aload_n 0, 1) := by decide +kernel
theorem dX11_count_97 : decode cX11_count 97 = .ok (.getfield 12, 3) := by decide +kernel
theorem dX11_count_100 : decode cX11_count 100 = .ok (.getfield 162, 3) := by decide +kernel
theorem dX11_count_103 : decode cX11_count 103 = .ok (.ireturn, 1) := by decide +kernel
theorem dX11_count_104 : decode cX11_count 104 = .ok (.aload_n 0, 1) := by decide +kernel
theorem dX11_count_105 : decode cX11_count 105 = .ok (.getfield 12, 3) := by decide +kernel
theorem dX11_count_108 : decode cX11_count 108 = .ok (.invokevirtual 171, 3) := by decide +kernel
theorem dX11_count_111 : decode cX11_count 111 = .ok (.ireturn, 1) := by decide +kernel
theorem dX11_count_112 : decode cX11_count 112 = .ok (.aload_n 0, 1) := by decide +kernel
theorem dX11_count_113 : decode cX11_count 113 = .ok (.invokevirtual 174, 3) := by decide +kernel
theorem dX11_count_116 : decode cX11_count 116 = .ok (.aload_n 0, 1) := by decide +kernel
theorem dX11_count_117 : decode cX11_count 117 = .ok (.getfield 40, 3) := by decide +kernel
theorem dX11_count_120 : decode cX11_count 120 = .ok (.getfield 177, 3) := by decide +kernel
theorem dX11_count_123 : decode cX11_count 123 = .ok (.ireturn, 1) := by decide +kernel
theorem dX11_count_124 : decode cX11_count 124 = .ok (.aload_n 0, 1) := by decide +kernel
theorem dX11_count_125 : decode cX11_count 125 = .ok (.invokevirtual 174, 3) := by decide +kernel
theorem dX11_count_128 : decode cX11_count 128 = .ok (.aload_n 0, 1) := by decide +kernel
theorem dX11_count_129 : decode cX11_count 129 = .ok (.getfield 47, 3) := by decide +kernel
theorem dX11_count_132 : decode cX11_count 132 = .ok (.getfield 180, 3) := by decide +kernel
theorem dX11_count_135 : decode cX11_count 135 = .ok (.ireturn, 1) := by decide +kernel
theorem dX11_count_136 : decode cX11_count 136 = .ok (.aload_n 0, 1) := by decide +kernel
theorem dX11_count_137 : decode cX11_count 137 = .ok (.getfield 19, 3) := by decide +kernel
theorem dX11_count_140 : decode cX11_count 140 = .ok (.getfield 181, 3) := by decide +kernel
theorem dX11_count_143 : decode cX11_count 143 = .ok (.ireturn, 1) := by decide +kernel
theorem dX11_count_144 : decode cX11_count 144 = .ok (.iconst (-1), 1) := by decide +kernel
theorem dX11_count_145 : decode cX11_count 145 = .ok (.ireturn, 1) := by decide +kernel
theorem dX11_colour_0 : decode cX11_colour 0 = .ok (.aload_n 0, 1) := by decide +kernel
theorem dX11_colour_1 : decode cX11_colour 1 = .ok (.getfield 12, 3) := by decide +kernel
theorem dX11_colour_4 : decode cX11_colour 4 = .ok (.iload_n 1, 1) := by decide +kernel
theorem dX11_colour_5 : decode cX11_colour 5 = .ok (.invokevirtual 108, 3) := by decide +kernel
theorem dX11_colour_8 : decode cX11_colour 8 = .ok (.ifCond .ne 5, 3) := by decide +kernel
theorem dX11_colour_11 : decode cX11_colour 11 = .ok (.iconst (-1), 1) := by decide +kernel
theorem dX11_colour_12 : decode cX11_colour 12 = .ok (.ireturn, 1) := by decide +kernel
theorem dX11_colour_13 : decode cX11_colour 13 = .ok (.aload_n 0, 1) := by decide +kernel
theorem dX11_colour_14 : decode cX11_colour 14 = .ok (.getfield 12, 3) := by decide +kernel
theorem dX11_colour_17 : decode cX11_colour 17 = .ok (.iload_n 1, 1) := by decide +kernel
theorem dX11_colour_18 : decode cX11_colour 18 = .ok (.invokevirtual 112, 3) := by decide +kernel
theorem dX11_colour_21 : decode cX11_colour 21 = .ok (.ifCond .eq 8, 3) := by decide +kernel
theorem dX11_colour_24 : decode cX11_colour 24 = .ok (.bipush (-9), 2) := by decide +kernel
theorem dX11_colour_26 : decode cX11_colour 26 = .ok (.goto 11, 3) := by decide +kernel
theorem dX11_colour_29 : decode cX11_colour 29 = .ok (.aload_n 0, 1) := by decide +kernel
theorem dX11_colour_30 : decode cX11_colour 30 = .ok (.getfield 12, 3) := by decide +kernel
theorem dX11_colour_33 : decode cX11_colour 33 = .ok (.iload_n 1, 1) := by decide +kernel
theorem dX11_colour_34 : decode cX11_colour 34 = .ok (.invokevirtual 121, 3) := by decide +kernel
theorem dX11_colour_37 : decode cX11_colour 37 = .ok (.ireturn, 1) := by decide +kernel
theorem dX11_piece_0 : decode cX11_piece 0 = .ok (.aload_n 0, 1) := by decide +kernel
theorem dX11_piece_1 : decode cX11_piece 1 = .ok (.getfield 12, 3) := by decide +kernel
theorem dX11_piece_4 : decode cX11_piece 4 = .ok (.iload_n 1, 1) := by decide +kernel
theorem dX11_piece_5 : decode cX11_piece 5 = .ok (.invokevirtual 141, 3) := by decide +kernel
theorem dX11_piece_8 : decode cX11_piece 8 = .ok (.ifCond .ne 5, 3) := by decide +kernel
theorem dX11_piece_11 : decode cX11_piece 11 = .ok (.iconst (-1), 1) := by decide +kernel
theorem dX11_piece_12 : decode cX11_piece 12 = .ok (.ireturn, 1) := by decide +kernel
theorem dX11_piece_13 : decode cX11_piece 13 = .ok (.iload_n 2, 1) := by decide +kernel
theorem dX11_piece_14 : decode cX11_piece 14 = .ok (.tableswitch 116 0 6 #[42, 51, 60, 69, 78, 90, 103], 42) := by decide +kernel
theorem dX11_piece_56 : decode cX11_piece 56 = .ok (.aload_n 0, 1) := by decide +kernel
theorem dX11_piece_57 : decode cX11_piece 57 = .ok (.getfield 12, 3) := by decide +kernel
theorem dX11_piece_60 : decode cX11_piece 60 = .ok (.iload_n 1, 1) := by decide +kernel
theorem dX11_piece_61 : decode cX11_piece 61 = .ok (.invokevirtual 182, 3) := by decide +kernel
theorem dX11_piece_64 : decode cX11_piece 64 = .ok (.ireturn, 1) := by decide +kernel
theorem dX11_piece_65 : decode cX11_piece 65 = .ok (.aload_n 0, 1) := by decide +kernel
theorem dX11_piece_66 : decode cX11_piece 66 = .ok (.getfield 12, 3) := by decide +kernel
theorem dX11_piece_69 : decode cX11_piece 69 = .ok (.iload_n 1, 1) := by decide +kernel
theorem dX11_piece_70 : decode cX11_piece 70 = .ok (.invokevirtual 185, 3) := by decide +kernel
theorem dX11_piece_73 : decode cX11_piece 73 = .ok (.ireturn, 1) := by decide +kernel
theorem dX11_piece_74 : decode cX11_piece 74 = .ok (.aload_n 0, 1) := by decide +kernel
theorem dX11_piece_75 : decode cX11_piece 75 = .ok (.getfield 12, 3) := by decide +kernel
theorem dX11_piece_78 : decode cX11_piece 78 = .ok (.iload_n 1, 1) := by decide +kernel
theorem dX11_piece_79 : decode cX11_piece 79 = .ok (.invokevirtual 188, 3) := by decide +kernel
theorem dX11_piece_82 : decode cX11_piece 82 = .ok (.ireturn, 1) := by decide +kernel
theorem dX11_piece_83 : decode cX11_piece 83 = .ok (.aload_n 0, 1) := by decide +kernel
theorem dX11_piece_84 : decode cX11_piece 84 = .ok (.getfield 12, 3) := by decide +kernel
theorem dX11_piece_87 : decode cX11_piece 87 = .ok (.iload_n 1, 1) := by decide +kernel
theorem dX11_piece_88 : decode cX11_piece 88 = .ok (.invokevirtual 148, 3) := by decide +kernel
theorem dX11_piece_91 : decode cX11_piece 91 = .ok (.ireturn, 1) := by decide +kernel
theorem dX11_piece_92 : decode cX11_piece 92 = .ok (.aload_n 0, 1) := by decide +kernel
theorem dX11_piece_93 : decode cX11_piece 93 = .ok (.getfield 12, 3) := by decide +kernel
theorem dX11_piece_96 : decode cX11_piece 96 = .ok (.iload_n 1, 1) := by decide +kernel
theorem dX11_piece_97 : decode cX11_piece 97 = .ok (.invokevirtual 182, 3) := by decide +kernel
theorem dX11_piece_100 : decode cX11_piece 100 = .ok (.invokestatic 191, 3) := by decide +kernel
theorem dX11_piece_103 : decode cX11_piece 103 = .ok (.ireturn, 1) := by decide +kernel
theorem dX11_piece_104 : decode cX11_piece 104 = .ok (.aload_n 0, 1) := by decide +kernel
theorem dX11_piece_105 : decode cX11_piece 105 = .ok (.invokevirtual 174, 3) := by decide +kernel
theorem dX11_piece_108 : decode cX11_piece 108 = .ok (.aload_n 0, 1) := by decide +kernel
theorem dX11_piece_109 : decode cX11_piece 109 = .ok (.getfield 33, 3) := by decide +kernel
theorem dX11_piece_112 : decode cX11_piece 112 = .ok (.iload_n 1, 1) := by decide +kernel
theorem dX11_piece_113 : decode cX11_piece 113 = .ok (.invokevirtual 196, 3) := by decide +kernel
theorem dX11_piece_116 : decode cX11_piece 116 = .ok (.ireturn, 1) := by decide +kernel
theorem dX11_piece_117 : decode cX11_piece 117 = .ok (.aload_n 0, 1) := by decide +kernel
theorem dX11_piece_118 : decode cX11_piece 118 = .ok (.invokevirtual 174, 3) := by decide +kernel
theorem dX11_piece_121 : decode cX11_piece 121 = .ok (.aload_n 0, 1) := by decide +kernel
theorem dX11_piece_122 : decode cX11_piece 122 = .ok (.getfield 40, 3) := by decide +kernel
theorem dX11_piece_125 : decode cX11_piece 125 = .ok (.iload_n 1, 1) := by decide +kernel
theorem dX11_piece_126 : decode cX11_piece 126 = .ok (.invokevirtual 199, 3) := by decide +kernel
theorem dX11_piece_129 : decode cX11_piece 129 = .ok (.ireturn, 1) := by decide +kernel
theorem dX11_piece_130 : decode cX11_piece 130 = .ok (.iconst (-1), 1) := by decide +kernel
theorem dX11_piece_131 : decode cX11_piece 131 = .ok (.ireturn, 1) := by decide +kernel
theorem dX11_form_0 : decode cX11_form 0 = .ok (.aload_n 0, 1) := by decide +kernel
theorem dX11_form_1 : decode cX11_form 1 = .ok (.getfield 12, 3) := by decide +kernel
theorem dX11_form_4 : decode cX11_form 4 = .ok (.iload_n 1, 1) := by decide +kernel
theorem dX11_form_5 : decode cX11_form 5 = .ok (.invokevirtual 141, 3) := by decide +kernel
theorem dX11_form_8 : decode cX11_form 8 = .ok (.ifCond .eq 7, 3) := by decide +kernel
theorem dX11_form_11 : decode cX11_form 11 = .ok (.iload_n 2, 1) := by decide +kernel
theorem dX11_form_12 : decode cX11_form 12 = .ok (.ifCond .ge 5, 3) := by decide +kernel
theorem dX11_form_15 : decode cX11_form 15 = .ok (.iconst (-1), 1) := by decide +kernel
theorem dX11_form_16 : decode cX11_form 16 = .ok (.ireturn, 1) := by decide +kernel
theorem dX11_form_17 : decode cX11_form 17 = .ok (.aload_n 0, 1) := by decide +kernel
theorem dX11_form_18 : decode cX11_form 18 = .ok (.invokevirtual 174, 3) := by decide +kernel
theorem dX11_form_21 : decode cX11_form 21 = .ok (.iload_n 2, 1) := by decide +kernel
theorem dX11_form_22 : decode cX11_form 22 = .ok (.aload_n 0, 1) := by decide +kernel
theorem dX11_form_23 : decode cX11_form 23 = .ok (.getfield 33, 3) := by decide +kernel
theorem dX11_form_26 : decode cX11_form 26 = .ok (.iload_n 1, 1) := by decide +kernel
theorem dX11_form_27 : decode cX11_form 27 = .ok (.invokevirtual 196, 3) := by decide +kernel
theorem dX11_form_30 : decode cX11_form 30 = .ok (.if_icmp .ge 15, 3) := by decide +kernel
theorem dX11_form_33 : decode cX11_form 33 = .ok (.aload_n 0, 1) := by decide +kernel
theorem dX11_form_34 : decode cX11_form 34 = .ok (.getfield 33, 3) := by decide +kernel
theorem dX11_form_37 : decode cX11_form 37 = .ok (.iload_n 1, 1) := by decide +kernel
theorem dX11_form_38 : decode cX11_form 38 = .ok (.iload_n 2, 1) := by decide +kernel
theorem dX11_form_39 : decode cX11_form 39 = .ok (.invokevirtual 200, 3) := by decide +kernel
theorem dX11_form_42 : decode cX11_form 42 = .ok (.goto 5, 3) := by decide +kernel
theorem dX11_form_45 : decode cX11_form 45 = .ok (.bipush (-9), 2) := by decide +kernel
theorem dX11_form_47 : decode cX11_form 47 = .ok (.ireturn, 1) := by decide +kernel
theorem dX11_placement_0 : decode cX11_placement 0 = .ok (.iload_n 1, 1) := by decide +kernel
theorem dX11_placement_1 : decode cX11_placement 1 = .ok (.ifCond .lt 12, 3) := by decide +kernel
theorem dX11_placement_4 : decode cX11_placement 4 = .ok (.iload_n 2, 1) := by decide +kernel
theorem dX11_placement_5 : decode cX11_placement 5 = .ok (.iconst 0, 1) := by decide +kernel
theorem dX11_placement_6 : decode cX11_placement 6 = .ok (.iconst 4, 1) := by decide +kernel
theorem dX11_placement_7 : decode cX11_placement 7 = .ok (.invokestatic 93, 3) := by decide +kernel
theorem dX11_placement_10 : decode cX11_placement 10 = .ok (.ifCond .ne 5, 3) := by decide +kernel
theorem dX11_placement_13 : decode cX11_placement 13 = .ok (.iconst (-1), 1) := by decide +kernel
theorem dX11_placement_14 : decode cX11_placement 14 = .ok (.ireturn, 1) := by decide +kernel
theorem dX11_placement_15 : decode cX11_placement 15 = .ok (.aload_n 0, 1) := by decide +kernel
theorem dX11_placement_16 : decode cX11_placement 16 = .ok (.invokevirtual 174, 3) := by decide +kernel
theorem dX11_placement_19 : decode cX11_placement 19 = .ok (.iload_n 1, 1) := by decide +kernel
theorem dX11_placement_20 : decode cX11_placement 20 = .ok (.aload_n 0, 1) := by decide +kernel
theorem dX11_placement_21 : decode cX11_placement 21 = .ok (.getfield 40, 3) := by decide +kernel
theorem dX11_placement_24 : decode cX11_placement 24 = .ok (.getfield 177, 3) := by decide +kernel
theorem dX11_placement_27 : decode cX11_placement 27 = .ok (.if_icmp .lt 6, 3) := by decide +kernel
theorem dX11_placement_30 : decode cX11_placement 30 = .ok (.bipush (-9), 2) := by decide +kernel
theorem dX11_placement_32 : decode cX11_placement 32 = .ok (.ireturn, 1) := by decide +kernel
theorem dX11_placement_33 : decode cX11_placement 33 = .ok (.iload_n 2, 1) := by decide +kernel
theorem dX11_placement_34 : decode cX11_placement 34 = .ok (.tableswitch 69 0 3 #[30, 39, 48, 57], 30) := by decide +kernel
theorem dX11_placement_64 : decode cX11_placement 64 = .ok (.aload_n 0, 1) := by decide +kernel
theorem dX11_placement_65 : decode cX11_placement 65 = .ok (.getfield 40, 3) := by decide +kernel
theorem dX11_placement_68 : decode cX11_placement 68 = .ok (.iload_n 1, 1) := by decide +kernel
theorem dX11_placement_69 : decode cX11_placement 69 = .ok (.invokevirtual 203, 3) := by decide +kernel
theorem dX11_placement_72 : decode cX11_placement 72 = .ok (.ireturn, 1) := by decide +kernel
theorem dX11_placement_73 : decode cX11_placement 73 = .ok (.aload_n 0, 1) := by decide +kernel
theorem dX11_placement_74 : decode cX11_placement 74 = .ok (.getfield 40, 3) := by decide +kernel
theorem dX11_placement_77 : decode cX11_placement 77 = .ok (.iload_n 1, 1) := by decide +kernel
theorem dX11_placement_78 : decode cX11_placement 78 = .ok (.invokevirtual 206, 3) := by decide +kernel
theorem dX11_placement_81 : decode cX11_placement 81 = .ok (.ireturn, 1) := by decide +kernel
theorem dX11_placement_82 : decode cX11_placement 82 = .ok (.aload_n 0, 1) := by decide +kernel
theorem dX11_placement_83 : decode cX11_placement 83 = .ok (.getfield 40, 3) := by decide +kernel
theorem dX11_placement_86 : decode cX11_placement 86 = .ok (.iload_n 1, 1) := by decide +kernel
theorem dX11_placement_87 : decode cX11_placement 87 = .ok (.invokevirtual 209, 3) := by decide +kernel
theorem dX11_placement_90 : decode cX11_placement 90 = .ok (.ireturn, 1) := by decide +kernel
theorem dX11_placement_91 : decode cX11_placement 91 = .ok (.aload_n 0, 1) := by decide +kernel
theorem dX11_placement_92 : decode cX11_placement 92 = .ok (.getfield 40, 3) := by decide +kernel
theorem dX11_placement_95 : decode cX11_placement 95 = .ok (.iload_n 1, 1) := by decide +kernel
theorem dX11_placement_96 : decode cX11_placement 96 = .ok (.invokevirtual 212, 3) := by decide +kernel
theorem dX11_placement_99 : decode cX11_placement 99 = .ok (.invokestatic 216, 3) := by decide +kernel
theorem dX11_placement_102 : decode cX11_placement 102 = .ok (.ireturn, 1) := by decide +kernel
theorem dX11_placement_103 : decode cX11_placement 103 = .ok (.aload_n 0, 1) := by decide +kernel
theorem dX11_placement_104 : decode cX11_placement 104 = .ok (.getfield 40, 3) := by decide +kernel
theorem dX11_placement_107 : decode cX11_placement 107 = .ok (.iload_n 1, 1) := by decide +kernel
theorem dX11_placement_108 : decode cX11_placement 108 = .ok (.invokevirtual 212, 3) := by decide +kernel
theorem dX11_placement_111 : decode cX11_placement 111 = .ok (.invokestatic 220, 3) := by decide +kernel
theorem dX11_placement_114 : decode cX11_placement 114 = .ok (.ireturn, 1) := by decide +kernel
theorem dX11_appendCharacter_0 : decode cX11_appendCharacter 0 = .ok (.iload_n 1, 1) := by decide +kernel
theorem dX11_appendCharacter_1 : decode cX11_appendCharacter 1 = .ok (.iconst 0, 1) := by decide +kernel
theorem dX11_appendCharacter_2 : decode cX11_appendCharacter 2 = .ok (.sipush 255, 3) := by decide +kernel
theorem dX11_appendCharacter_5 : decode cX11_appendCharacter 5 = .ok (.invokestatic 93, 3) := by decide +kernel
theorem dX11_appendCharacter_8 : decode cX11_appendCharacter 8 = .ok (.ifCond .ne 5, 3) := by decide +kernel
theorem dX11_appendCharacter_11 : decode cX11_appendCharacter 11 = .ok (.iconst (-1), 1) := by decide +kernel
theorem dX11_appendCharacter_12 : decode cX11_appendCharacter 12 = .ok (.ireturn, 1) := by decide +kernel
theorem dX11_appendCharacter_13 : decode cX11_appendCharacter 13 = .ok (.aload_n 0, 1) := by decide +kernel
theorem dX11_appendCharacter_14 : decode cX11_appendCharacter 14 = .ok (.getfield 26, 3) := by decide +kernel
theorem dX11_appendCharacter_17 : decode cX11_appendCharacter 17 = .ok (.getfield 223, 3) := by decide +kernel
theorem dX11_appendCharacter_20 : decode cX11_appendCharacter 20 = .ok (.sipush 160, 3) := by decide +kernel
theorem dX11_appendCharacter_23 : decode cX11_appendCharacter 23 = .ok (.if_icmp .lt 6, 3) := by decide +kernel
theorem dX11_appendCharacter_26 : decode cX11_appendCharacter 26 = .ok (.bipush (-3), 2) := by decide +kernel
theorem dX11_appendCharacter_28 : decode cX11_appendCharacter 28 = .ok (.ireturn, 1) := by decide +kernel
theorem dX11_appendCharacter_29 : decode cX11_appendCharacter 29 = .ok (.aload_n 0, 1) := by decide +kernel
theorem dX11_appendCharacter_30 : decode cX11_appendCharacter 30 = .ok (.getfield 26, 3) := by decide +kernel
theorem dX11_appendCharacter_33 : decode cX11_appendCharacter 33 = .ok (.iload_n 1, 1) := by decide +kernel
theorem dX11_appendCharacter_34 : decode cX11_appendCharacter 34 = .ok (.invokevirtual 226, 3) := by decide +kernel
theorem dX11_appendCharacter_37 : decode cX11_appendCharacter 37 = .ok (.aload_n 0, 1) := by decide +kernel
theorem dX11_appendCharacter_38 : decode cX11_appendCharacter 38 = .ok (.getfield 26, 3) := by decide +kernel
theorem dX11_appendCharacter_41 : decode cX11_appendCharacter 41 = .ok (.getfield 223, 3) := by decide +kernel
theorem dX11_appendCharacter_44 : decode cX11_appendCharacter 44 = .ok (.ireturn, 1) := by decide +kernel
theorem dX11_clearText_0 : decode cX11_clearText 0 = .ok (.aload_n 0, 1) := by decide +kernel
theorem dX11_clearText_1 : decode cX11_clearText 1 = .ok (.getfield 26, 3) := by decide +kernel
theorem dX11_clearText_4 : decode cX11_clearText 4 = .ok (.getfield 223, 3) := by decide +kernel
theorem dX11_clearText_7 : decode cX11_clearText 7 = .ok (.istore_n 1, 1) := by decide +kernel
theorem dX11_clearText_8 : decode cX11_clearText 8 = .ok (.aload_n 0, 1) := by decide +kernel
theorem dX11_clearText_9 : decode cX11_clearText 9 = .ok (.getfield 26, 3) := by decide +kernel
theorem dX11_clearText_12 : decode cX11_clearText 12 = .ok (.iconst 0, 1) := by decide +kernel
theorem dX11_clearText_13 : decode cX11_clearText 13 = .ok (.putfield 223, 3) := by decide +kernel
theorem dX11_clearText_16 : decode cX11_clearText 16 = .ok (.iload_n 1, 1) := by decide +kernel
theorem dX11_clearText_17 : decode cX11_clearText 17 = .ok (.ireturn, 1) := by decide +kernel
theorem dX11_load_0 : decode cX11_load 0 = .ok (.aload_n 0, 1) := by decide +kernel
theorem dX11_load_1 : decode cX11_load 1 = .ok (.getfield 26, 3) := by decide +kernel
theorem dX11_load_4 : decode cX11_load 4 = .ok (.invokevirtual 228, 3) := by decide +kernel
theorem dX11_load_7 : decode cX11_load 7 = .ok (.istore_n 1, 1) := by decide +kernel
theorem dX11_load_8 : decode cX11_load 8 = .ok (.iload_n 1, 1) := by decide +kernel
theorem dX11_load_9 : decode cX11_load 9 = .ok (.iconst (-1), 1) := by decide +kernel
theorem dX11_load_10 : decode cX11_load 10 = .ok (.if_icmp .eq 8, 3) := by decide +kernel
theorem dX11_load_13 : decode cX11_load 13 = .ok (.bipush (-10), 2) := by decide +kernel
theorem dX11_load_15 : decode cX11_load 15 = .ok (.iload_n 1, 1) := by decide +kernel
theorem dX11_load_16 : decode cX11_load 16 = .ok (.isub, 1) := by decide +kernel
theorem dX11_load_17 : decode cX11_load 17 = .ok (.ireturn, 1) := by decide +kernel
theorem dX11_load_18 : decode cX11_load 18 = .ok (.aload_n 0, 1) := by decide +kernel
theorem dX11_load_19 : decode cX11_load 19 = .ok (.invokevirtual 97, 3) := by decide +kernel
theorem dX11_load_22 : decode cX11_load 22 = .ok (.aload_n 0, 1) := by decide +kernel
theorem dX11_load_23 : decode cX11_load 23 = .ok (.getfield 26, 3) := by decide +kernel
theorem dX11_load_26 : decode cX11_load 26 = .ok (.aload_n 0, 1) := by decide +kernel
theorem dX11_load_27 : decode cX11_load 27 = .ok (.getfield 12, 3) := by decide +kernel
theorem dX11_load_30 : decode cX11_load 30 = .ok (.invokevirtual 231, 3) := by decide +kernel
theorem dX11_load_33 : decode cX11_load 33 = .ok (.aload_n 0, 1) := by decide +kernel
theorem dX11_load_34 : decode cX11_load 34 = .ok (.getfield 26, 3) := by decide +kernel
theorem dX11_load_37 : decode cX11_load 37 = .ok (.iconst 0, 1) := by decide +kernel
theorem dX11_load_38 : decode cX11_load 38 = .ok (.putfield 223, 3) := by decide +kernel
theorem dX11_load_41 : decode cX11_load 41 = .ok (.aload_n 0, 1) := by decide +kernel
theorem dX11_load_42 : decode cX11_load 42 = .ok (.getfield 12, 3) := by decide +kernel
theorem dX11_load_45 : decode cX11_load 45 = .ok (.getfield 130, 3) := by decide +kernel
theorem dX11_load_48 : decode cX11_load 48 = .ok (.ireturn, 1) := by decide +kernel
theorem dX11_covers_0 : decode cX11_covers 0 = .ok (.aload_n 0, 1) := by decide +kernel
theorem dX11_covers_1 : decode cX11_covers 1 = .ok (.invokevirtual 235, 3) := by decide +kernel
theorem dX11_covers_4 : decode cX11_covers 4 = .ok (.aload_n 0, 1) := by decide +kernel
theorem dX11_covers_5 : decode cX11_covers 5 = .ok (.getfield 65, 3) := by decide +kernel
theorem dX11_covers_8 : decode cX11_covers 8 = .ok (.getfield 238, 3) := by decide +kernel
theorem dX11_covers_11 : decode cX11_covers 11 = .ok (.ifCond .eq 13, 3) := by decide +kernel
theorem dX11_covers_14 : decode cX11_covers 14 = .ok (.aload_n 0, 1) := by decide +kernel
theorem dX11_covers_15 : decode cX11_covers 15 = .ok (.getfield 65, 3) := by decide +kernel
theorem dX11_covers_18 : decode cX11_covers 18 = .ok (.getfield 241, 3) := by decide +kernel
theorem dX11_covers_21 : decode cX11_covers 21 = .ok (.goto 5, 3) := by decide +kernel
theorem dX11_covers_24 : decode cX11_covers 24 = .ok (.bipush (-4), 2) := by decide +kernel
theorem dX11_covers_26 : decode cX11_covers 26 = .ok (.ireturn, 1) := by decide +kernel
theorem dX11_tries_0 : decode cX11_tries 0 = .ok (.aload_n 0, 1) := by decide +kernel
theorem dX11_tries_1 : decode cX11_tries 1 = .ok (.invokevirtual 235, 3) := by decide +kernel
theorem dX11_tries_4 : decode cX11_tries 4 = .ok (.aload_n 0, 1) := by decide +kernel
theorem dX11_tries_5 : decode cX11_tries 5 = .ok (.getfield 65, 3) := by decide +kernel
theorem dX11_tries_8 : decode cX11_tries 8 = .ok (.getfield 238, 3) := by decide +kernel
theorem dX11_tries_11 : decode cX11_tries 11 = .ok (.ifCond .eq 13, 3) := by decide +kernel
theorem dX11_tries_14 : decode cX11_tries 14 = .ok (.aload_n 0, 1) := by decide +kernel
theorem dX11_tries_15 : decode cX11_tries 15 = .ok (.getfield 65, 3) := by decide +kernel
theorem dX11_tries_18 : decode cX11_tries 18 = .ok (.getfield 242, 3) := by decide +kernel
theorem dX11_tries_21 : decode cX11_tries 21 = .ok (.goto 5, 3) := by decide +kernel
theorem dX11_tries_24 : decode cX11_tries 24 = .ok (.bipush (-4), 2) := by decide +kernel
theorem dX11_tries_26 : decode cX11_tries 26 = .ok (.ireturn, 1) := by decide +kernel
theorem dX11_coverAt_0 : decode cX11_coverAt 0 = .ok (.iload_n 1, 1) := by decide +kernel
theorem dX11_coverAt_1 : decode cX11_coverAt 1 = .ok (.ifCond .lt 14, 3) := by decide +kernel
theorem dX11_coverAt_4 : decode cX11_coverAt 4 = .ok (.aload_n 0, 1) := by decide +kernel
theorem dX11_coverAt_5 : decode cX11_coverAt 5 = .ok (.getfield 12, 3) := by decide +kernel
theorem dX11_coverAt_8 : decode cX11_coverAt 8 = .ok (.iload_n 2, 1) := by decide +kernel
theorem dX11_coverAt_9 : decode cX11_coverAt 9 = .ok (.invokevirtual 108, 3) := by decide +kernel
theorem dX11_coverAt_12 : decode cX11_coverAt 12 = .ok (.ifCond .ne 5, 3) := by decide +kernel
theorem dX11_coverAt_15 : decode cX11_coverAt 15 = .ok (.iconst (-1), 1) := by decide +kernel
theorem dX11_coverAt_16 : decode cX11_coverAt 16 = .ok (.ireturn, 1) := by decide +kernel
theorem dX11_coverAt_17 : decode cX11_coverAt 17 = .ok (.aload_n 0, 1) := by decide +kernel
theorem dX11_coverAt_18 : decode cX11_coverAt 18 = .ok (.invokevirtual 235, 3) := by decide +kernel
theorem dX11_coverAt_21 : decode cX11_coverAt 21 = .ok (.iload_n 1, 1) := by decide +kernel
theorem dX11_coverAt_22 : decode cX11_coverAt 22 = .ok (.aload_n 0, 1) := by decide +kernel
theorem dX11_coverAt_23 : decode cX11_coverAt 23 = .ok (.getfield 65, 3) := by decide +kernel
theorem dX11_coverAt_26 : decode cX11_coverAt 26 = .ok (.getfield 241, 3) := by decide +kernel
theorem dX11_coverAt_29 : decode cX11_coverAt 29 = .ok (.if_icmp .lt 8, 3) := by decide +kernel
theorem dX11_coverAt_32 : decode cX11_coverAt 32 = .ok (.aload_n 0, 1) := by decide +kernel
theorem dX11_coverAt_33 : decode cX11_coverAt 33 = .ok (.invokevirtual 245, 3) := by decide +kernel
theorem dX11_coverAt_36 : decode cX11_coverAt 36 = .ok (.ireturn, 1) := by decide +kernel
theorem dX11_coverAt_37 : decode cX11_coverAt 37 = .ok (.aload_n 0, 1) := by decide +kernel
theorem dX11_coverAt_38 : decode cX11_coverAt 38 = .ok (.getfield 12, 3) := by decide +kernel
theorem dX11_coverAt_41 : decode cX11_coverAt 41 = .ok (.iload_n 2, 1) := by decide +kernel
theorem dX11_coverAt_42 : decode cX11_coverAt 42 = .ok (.invokevirtual 112, 3) := by decide +kernel
theorem dX11_coverAt_45 : decode cX11_coverAt 45 = .ok (.ifCond .eq 6, 3) := by decide +kernel
theorem dX11_coverAt_48 : decode cX11_coverAt 48 = .ok (.bipush (-9), 2) := by decide +kernel
theorem dX11_coverAt_50 : decode cX11_coverAt 50 = .ok (.ireturn, 1) := by decide +kernel
theorem dX11_coverAt_51 : decode cX11_coverAt 51 = .ok (.aload_n 0, 1) := by decide +kernel
theorem dX11_coverAt_52 : decode cX11_coverAt 52 = .ok (.getfield 65, 3) := by decide +kernel
theorem dX11_coverAt_55 : decode cX11_coverAt 55 = .ok (.aload_n 0, 1) := by decide +kernel
theorem dX11_coverAt_56 : decode cX11_coverAt 56 = .ok (.getfield 65, 3) := by decide +kernel
theorem dX11_coverAt_59 : decode cX11_coverAt 59 = .ok (.iload_n 1, 1) := by decide +kernel
theorem dX11_coverAt_60 : decode cX11_coverAt 60 = .ok (.iconst 0, 1) := by decide +kernel
theorem dX11_coverAt_61 : decode cX11_coverAt 61 = .ok (.invokevirtual 248, 3) := by decide +kernel
theorem dX11_coverAt_64 : decode cX11_coverAt 64 = .ok (.iload_n 2, 1) := by decide +kernel
theorem dX11_coverAt_65 : decode cX11_coverAt 65 = .ok (.invokevirtual 251, 3) := by decide +kernel
theorem dX11_coverAt_68 : decode cX11_coverAt 68 = .ok (.ireturn, 1) := by decide +kernel
theorem dX11_used_0 : decode cX11_used 0 = .ok (.iload_n 1, 1) := by decide +kernel
theorem dX11_used_1 : decode cX11_used 1 = .ok (.ifCond .lt 14, 3) := by decide +kernel
theorem dX11_used_4 : decode cX11_used 4 = .ok (.aload_n 0, 1) := by decide +kernel
theorem dX11_used_5 : decode cX11_used 5 = .ok (.getfield 12, 3) := by decide +kernel
theorem dX11_used_8 : decode cX11_used 8 = .ok (.iload_n 2, 1) := by decide +kernel
theorem dX11_used_9 : decode cX11_used 9 = .ok (.invokevirtual 141, 3) := by decide +kernel
theorem dX11_used_12 : decode cX11_used 12 = .ok (.ifCond .ne 5, 3) := by decide +kernel
theorem dX11_used_15 : decode cX11_used 15 = .ok (.iconst (-1), 1) := by decide +kernel
theorem dX11_used_16 : decode cX11_used 16 = .ok (.ireturn, 1) := by decide +kernel
theorem dX11_used_17 : decode cX11_used 17 = .ok (.aload_n 0, 1) := by decide +kernel
theorem dX11_used_18 : decode cX11_used 18 = .ok (.invokevirtual 235, 3) := by decide +kernel
theorem dX11_used_21 : decode cX11_used 21 = .ok (.iload_n 1, 1) := by decide +kernel
theorem dX11_used_22 : decode cX11_used 22 = .ok (.aload_n 0, 1) := by decide +kernel
theorem dX11_used_23 : decode cX11_used 23 = .ok (.getfield 65, 3) := by decide +kernel
theorem dX11_used_26 : decode cX11_used 26 = .ok (.getfield 241, 3) := by decide +kernel
theorem dX11_used_29 : decode cX11_used 29 = .ok (.if_icmp .lt 8, 3) := by decide +kernel
theorem dX11_used_32 : decode cX11_used 32 = .ok (.aload_n 0, 1) := by decide +kernel
theorem dX11_used_33 : decode cX11_used 33 = .ok (.invokevirtual 245, 3) := by decide +kernel
theorem dX11_used_36 : decode cX11_used 36 = .ok (.ireturn, 1) := by decide +kernel
theorem dX11_used_37 : decode cX11_used 37 = .ok (.aload_n 0, 1) := by decide +kernel
theorem dX11_used_38 : decode cX11_used 38 = .ok (.getfield 65, 3) := by decide +kernel
theorem dX11_used_41 : decode cX11_used 41 = .ok (.iload_n 2, 1) := by decide +kernel
theorem dX11_used_42 : decode cX11_used 42 = .ok (.aload_n 0, 1) := by decide +kernel
theorem dX11_used_43 : decode cX11_used 43 = .ok (.getfield 65, 3) := by decide +kernel
theorem dX11_used_46 : decode cX11_used 46 = .ok (.iload_n 1, 1) := by decide +kernel
theorem dX11_used_47 : decode cX11_used 47 = .ok (.iconst 0, 1) := by decide +kernel
theorem dX11_used_48 : decode cX11_used 48 = .ok (.invokevirtual 248, 3) := by decide +kernel
theorem dX11_used_51 : decode cX11_used 51 = .ok (.invokevirtual 254, 3) := by decide +kernel
theorem dX11_used_54 : decode cX11_used 54 = .ok (.ireturn, 1) := by decide +kernel
theorem dX11_classes_0 : decode cX11_classes 0 = .ok (.aload_n 0, 1) := by decide +kernel
theorem dX11_classes_1 : decode cX11_classes 1 = .ok (.invokevirtual 235, 3) := by decide +kernel
theorem dX11_classes_4 : decode cX11_classes 4 = .ok (.aload_n 0, 1) := by decide +kernel
theorem dX11_classes_5 : decode cX11_classes 5 = .ok (.getfield 65, 3) := by decide +kernel
theorem dX11_classes_8 : decode cX11_classes 8 = .ok (.getfield 238, 3) := by decide +kernel
theorem dX11_classes_11 : decode cX11_classes 11 = .ok (.ifCond .ne 6, 3) := by decide +kernel
theorem dX11_classes_14 : decode cX11_classes 14 = .ok (.bipush (-4), 2) := by decide +kernel
theorem dX11_classes_16 : decode cX11_classes 16 = .ok (.ireturn, 1) := by decide +kernel
theorem dX11_classes_17 : decode cX11_classes 17 = .ok (.aload_n 0, 1) := by decide +kernel
theorem dX11_classes_18 : decode cX11_classes 18 = .ok (.getfield 65, 3) := by decide +kernel
theorem dX11_classes_21 : decode cX11_classes 21 = .ok (.getfield 241, 3) := by decide +kernel
theorem dX11_classes_24 : decode cX11_classes 24 = .ok (.bipush 100, 2) := by decide +kernel
theorem dX11_classes_26 : decode cX11_classes 26 = .ok (.if_icmp .le 8, 3) := by decide +kernel
theorem dX11_classes_29 : decode cX11_classes 29 = .ok (.bipush (-3), 2) := by decide +kernel
theorem dX11_classes_31 : decode cX11_classes 31 = .ok (.goto 10, 3) := by decide +kernel
theorem dX11_classes_34 : decode cX11_classes 34 = .ok (.aload_n 0, 1) := by decide +kernel
theorem dX11_classes_35 : decode cX11_classes 35 = .ok (.getfield 65, 3) := by decide +kernel
theorem dX11_classes_38 : decode cX11_classes 38 = .ok (.invokevirtual 257, 3) := by decide +kernel
theorem dX11_classes_41 : decode cX11_classes 41 = .ok (.ireturn, 1) := by decide +kernel
theorem dX11_alike_0 : decode cX11_alike 0 = .ok (.iload_n 1, 1) := by decide +kernel
theorem dX11_alike_1 : decode cX11_alike 1 = .ok (.ifCond .lt 7, 3) := by decide +kernel
theorem dX11_alike_4 : decode cX11_alike 4 = .ok (.iload_n 2, 1) := by decide +kernel
theorem dX11_alike_5 : decode cX11_alike 5 = .ok (.ifCond .ge 5, 3) := by decide +kernel
theorem dX11_alike_8 : decode cX11_alike 8 = .ok (.iconst (-1), 1) := by decide +kernel
theorem dX11_alike_9 : decode cX11_alike 9 = .ok (.ireturn, 1) := by decide +kernel
theorem dX11_alike_10 : decode cX11_alike 10 = .ok (.aload_n 0, 1) := by decide +kernel
theorem dX11_alike_11 : decode cX11_alike 11 = .ok (.invokevirtual 235, 3) := by decide +kernel
theorem dX11_alike_14 : decode cX11_alike 14 = .ok (.iload_n 1, 1) := by decide +kernel
theorem dX11_alike_15 : decode cX11_alike 15 = .ok (.aload_n 0, 1) := by decide +kernel
theorem dX11_alike_16 : decode cX11_alike 16 = .ok (.getfield 65, 3) := by decide +kernel
theorem dX11_alike_19 : decode cX11_alike 19 = .ok (.getfield 241, 3) := by decide +kernel
theorem dX11_alike_22 : decode cX11_alike 22 = .ok (.if_icmp .ge 14, 3) := by decide +kernel
theorem dX11_alike_25 : decode cX11_alike 25 = .ok (.iload_n 2, 1) := by decide +kernel
theorem dX11_alike_26 : decode cX11_alike 26 = .ok (.aload_n 0, 1) := by decide +kernel
theorem dX11_alike_27 : decode cX11_alike 27 = .ok (.getfield 65, 3) := by decide +kernel
theorem dX11_alike_30 : decode cX11_alike 30 = .ok (.getfield 241, 3) := by decide +kernel
theorem dX11_alike_33 : decode cX11_alike 33 = .ok (.if_icmp .lt 8, 3) := by decide +kernel
theorem dX11_alike_36 : decode cX11_alike 36 = .ok (.aload_n 0, 1) := by decide +kernel
theorem dX11_alike_37 : decode cX11_alike 37 = .ok (.invokevirtual 245, 3) := by decide +kernel
theorem dX11_alike_40 : decode cX11_alike 40 = .ok (.ireturn, 1) := by decide +kernel
theorem dX11_alike_41 : decode cX11_alike 41 = .ok (.aload_n 0, 1) := by decide +kernel
theorem dX11_alike_42 : decode cX11_alike 42 = .ok (.getfield 65, 3) := by decide +kernel
theorem dX11_alike_45 : decode cX11_alike 45 = .ok (.aload_n 0, 1) := by decide +kernel
theorem dX11_alike_46 : decode cX11_alike 46 = .ok (.getfield 65, 3) := by decide +kernel
theorem dX11_alike_49 : decode cX11_alike 49 = .ok (.iload_n 1, 1) := by decide +kernel
theorem dX11_alike_50 : decode cX11_alike 50 = .ok (.iconst 0, 1) := by decide +kernel
theorem dX11_alike_51 : decode cX11_alike 51 = .ok (.invokevirtual 248, 3) := by decide +kernel
theorem dX11_alike_54 : decode cX11_alike 54 = .ok (.aload_n 0, 1) := by decide +kernel
theorem dX11_alike_55 : decode cX11_alike 55 = .ok (.getfield 65, 3) := by decide +kernel
theorem dX11_alike_58 : decode cX11_alike 58 = .ok (.iload_n 2, 1) := by decide +kernel
theorem dX11_alike_59 : decode cX11_alike 59 = .ok (.iconst 1, 1) := by decide +kernel
theorem dX11_alike_60 : decode cX11_alike 60 = .ok (.invokevirtual 248, 3) := by decide +kernel
theorem dX11_alike_63 : decode cX11_alike 63 = .ok (.invokevirtual 260, 3) := by decide +kernel
theorem dX11_alike_66 : decode cX11_alike 66 = .ok (.ifCond .eq 7, 3) := by decide +kernel
theorem dX11_alike_69 : decode cX11_alike 69 = .ok (.iconst 1, 1) := by decide +kernel
theorem dX11_alike_70 : decode cX11_alike 70 = .ok (.goto 4, 3) := by decide +kernel
theorem dX11_alike_73 : decode cX11_alike 73 = .ok (.iconst 0, 1) := by decide +kernel
theorem dX11_alike_74 : decode cX11_alike 74 = .ok (.ireturn, 1) := by decide +kernel
theorem dX11_fewest_0 : decode cX11_fewest 0 = .ok (.aload_n 0, 1) := by decide +kernel
theorem dX11_fewest_1 : decode cX11_fewest 1 = .ok (.invokevirtual 235, 3) := by decide +kernel
theorem dX11_fewest_4 : decode cX11_fewest 4 = .ok (.aload_n 0, 1) := by decide +kernel
theorem dX11_fewest_5 : decode cX11_fewest 5 = .ok (.getfield 65, 3) := by decide +kernel
theorem dX11_fewest_8 : decode cX11_fewest 8 = .ok (.getfield 238, 3) := by decide +kernel
theorem dX11_fewest_11 : decode cX11_fewest 11 = .ok (.ifCond .ne 6, 3) := by decide +kernel
theorem dX11_fewest_14 : decode cX11_fewest 14 = .ok (.bipush (-4), 2) := by decide +kernel
theorem dX11_fewest_16 : decode cX11_fewest 16 = .ok (.ireturn, 1) := by decide +kernel
theorem dX11_fewest_17 : decode cX11_fewest 17 = .ok (.aload_n 0, 1) := by decide +kernel
theorem dX11_fewest_18 : decode cX11_fewest 18 = .ok (.getfield 65, 3) := by decide +kernel
theorem dX11_fewest_21 : decode cX11_fewest 21 = .ok (.getfield 241, 3) := by decide +kernel
theorem dX11_fewest_24 : decode cX11_fewest 24 = .ok (.ifCond .ne 8, 3) := by decide +kernel
theorem dX11_fewest_27 : decode cX11_fewest 27 = .ok (.bipush (-9), 2) := by decide +kernel
theorem dX11_fewest_29 : decode cX11_fewest 29 = .ok (.goto 10, 3) := by decide +kernel
theorem dX11_fewest_32 : decode cX11_fewest 32 = .ok (.aload_n 0, 1) := by decide +kernel
theorem dX11_fewest_33 : decode cX11_fewest 33 = .ok (.getfield 65, 3) := by decide +kernel
theorem dX11_fewest_36 : decode cX11_fewest 36 = .ok (.getfield 264, 3) := by decide +kernel
theorem dX11_fewest_39 : decode cX11_fewest 39 = .ok (.ireturn, 1) := by decide +kernel
theorem dX11_useful_0 : decode cX11_useful 0 = .ok (.aload_n 0, 1) := by decide +kernel
theorem dX11_useful_1 : decode cX11_useful 1 = .ok (.getfield 12, 3) := by decide +kernel
theorem dX11_useful_4 : decode cX11_useful 4 = .ok (.iload_n 1, 1) := by decide +kernel
theorem dX11_useful_5 : decode cX11_useful 5 = .ok (.invokevirtual 141, 3) := by decide +kernel
theorem dX11_useful_8 : decode cX11_useful 8 = .ok (.ifCond .ne 5, 3) := by decide +kernel
theorem dX11_useful_11 : decode cX11_useful 11 = .ok (.iconst (-1), 1) := by decide +kernel
theorem dX11_useful_12 : decode cX11_useful 12 = .ok (.ireturn, 1) := by decide +kernel
theorem dX11_useful_13 : decode cX11_useful 13 = .ok (.aload_n 0, 1) := by decide +kernel
theorem dX11_useful_14 : decode cX11_useful 14 = .ok (.invokevirtual 267, 3) := by decide +kernel
theorem dX11_useful_17 : decode cX11_useful 17 = .ok (.aload_n 0, 1) := by decide +kernel
theorem dX11_useful_18 : decode cX11_useful 18 = .ok (.getfield 72, 3) := by decide +kernel
theorem dX11_useful_21 : decode cX11_useful 21 = .ok (.aload_n 0, 1) := by decide +kernel
theorem dX11_useful_22 : decode cX11_useful 22 = .ok (.getfield 40, 3) := by decide +kernel
theorem dX11_useful_25 : decode cX11_useful 25 = .ok (.iload_n 1, 1) := by decide +kernel
theorem dX11_useful_26 : decode cX11_useful 26 = .ok (.invokevirtual 270, 3) := by decide +kernel
theorem dX11_useful_29 : decode cX11_useful 29 = .ok (.ireturn, 1) := by decide +kernel
theorem dX11_usefulAt_0 : decode cX11_usefulAt 0 = .ok (.aload_n 0, 1) := by decide +kernel
theorem dX11_usefulAt_1 : decode cX11_usefulAt 1 = .ok (.getfield 12, 3) := by decide +kernel
theorem dX11_usefulAt_4 : decode cX11_usefulAt 4 = .ok (.iload_n 1, 1) := by decide +kernel
theorem dX11_usefulAt_5 : decode cX11_usefulAt 5 = .ok (.invokevirtual 108, 3) := by decide +kernel
theorem dX11_usefulAt_8 : decode cX11_usefulAt 8 = .ok (.ifCond .ne 5, 3) := by decide +kernel
theorem dX11_usefulAt_11 : decode cX11_usefulAt 11 = .ok (.iconst (-1), 1) := by decide +kernel
theorem dX11_usefulAt_12 : decode cX11_usefulAt 12 = .ok (.ireturn, 1) := by decide +kernel
theorem dX11_usefulAt_13 : decode cX11_usefulAt 13 = .ok (.aload_n 0, 1) := by decide +kernel
theorem dX11_usefulAt_14 : decode cX11_usefulAt 14 = .ok (.getfield 12, 3) := by decide +kernel
theorem dX11_usefulAt_17 : decode cX11_usefulAt 17 = .ok (.iload_n 1, 1) := by decide +kernel
theorem dX11_usefulAt_18 : decode cX11_usefulAt 18 = .ok (.invokevirtual 112, 3) := by decide +kernel
theorem dX11_usefulAt_21 : decode cX11_usefulAt 21 = .ok (.ifCond .eq 6, 3) := by decide +kernel
theorem dX11_usefulAt_24 : decode cX11_usefulAt 24 = .ok (.bipush (-9), 2) := by decide +kernel
theorem dX11_usefulAt_26 : decode cX11_usefulAt 26 = .ok (.ireturn, 1) := by decide +kernel
theorem dX11_usefulAt_27 : decode cX11_usefulAt 27 = .ok (.aload_n 0, 1) := by decide +kernel
theorem dX11_usefulAt_28 : decode cX11_usefulAt 28 = .ok (.invokevirtual 267, 3) := by decide +kernel
theorem dX11_usefulAt_31 : decode cX11_usefulAt 31 = .ok (.aload_n 0, 1) := by decide +kernel
theorem dX11_usefulAt_32 : decode cX11_usefulAt 32 = .ok (.getfield 72, 3) := by decide +kernel
theorem dX11_usefulAt_35 : decode cX11_usefulAt 35 = .ok (.aload_n 0, 1) := by decide +kernel
theorem dX11_usefulAt_36 : decode cX11_usefulAt 36 = .ok (.getfield 40, 3) := by decide +kernel
theorem dX11_usefulAt_39 : decode cX11_usefulAt 39 = .ok (.iload_n 1, 1) := by decide +kernel
theorem dX11_usefulAt_40 : decode cX11_usefulAt 40 = .ok (.invokevirtual 274, 3) := by decide +kernel
theorem dX11_usefulAt_43 : decode cX11_usefulAt 43 = .ok (.ireturn, 1) := by decide +kernel
theorem dX11_proves_0 : decode cX11_proves 0 = .ok (.iload_n 3, 1) := by decide +kernel
theorem dX11_proves_1 : decode cX11_proves 1 = .ok (.iconst 2, 1) := by decide +kernel
theorem dX11_proves_2 : decode cX11_proves 2 = .ok (.iconst 5, 1) := by decide +kernel
theorem dX11_proves_3 : decode cX11_proves 3 = .ok (.invokestatic 93, 3) := by decide +kernel
theorem dX11_proves_6 : decode cX11_proves 6 = .ok (.ifCond .eq 25, 3) := by decide +kernel
theorem dX11_proves_9 : decode cX11_proves 9 = .ok (.iload_n 1, 1) := by decide +kernel
theorem dX11_proves_10 : decode cX11_proves 10 = .ok (.iconst 0, 1) := by decide +kernel
theorem dX11_proves_11 : decode cX11_proves 11 = .ok (.iload_n 3, 1) := by decide +kernel
theorem dX11_proves_12 : decode cX11_proves 12 = .ok (.iconst 1, 1) := by decide +kernel
theorem dX11_proves_13 : decode cX11_proves 13 = .ok (.isub, 1) := by decide +kernel
theorem dX11_proves_14 : decode cX11_proves 14 = .ok (.invokestatic 93, 3) := by decide +kernel
theorem dX11_proves_17 : decode cX11_proves 17 = .ok (.ifCond .eq 14, 3) := by decide +kernel
theorem dX11_proves_20 : decode cX11_proves 20 = .ok (.iload_n 2, 1) := by decide +kernel
theorem dX11_proves_21 : decode cX11_proves 21 = .ok (.iconst 0, 1) := by decide +kernel
theorem dX11_proves_22 : decode cX11_proves 22 = .ok (.iload_n 3, 1) := by decide +kernel
theorem dX11_proves_23 : decode cX11_proves 23 = .ok (.iconst 1, 1) := by decide +kernel
theorem dX11_proves_24 : decode cX11_proves 24 = .ok (.isub, 1) := by decide +kernel
theorem dX11_proves_25 : decode cX11_proves 25 = .ok (.invokestatic 93, 3) := by decide +kernel
theorem dX11_proves_28 : decode cX11_proves 28 = .ok (.ifCond .ne 5, 3) := by decide +kernel
theorem dX11_proves_31 : decode cX11_proves 31 = .ok (.iconst (-1), 1) := by decide +kernel
theorem dX11_proves_32 : decode cX11_proves 32 = .ok (.ireturn, 1) := by decide +kernel
theorem dX11_proves_33 : decode cX11_proves 33 = .ok (.aload_n 0, 1) := by decide +kernel
theorem dX11_proves_34 : decode cX11_proves 34 = .ok (.invokevirtual 174, 3) := by decide +kernel
theorem dX11_proves_37 : decode cX11_proves 37 = .ok (.aload_n 0, 1) := by decide +kernel
theorem dX11_proves_38 : decode cX11_proves 38 = .ok (.getfield 79, 3) := by decide +kernel
theorem dX11_proves_41 : decode cX11_proves 41 = .ok (.aload_n 0, 1) := by decide +kernel
theorem dX11_proves_42 : decode cX11_proves 42 = .ok (.getfield 12, 3) := by decide +kernel
theorem dX11_proves_45 : decode cX11_proves 45 = .ok (.aload_n 0, 1) := by decide +kernel
theorem dX11_proves_46 : decode cX11_proves 46 = .ok (.getfield 40, 3) := by decide +kernel
theorem dX11_proves_49 : decode cX11_proves 49 = .ok (.iload_n 1, 1) := by decide +kernel
theorem dX11_proves_50 : decode cX11_proves 50 = .ok (.iload_n 2, 1) := by decide +kernel
theorem dX11_proves_51 : decode cX11_proves 51 = .ok (.iload_n 3, 1) := by decide +kernel
theorem dX11_proves_52 : decode cX11_proves 52 = .ok (.invokevirtual 277, 3) := by decide +kernel
theorem dX11_proves_55 : decode cX11_proves 55 = .ok (.ifCond .eq 7, 3) := by decide +kernel
theorem dX11_proves_58 : decode cX11_proves 58 = .ok (.iconst 1, 1) := by decide +kernel
theorem dX11_proves_59 : decode cX11_proves 59 = .ok (.goto 4, 3) := by decide +kernel
theorem dX11_proves_62 : decode cX11_proves 62 = .ok (.iconst 0, 1) := by decide +kernel
theorem dX11_proves_63 : decode cX11_proves 63 = .ok (.ireturn, 1) := by decide +kernel
theorem dX11_proof_0 : decode cX11_proof 0 = .ok (.aload_n 0, 1) := by decide +kernel
theorem dX11_proof_1 : decode cX11_proof 1 = .ok (.invokevirtual 174, 3) := by decide +kernel
theorem dX11_proof_4 : decode cX11_proof 4 = .ok (.iconst 2, 1) := by decide +kernel
theorem dX11_proof_5 : decode cX11_proof 5 = .ok (.istore_n 1, 1) := by decide +kernel
theorem dX11_proof_6 : decode cX11_proof 6 = .ok (.iload_n 1, 1) := by decide +kernel
theorem dX11_proof_7 : decode cX11_proof 7 = .ok (.iconst 5, 1) := by decide +kernel
theorem dX11_proof_8 : decode cX11_proof 8 = .ok (.if_icmp .gt 68, 3) := by decide +kernel
theorem dX11_proof_11 : decode cX11_proof 11 = .ok (.iconst 0, 1) := by decide +kernel
theorem dX11_proof_12 : decode cX11_proof 12 = .ok (.istore_n 2, 1) := by decide +kernel
theorem dX11_proof_13 : decode cX11_proof 13 = .ok (.iload_n 2, 1) := by decide +kernel
theorem dX11_proof_14 : decode cX11_proof 14 = .ok (.iload_n 1, 1) := by decide +kernel
theorem dX11_proof_15 : decode cX11_proof 15 = .ok (.if_icmp .ge 55, 3) := by decide +kernel
theorem dX11_proof_18 : decode cX11_proof 18 = .ok (.iconst 0, 1) := by decide +kernel
theorem dX11_proof_19 : decode cX11_proof 19 = .ok (.istore_n 3, 1) := by decide +kernel
theorem dX11_proof_20 : decode cX11_proof 20 = .ok (.iload_n 3, 1) := by decide +kernel
theorem dX11_proof_21 : decode cX11_proof 21 = .ok (.iload_n 1, 1) := by decide +kernel
theorem dX11_proof_22 : decode cX11_proof 22 = .ok (.if_icmp .ge 42, 3) := by decide +kernel
theorem dX11_proof_25 : decode cX11_proof 25 = .ok (.aload_n 0, 1) := by decide +kernel
theorem dX11_proof_26 : decode cX11_proof 26 = .ok (.getfield 79, 3) := by decide +kernel
theorem dX11_proof_29 : decode cX11_proof 29 = .ok (.aload_n 0, 1) := by decide +kernel
theorem dX11_proof_30 : decode cX11_proof 30 = .ok (.getfield 12, 3) := by decide +kernel
theorem dX11_proof_33 : decode cX11_proof 33 = .ok (.aload_n 0, 1) := by decide +kernel
theorem dX11_proof_34 : decode cX11_proof 34 = .ok (.getfield 40, 3) := by decide +kernel
theorem dX11_proof_37 : decode cX11_proof 37 = .ok (.iload_n 2, 1) := by decide +kernel
theorem dX11_proof_38 : decode cX11_proof 38 = .ok (.iload_n 3, 1) := by decide +kernel
theorem dX11_proof_39 : decode cX11_proof 39 = .ok (.iload_n 1, 1) := by decide +kernel
theorem dX11_proof_40 : decode cX11_proof 40 = .ok (.invokevirtual 277, 3) := by decide +kernel
theorem dX11_proof_43 : decode cX11_proof 43 = .ok (.ifCond .eq 15, 3) := by decide +kernel
theorem dX11_proof_46 : decode cX11_proof 46 = .ok (.bipush 100, 2) := by decide +kernel
theorem dX11_proof_48 : decode cX11_proof 48 = .ok (.iload_n 1, 1) := by decide +kernel
theorem dX11_proof_49 : decode cX11_proof 49 = .ok (.imul, 1) := by decide +kernel
theorem dX11_proof_50 : decode cX11_proof 50 = .ok (.bipush 10, 2) := by decide +kernel
theorem dX11_proof_52 : decode cX11_proof 52 = .ok (.iload_n 2, 1) := by decide +kernel
theorem dX11_proof_53 : decode cX11_proof 53 = .ok (.imul, 1) := by decide +kernel
theorem dX11_proof_54 : decode cX11_proof 54 = .ok (.iadd, 1) := by decide +kernel
theorem dX11_proof_55 : decode cX11_proof 55 = .ok (.iload_n 3, 1) := by decide +kernel
theorem dX11_proof_56 : decode cX11_proof 56 = .ok (.iadd, 1) := by decide +kernel
theorem dX11_proof_57 : decode cX11_proof 57 = .ok (.ireturn, 1) := by decide +kernel
theorem dX11_proof_58 : decode cX11_proof 58 = .ok (.iinc 3 1, 3) := by decide +kernel
theorem dX11_proof_61 : decode cX11_proof 61 = .ok (.goto (-41), 3) := by decide +kernel
theorem dX11_proof_64 : decode cX11_proof 64 = .ok (.iinc 2 1, 3) := by decide +kernel
theorem dX11_proof_67 : decode cX11_proof 67 = .ok (.goto (-54), 3) := by decide +kernel
theorem dX11_proof_70 : decode cX11_proof 70 = .ok (.iinc 1 1, 3) := by decide +kernel
theorem dX11_proof_73 : decode cX11_proof 73 = .ok (.goto (-67), 3) := by decide +kernel
theorem dX11_proof_76 : decode cX11_proof 76 = .ok (.bipush (-9), 2) := by decide +kernel
theorem dX11_proof_78 : decode cX11_proof 78 = .ok (.ireturn, 1) := by decide +kernel
theorem dX11_undo_0 : decode cX11_undo 0 = .ok (.aload_n 0, 1) := by decide +kernel
theorem dX11_undo_1 : decode cX11_undo 1 = .ok (.getfield 19, 3) := by decide +kernel
theorem dX11_undo_4 : decode cX11_undo 4 = .ok (.getfield 181, 3) := by decide +kernel
theorem dX11_undo_7 : decode cX11_undo 7 = .ok (.ifCond .ne 6, 3) := by decide +kernel
theorem dX11_undo_10 : decode cX11_undo 10 = .ok (.bipush (-2), 2) := by decide +kernel
theorem dX11_undo_12 : decode cX11_undo 12 = .ok (.ireturn, 1) := by decide +kernel
theorem dX11_undo_13 : decode cX11_undo 13 = .ok (.aload_n 0, 1) := by decide +kernel
theorem dX11_undo_14 : decode cX11_undo 14 = .ok (.invokevirtual 281, 3) := by decide +kernel
theorem dX11_undo_17 : decode cX11_undo 17 = .ok (.aload_n 0, 1) := by decide +kernel
theorem dX11_undo_18 : decode cX11_undo 18 = .ok (.getfield 19, 3) := by decide +kernel
theorem dX11_undo_21 : decode cX11_undo 21 = .ok (.aload_n 0, 1) := by decide +kernel
theorem dX11_undo_22 : decode cX11_undo 22 = .ok (.getfield 12, 3) := by decide +kernel
theorem dX11_undo_25 : decode cX11_undo 25 = .ok (.invokevirtual 284, 3) := by decide +kernel
theorem dX11_undo_28 : decode cX11_undo 28 = .ok (.aload_n 0, 1) := by decide +kernel
theorem dX11_undo_29 : decode cX11_undo 29 = .ok (.getfield 19, 3) := by decide +kernel
theorem dX11_undo_32 : decode cX11_undo 32 = .ok (.getfield 181, 3) := by decide +kernel
theorem dX11_undo_35 : decode cX11_undo 35 = .ok (.ireturn, 1) := by decide +kernel
theorem dX11_prepareChange_0 : decode cX11_prepareChange 0 = .ok (.aload_n 0, 1) := by decide +kernel
theorem dX11_prepareChange_1 : decode cX11_prepareChange 1 = .ok (.getfield 19, 3) := by decide +kernel
theorem dX11_prepareChange_4 : decode cX11_prepareChange 4 = .ok (.aload_n 0, 1) := by decide +kernel
theorem dX11_prepareChange_5 : decode cX11_prepareChange 5 = .ok (.getfield 12, 3) := by decide +kernel
theorem dX11_prepareChange_8 : decode cX11_prepareChange 8 = .ok (.invokevirtual 287, 3) := by decide +kernel
theorem dX11_prepareChange_11 : decode cX11_prepareChange 11 = .ok (.aload_n 0, 1) := by decide +kernel
theorem dX11_prepareChange_12 : decode cX11_prepareChange 12 = .ok (.invokevirtual 281, 3) := by decide +kernel
theorem dX11_prepareChange_15 : decode cX11_prepareChange 15 = .ok (.return_, 1) := by decide +kernel
theorem dX11_forgetDerived_0 : decode cX11_forgetDerived 0 = .ok (.aload_n 0, 1) := by decide +kernel
theorem dX11_forgetDerived_1 : decode cX11_forgetDerived 1 = .ok (.iconst 0, 1) := by decide +kernel
theorem dX11_forgetDerived_2 : decode cX11_forgetDerived 2 = .ok (.putfield 83, 3) := by decide +kernel
theorem dX11_forgetDerived_5 : decode cX11_forgetDerived 5 = .ok (.aload_n 0, 1) := by decide +kernel
theorem dX11_forgetDerived_6 : decode cX11_forgetDerived 6 = .ok (.iconst 0, 1) := by decide +kernel
theorem dX11_forgetDerived_7 : decode cX11_forgetDerived 7 = .ok (.putfield 87, 3) := by decide +kernel
theorem dX11_forgetDerived_10 : decode cX11_forgetDerived 10 = .ok (.aload_n 0, 1) := by decide +kernel
theorem dX11_forgetDerived_11 : decode cX11_forgetDerived 11 = .ok (.iconst 0, 1) := by decide +kernel
theorem dX11_forgetDerived_12 : decode cX11_forgetDerived 12 = .ok (.putfield 90, 3) := by decide +kernel
theorem dX11_forgetDerived_15 : decode cX11_forgetDerived 15 = .ok (.return_, 1) := by decide +kernel
theorem dX11_placeAll_0 : decode cX11_placeAll 0 = .ok (.aload_n 0, 1) := by decide +kernel
theorem dX11_placeAll_1 : decode cX11_placeAll 1 = .ok (.getfield 83, 3) := by decide +kernel
theorem dX11_placeAll_4 : decode cX11_placeAll 4 = .ok (.ifCond .ne 45, 3) := by decide +kernel
theorem dX11_placeAll_7 : decode cX11_placeAll 7 = .ok (.aload_n 0, 1) := by decide +kernel
theorem dX11_placeAll_8 : decode cX11_placeAll 8 = .ok (.getfield 33, 3) := by decide +kernel
theorem dX11_placeAll_11 : decode cX11_placeAll 11 = .ok (.aload_n 0, 1) := by decide +kernel
theorem dX11_placeAll_12 : decode cX11_placeAll 12 = .ok (.getfield 12, 3) := by decide +kernel
theorem dX11_placeAll_15 : decode cX11_placeAll 15 = .ok (.invokevirtual 290, 3) := by decide +kernel
theorem dX11_placeAll_18 : decode cX11_placeAll 18 = .ok (.aload_n 0, 1) := by decide +kernel
theorem dX11_placeAll_19 : decode cX11_placeAll 19 = .ok (.getfield 40, 3) := by decide +kernel
theorem dX11_placeAll_22 : decode cX11_placeAll 22 = .ok (.aload_n 0, 1) := by decide +kernel
theorem dX11_placeAll_23 : decode cX11_placeAll 23 = .ok (.getfield 12, 3) := by decide +kernel
theorem dX11_placeAll_26 : decode cX11_placeAll 26 = .ok (.aload_n 0, 1) := by decide +kernel
theorem dX11_placeAll_27 : decode cX11_placeAll 27 = .ok (.getfield 33, 3) := by decide +kernel
theorem dX11_placeAll_30 : decode cX11_placeAll 30 = .ok (.invokevirtual 293, 3) := by decide +kernel
theorem dX11_placeAll_33 : decode cX11_placeAll 33 = .ok (.aload_n 0, 1) := by decide +kernel
theorem dX11_placeAll_34 : decode cX11_placeAll 34 = .ok (.getfield 47, 3) := by decide +kernel
theorem dX11_placeAll_37 : decode cX11_placeAll 37 = .ok (.aload_n 0, 1) := by decide +kernel
theorem dX11_placeAll_38 : decode cX11_placeAll 38 = .ok (.getfield 12, 3) := by decide +kernel
theorem dX11_placeAll_41 : decode cX11_placeAll 41 = .ok (.invokevirtual 296, 3) := by decide +kernel
theorem dX11_placeAll_44 : decode cX11_placeAll 44 = .ok (.aload_n 0, 1) := by decide +kernel
theorem dX11_placeAll_45 : decode cX11_placeAll 45 = .ok (.iconst 1, 1) := by decide +kernel
theorem dX11_placeAll_46 : decode cX11_placeAll 46 = .ok (.putfield 83, 3) := by decide +kernel
theorem dX11_placeAll_49 : decode cX11_placeAll 49 = .ok (.return_, 1) := by decide +kernel
theorem dX11_searchAll_0 : decode cX11_searchAll 0 = .ok (.aload_n 0, 1) := by decide +kernel
theorem dX11_searchAll_1 : decode cX11_searchAll 1 = .ok (.getfield 87, 3) := by decide +kernel
theorem dX11_searchAll_4 : decode cX11_searchAll 4 = .ok (.ifCond .ne 19, 3) := by decide +kernel
theorem dX11_searchAll_7 : decode cX11_searchAll 7 = .ok (.aload_n 0, 1) := by decide +kernel
theorem dX11_searchAll_8 : decode cX11_searchAll 8 = .ok (.invokevirtual 174, 3) := by decide +kernel
theorem dX11_searchAll_11 : decode cX11_searchAll 11 = .ok (.aload_n 0, 1) := by decide +kernel
theorem dX11_searchAll_12 : decode cX11_searchAll 12 = .ok (.getfield 65, 3) := by decide +kernel
theorem dX11_searchAll_15 : decode cX11_searchAll 15 = .ok (.invokevirtual 297, 3) := by decide +kernel
theorem dX11_searchAll_18 : decode cX11_searchAll 18 = .ok (.aload_n 0, 1) := by decide +kernel
theorem dX11_searchAll_19 : decode cX11_searchAll 19 = .ok (.iconst 1, 1) := by decide +kernel
theorem dX11_searchAll_20 : decode cX11_searchAll 20 = .ok (.putfield 87, 3) := by decide +kernel
theorem dX11_searchAll_23 : decode cX11_searchAll 23 = .ok (.return_, 1) := by decide +kernel
theorem dX11_siftAll_0 : decode cX11_siftAll 0 = .ok (.aload_n 0, 1) := by decide +kernel
theorem dX11_siftAll_1 : decode cX11_siftAll 1 = .ok (.getfield 90, 3) := by decide +kernel
theorem dX11_siftAll_4 : decode cX11_siftAll 4 = .ok (.ifCond .ne 23, 3) := by decide +kernel
theorem dX11_siftAll_7 : decode cX11_siftAll 7 = .ok (.aload_n 0, 1) := by decide +kernel
theorem dX11_siftAll_8 : decode cX11_siftAll 8 = .ok (.invokevirtual 174, 3) := by decide +kernel
theorem dX11_siftAll_11 : decode cX11_siftAll 11 = .ok (.aload_n 0, 1) := by decide +kernel
theorem dX11_siftAll_12 : decode cX11_siftAll 12 = .ok (.getfield 72, 3) := by decide +kernel
theorem dX11_siftAll_15 : decode cX11_siftAll 15 = .ok (.aload_n 0, 1) := by decide +kernel
theorem dX11_siftAll_16 : decode cX11_siftAll 16 = .ok (.getfield 40, 3) := by decide +kernel
theorem dX11_siftAll_19 : decode cX11_siftAll 19 = .ok (.invokevirtual 300, 3) := by decide +kernel
theorem dX11_siftAll_22 : decode cX11_siftAll 22 = .ok (.aload_n 0, 1) := by decide +kernel
theorem dX11_siftAll_23 : decode cX11_siftAll 23 = .ok (.iconst 1, 1) := by decide +kernel
theorem dX11_siftAll_24 : decode cX11_siftAll 24 = .ok (.putfield 90, 3) := by decide +kernel
theorem dX11_siftAll_27 : decode cX11_siftAll 27 = .ok (.return_, 1) := by decide +kernel
theorem dX11_whyNoCover_0 : decode cX11_whyNoCover 0 = .ok (.aload_n 0, 1) := by decide +kernel
theorem dX11_whyNoCover_1 : decode cX11_whyNoCover 1 = .ok (.getfield 65, 3) := by decide +kernel
theorem dX11_whyNoCover_4 : decode cX11_whyNoCover 4 = .ok (.getfield 238, 3) := by decide +kernel
theorem dX11_whyNoCover_7 : decode cX11_whyNoCover 7 = .ok (.ifCond .eq 8, 3) := by decide +kernel
theorem dX11_whyNoCover_10 : decode cX11_whyNoCover 10 = .ok (.bipush (-9), 2) := by decide +kernel
theorem dX11_whyNoCover_12 : decode cX11_whyNoCover 12 = .ok (.goto 5, 3) := by decide +kernel
theorem dX11_whyNoCover_15 : decode cX11_whyNoCover 15 = .ok (.bipush (-4), 2) := by decide +kernel
theorem dX11_whyNoCover_17 : decode cX11_whyNoCover 17 = .ok (.ireturn, 1) := by decide +kernel
theorem dX11_isWithin_0 : decode cX11_isWithin 0 = .ok (.iload_n 0, 1) := by decide +kernel
theorem dX11_isWithin_1 : decode cX11_isWithin 1 = .ok (.iload_n 1, 1) := by decide +kernel
theorem dX11_isWithin_2 : decode cX11_isWithin 2 = .ok (.if_icmp .lt 12, 3) := by decide +kernel
theorem dX11_isWithin_5 : decode cX11_isWithin 5 = .ok (.iload_n 0, 1) := by decide +kernel
theorem dX11_isWithin_6 : decode cX11_isWithin 6 = .ok (.iload_n 2, 1) := by decide +kernel
theorem dX11_isWithin_7 : decode cX11_isWithin 7 = .ok (.if_icmp .gt 7, 3) := by decide +kernel
theorem dX11_isWithin_10 : decode cX11_isWithin 10 = .ok (.iconst 1, 1) := by decide +kernel
theorem dX11_isWithin_11 : decode cX11_isWithin 11 = .ok (.goto 4, 3) := by decide +kernel
theorem dX11_isWithin_14 : decode cX11_isWithin 14 = .ok (.iconst 0, 1) := by decide +kernel
theorem dX11_isWithin_15 : decode cX11_isWithin 15 = .ok (.ireturn, 1) := by decide +kernel
theorem dX11_at_0 : decode cX11_at 0 = .ok (.iload_n 1, 1) := by decide +kernel
theorem dX11_at_1 : decode cX11_at 1 = .ok (.ifCond .lt 15, 3) := by decide +kernel
theorem dX11_at_4 : decode cX11_at 4 = .ok (.iload_n 1, 1) := by decide +kernel
theorem dX11_at_5 : decode cX11_at 5 = .ok (.aload_n 0, 1) := by decide +kernel
theorem dX11_at_6 : decode cX11_at 6 = .ok (.arraylength, 1) := by decide +kernel
theorem dX11_at_7 : decode cX11_at 7 = .ok (.if_icmp .ge 9, 3) := by decide +kernel
theorem dX11_at_10 : decode cX11_at 10 = .ok (.aload_n 0, 1) := by decide +kernel
theorem dX11_at_11 : decode cX11_at 11 = .ok (.iload_n 1, 1) := by decide +kernel
theorem dX11_at_12 : decode cX11_at 12 = .ok (.iaload, 1) := by decide +kernel
theorem dX11_at_13 : decode cX11_at 13 = .ok (.goto 4, 3) := by decide +kernel
theorem dX11_at_16 : decode cX11_at 16 = .ok (.iconst 0, 1) := by decide +kernel
theorem dX11_at_17 : decode cX11_at 17 = .ok (.ireturn, 1) := by decide +kernel
theorem dX11_put_0 : decode cX11_put 0 = .ok (.iload_n 1, 1) := by decide +kernel
theorem dX11_put_1 : decode cX11_put 1 = .ok (.ifCond .lt 13, 3) := by decide +kernel
theorem dX11_put_4 : decode cX11_put 4 = .ok (.iload_n 1, 1) := by decide +kernel
theorem dX11_put_5 : decode cX11_put 5 = .ok (.aload_n 0, 1) := by decide +kernel
theorem dX11_put_6 : decode cX11_put 6 = .ok (.arraylength, 1) := by decide +kernel
theorem dX11_put_7 : decode cX11_put 7 = .ok (.if_icmp .ge 7, 3) := by decide +kernel
theorem dX11_put_10 : decode cX11_put 10 = .ok (.aload_n 0, 1) := by decide +kernel
theorem dX11_put_11 : decode cX11_put 11 = .ok (.iload_n 1, 1) := by decide +kernel
theorem dX11_put_12 : decode cX11_put 12 = .ok (.iload_n 2, 1) := by decide +kernel
theorem dX11_put_13 : decode cX11_put 13 = .ok (.iastore, 1) := by decide +kernel
theorem dX11_put_14 : decode cX11_put 14 = .ok (.return_, 1) := by decide +kernel
theorem dX11_smallestCell_0 : decode cX11_smallestCell 0 = .ok (.lload_n 0, 1) := by decide +kernel
theorem dX11_smallestCell_1 : decode cX11_smallestCell 1 = .ok (.lload_n 0, 1) := by decide +kernel
theorem dX11_smallestCell_2 : decode cX11_smallestCell 2 = .ok (.lneg, 1) := by decide +kernel
theorem dX11_smallestCell_3 : decode cX11_smallestCell 3 = .ok (.land, 1) := by decide +kernel
theorem dX11_smallestCell_4 : decode cX11_smallestCell 4 = .ok (.lconst 1, 1) := by decide +kernel
theorem dX11_smallestCell_5 : decode cX11_smallestCell 5 = .ok (.lsub, 1) := by decide +kernel
theorem dX11_smallestCell_6 : decode cX11_smallestCell 6 = .ok (.invokestatic 304, 3) := by decide +kernel
theorem dX11_smallestCell_9 : decode cX11_smallestCell 9 = .ok (.ireturn, 1) := by decide +kernel
theorem dX11_greatestCell_0 : decode cX11_greatestCell 0 = .ok (.bipush 35, 2) := by decide +kernel
theorem dX11_greatestCell_2 : decode cX11_greatestCell 2 = .ok (.istore_n 2, 1) := by decide +kernel
theorem dX11_greatestCell_3 : decode cX11_greatestCell 3 = .ok (.iload_n 2, 1) := by decide +kernel
theorem dX11_greatestCell_4 : decode cX11_greatestCell 4 = .ok (.ifCond .le 17, 3) := by decide +kernel
theorem dX11_greatestCell_7 : decode cX11_greatestCell 7 = .ok (.lload_n 0, 1) := by decide +kernel
theorem dX11_greatestCell_8 : decode cX11_greatestCell 8 = .ok (.iload_n 2, 1) := by decide +kernel
theorem dX11_greatestCell_9 : decode cX11_greatestCell 9 = .ok (.invokestatic 308, 3) := by decide +kernel
theorem dX11_greatestCell_12 : decode cX11_greatestCell 12 = .ok (.ifCond .ne 9, 3) := by decide +kernel
theorem dX11_greatestCell_15 : decode cX11_greatestCell 15 = .ok (.iinc 2 (-1), 3) := by decide +kernel
theorem dX11_greatestCell_18 : decode cX11_greatestCell 18 = .ok (.goto (-15), 3) := by decide +kernel
theorem dX11_greatestCell_21 : decode cX11_greatestCell 21 = .ok (.iload_n 2, 1) := by decide +kernel
theorem dX11_greatestCell_22 : decode cX11_greatestCell 22 = .ok (.ireturn, 1) := by decide +kernel
theorem dX11_holds_0 : decode cX11_holds 0 = .ok (.lload_n 0, 1) := by decide +kernel
theorem dX11_holds_1 : decode cX11_holds 1 = .ok (.iload_n 2, 1) := by decide +kernel
theorem dX11_holds_2 : decode cX11_holds 2 = .ok (.lushr, 1) := by decide +kernel
theorem dX11_holds_3 : decode cX11_holds 3 = .ok (.lconst 1, 1) := by decide +kernel
theorem dX11_holds_4 : decode cX11_holds 4 = .ok (.land, 1) := by decide +kernel
theorem dX11_holds_5 : decode cX11_holds 5 = .ok (.lconst 0, 1) := by decide +kernel
theorem dX11_holds_6 : decode cX11_holds 6 = .ok (.lcmp, 1) := by decide +kernel
theorem dX11_holds_7 : decode cX11_holds 7 = .ok (.ifCond .eq 7, 3) := by decide +kernel
theorem dX11_holds_10 : decode cX11_holds 10 = .ok (.iconst 1, 1) := by decide +kernel
theorem dX11_holds_11 : decode cX11_holds 11 = .ok (.goto 4, 3) := by decide +kernel
theorem dX11_holds_14 : decode cX11_holds 14 = .ok (.iconst 0, 1) := by decide +kernel
theorem dX11_holds_15 : decode cX11_holds 15 = .ok (.ireturn, 1) := by decide +kernel
theorem dX12_init_0 : decode cX12_init 0 = .ok (.aload_n 0, 1) := by decide +kernel
theorem dX12_init_1 : decode cX12_init 1 = .ok (.invokespecial 1, 3) := by decide +kernel
theorem dX12_init_4 : decode cX12_init 4 = .ok (.aload_n 0, 1) := by decide +kernel
theorem dX12_init_5 : decode cX12_init 5 = .ok (.bipush 73, 2) := by decide +kernel
theorem dX12_init_7 : decode cX12_init 7 = .ok (.newarray .int, 2) := by decide +kernel
theorem dX12_init_9 : decode cX12_init 9 = .ok (.putfield 7, 3) := by decide +kernel
theorem dX12_init_12 : decode cX12_init 12 = .ok (.aload_n 0, 1) := by decide +kernel
theorem dX12_init_13 : decode cX12_init 13 = .ok (.sipush 438, 3) := by decide +kernel
theorem dX12_init_16 : decode cX12_init 16 = .ok (.newarray .int, 2) := by decide +kernel
theorem dX12_init_18 : decode cX12_init 18 = .ok (.putfield 13, 3) := by decide +kernel
theorem dX12_init_21 : decode cX12_init 21 = .ok (.aload_n 0, 1) := by decide +kernel
theorem dX12_init_22 : decode cX12_init 22 = .ok (.sipush 160, 3) := by decide +kernel
theorem dX12_init_25 : decode cX12_init 25 = .ok (.newarray .byte, 2) := by decide +kernel
theorem dX12_init_27 : decode cX12_init 27 = .ok (.putfield 16, 3) := by decide +kernel
theorem dX12_init_30 : decode cX12_init 30 = .ok (.aload_n 0, 1) := by decide +kernel
theorem dX12_init_31 : decode cX12_init 31 = .ok (.bipush 9, 2) := by decide +kernel
theorem dX12_init_33 : decode cX12_init 33 = .ok (.newarray .int, 2) := by decide +kernel
theorem dX12_init_35 : decode cX12_init 35 = .ok (.putfield 20, 3) := by decide +kernel
theorem dX12_init_38 : decode cX12_init 38 = .ok (.aload_n 0, 1) := by decide +kernel
theorem dX12_init_39 : decode cX12_init 39 = .ok (.sipush 2304, 3) := by decide +kernel
theorem dX12_init_42 : decode cX12_init 42 = .ok (.newarray .int, 2) := by decide +kernel
theorem dX12_init_44 : decode cX12_init 44 = .ok (.putfield 23, 3) := by decide +kernel
theorem dX12_init_47 : decode cX12_init 47 = .ok (.aload_n 0, 1) := by decide +kernel
theorem dX12_init_48 : decode cX12_init 48 = .ok (.sipush 2304, 3) := by decide +kernel
theorem dX12_init_51 : decode cX12_init 51 = .ok (.newarray .int, 2) := by decide +kernel
theorem dX12_init_53 : decode cX12_init 53 = .ok (.putfield 26, 3) := by decide +kernel
theorem dX12_init_56 : decode cX12_init 56 = .ok (.aload_n 0, 1) := by decide +kernel
theorem dX12_init_57 : decode cX12_init 57 = .ok (.sipush 2304, 3) := by decide +kernel
theorem dX12_init_60 : decode cX12_init 60 = .ok (.newarray .int, 2) := by decide +kernel
theorem dX12_init_62 : decode cX12_init 62 = .ok (.putfield 29, 3) := by decide +kernel
theorem dX12_init_65 : decode cX12_init 65 = .ok (.aload_n 0, 1) := by decide +kernel
theorem dX12_init_66 : decode cX12_init 66 = .ok (.sipush 2304, 3) := by decide +kernel
theorem dX12_init_69 : decode cX12_init 69 = .ok (.newarray .long, 2) := by decide +kernel
theorem dX12_init_71 : decode cX12_init 71 = .ok (.putfield 32, 3) := by decide +kernel
theorem dX12_init_74 : decode cX12_init 74 = .ok (.aload_n 0, 1) := by decide +kernel
theorem dX12_init_75 : decode cX12_init 75 = .ok (.sipush 2304, 3) := by decide +kernel
theorem dX12_init_78 : decode cX12_init 78 = .ok (.newarray .int, 2) := by decide +kernel
theorem dX12_init_80 : decode cX12_init 80 = .ok (.putfield 36, 3) := by decide +kernel
theorem dX12_init_83 : decode cX12_init 83 = .ok (.aload_n 0, 1) := by decide +kernel
theorem dX12_init_84 : decode cX12_init 84 = .ok (.bipush 73, 2) := by decide +kernel
theorem dX12_init_86 : decode cX12_init 86 = .ok (.newarray .int, 2) := by decide +kernel
theorem dX12_init_88 : decode cX12_init 88 = .ok (.putfield 39, 3) := by decide +kernel
theorem dX12_init_91 : decode cX12_init 91 = .ok (.aload_n 0, 1) := by decide +kernel
theorem dX12_init_92 : decode cX12_init 92 = .ok (.bipush 36, 2) := by decide +kernel
theorem dX12_init_94 : decode cX12_init 94 = .ok (.newarray .int, 2) := by decide +kernel
theorem dX12_init_96 : decode cX12_init 96 = .ok (.putfield 42, 3) := by decide +kernel
theorem dX12_init_99 : decode cX12_init 99 = .ok (.aload_n 0, 1) := by decide +kernel
theorem dX12_init_100 : decode cX12_init 100 = .ok (.bipush 37, 2) := by decide +kernel
theorem dX12_init_102 : decode cX12_init 102 = .ok (.newarray .int, 2) := by decide +kernel
theorem dX12_init_104 : decode cX12_init 104 = .ok (.putfield 45, 3) := by decide +kernel
theorem dX12_init_107 : decode cX12_init 107 = .ok (.aload_n 0, 1) := by decide +kernel
theorem dX12_init_108 : decode cX12_init 108 = .ok (.bipush 37, 2) := by decide +kernel
theorem dX12_init_110 : decode cX12_init 110 = .ok (.newarray .int, 2) := by decide +kernel
theorem dX12_init_112 : decode cX12_init 112 = .ok (.putfield 48, 3) := by decide +kernel
theorem dX12_init_115 : decode cX12_init 115 = .ok (.aload_n 0, 1) := by decide +kernel
theorem dX12_init_116 : decode cX12_init 116 = .ok (.iconst 4, 1) := by decide +kernel
theorem dX12_init_117 : decode cX12_init 117 = .ok (.newarray .long, 2) := by decide +kernel
theorem dX12_init_119 : decode cX12_init 119 = .ok (.putfield 51, 3) := by decide +kernel
theorem dX12_init_122 : decode cX12_init 122 = .ok (.aload_n 0, 1) := by decide +kernel
theorem dX12_init_123 : decode cX12_init 123 = .ok (.bipush 8, 2) := by decide +kernel
theorem dX12_init_125 : decode cX12_init 125 = .ok (.newarray .int, 2) := by decide +kernel
theorem dX12_init_127 : decode cX12_init 127 = .ok (.putfield 54, 3) := by decide +kernel
theorem dX12_init_130 : decode cX12_init 130 = .ok (.aload_n 0, 1) := by decide +kernel
theorem dX12_init_131 : decode cX12_init 131 = .ok (.sipush 32400, 3) := by decide +kernel
theorem dX12_init_134 : decode cX12_init 134 = .ok (.newarray .int, 2) := by decide +kernel
theorem dX12_init_136 : decode cX12_init 136 = .ok (.putfield 57, 3) := by decide +kernel
theorem dX12_init_139 : decode cX12_init 139 = .ok (.aload_n 0, 1) := by decide +kernel
theorem dX12_init_140 : decode cX12_init 140 = .ok (.sipush 2304, 3) := by decide +kernel
theorem dX12_init_143 : decode cX12_init 143 = .ok (.newarray .boolean, 2) := by decide +kernel
theorem dX12_init_145 : decode cX12_init 145 = .ok (.putfield 60, 3) := by decide +kernel
theorem dX12_init_148 : decode cX12_init 148 = .ok (.aload_n 0, 1) := by decide +kernel
theorem dX12_init_149 : decode cX12_init 149 = .ok (.getfield 7, 3) := by decide +kernel
theorem dX12_init_152 : decode cX12_init 152 = .ok (.iconst 0, 1) := by decide +kernel
theorem dX12_init_153 : decode cX12_init 153 = .ok (.iconst 4, 1) := by decide +kernel
theorem dX12_init_154 : decode cX12_init 154 = .ok (.iastore, 1) := by decide +kernel
theorem dX12_init_155 : decode cX12_init 155 = .ok (.aload_n 0, 1) := by decide +kernel
theorem dX12_init_156 : decode cX12_init 156 = .ok (.getfield 7, 3) := by decide +kernel
theorem dX12_init_159 : decode cX12_init 159 = .ok (.iconst 1, 1) := by decide +kernel
theorem dX12_init_160 : decode cX12_init 160 = .ok (.iconst 4, 1) := by decide +kernel
theorem dX12_init_161 : decode cX12_init 161 = .ok (.iastore, 1) := by decide +kernel
theorem dX12_init_162 : decode cX12_init 162 = .ok (.return_, 1) := by decide +kernel
