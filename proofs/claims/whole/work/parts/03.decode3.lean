theorem dX12_in_0 : decode cX12_in 0 = .ok (.iload_n 0, 1) := by decide +kernel
theorem dX12_in_1 : decode cX12_in 1 = .ok (.iload_n 1, 1) := by decide +kernel
theorem dX12_in_2 : decode cX12_in 2 = .ok (.if_icmp .lt 12, 3) := by decide +kernel
theorem dX12_in_5 : decode cX12_in 5 = .ok (.iload_n 0, 1) := by decide +kernel
theorem dX12_in_6 : decode cX12_in 6 = .ok (.iload_n 2, 1) := by decide +kernel
theorem dX12_in_7 : decode cX12_in 7 = .ok (.if_icmp .gt 7, 3) := by decide +kernel
theorem dX12_in_10 : decode cX12_in 10 = .ok (.iconst 1, 1) := by decide +kernel
theorem dX12_in_11 : decode cX12_in 11 = .ok (.goto 4, 3) := by decide +kernel
theorem dX12_in_14 : decode cX12_in 14 = .ok (.iconst 0, 1) := by decide +kernel
theorem dX12_in_15 : decode cX12_in 15 = .ok (.ireturn, 1) := by decide +kernel
theorem dX12_note_0 : decode cX12_note 0 = .ok (.aload_n 0, 1) := by decide +kernel
theorem dX12_note_1 : decode cX12_note 1 = .ok (.getfield 64, 3) := by decide +kernel
theorem dX12_note_4 : decode cX12_note 4 = .ok (.bipush 6, 2) := by decide +kernel
theorem dX12_note_6 : decode cX12_note 6 = .ok (.if_icmp .ne 43, 3) := by decide +kernel
theorem dX12_note_9 : decode cX12_note 9 = .ok (.iconst 0, 1) := by decide +kernel
theorem dX12_note_10 : decode cX12_note 10 = .ok (.istore_n 1, 1) := by decide +kernel
theorem dX12_note_11 : decode cX12_note 11 = .ok (.iload_n 1, 1) := by decide +kernel
theorem dX12_note_12 : decode cX12_note 12 = .ok (.sipush 365, 3) := by decide +kernel
theorem dX12_note_15 : decode cX12_note 15 = .ok (.if_icmp .ge 24, 3) := by decide +kernel
theorem dX12_note_18 : decode cX12_note 18 = .ok (.aload_n 0, 1) := by decide +kernel
theorem dX12_note_19 : decode cX12_note 19 = .ok (.getfield 13, 3) := by decide +kernel
theorem dX12_note_22 : decode cX12_note 22 = .ok (.iload_n 1, 1) := by decide +kernel
theorem dX12_note_23 : decode cX12_note 23 = .ok (.aload_n 0, 1) := by decide +kernel
theorem dX12_note_24 : decode cX12_note 24 = .ok (.getfield 13, 3) := by decide +kernel
theorem dX12_note_27 : decode cX12_note 27 = .ok (.iload_n 1, 1) := by decide +kernel
theorem dX12_note_28 : decode cX12_note 28 = .ok (.bipush 73, 2) := by decide +kernel
theorem dX12_note_30 : decode cX12_note 30 = .ok (.iadd, 1) := by decide +kernel
theorem dX12_note_31 : decode cX12_note 31 = .ok (.iaload, 1) := by decide +kernel
theorem dX12_note_32 : decode cX12_note 32 = .ok (.iastore, 1) := by decide +kernel
theorem dX12_note_33 : decode cX12_note 33 = .ok (.iinc 1 1, 3) := by decide +kernel
theorem dX12_note_36 : decode cX12_note 36 = .ok (.goto (-25), 3) := by decide +kernel
theorem dX12_note_39 : decode cX12_note 39 = .ok (.aload_n 0, 1) := by decide +kernel
theorem dX12_note_40 : decode cX12_note 40 = .ok (.dup, 1) := by decide +kernel
theorem dX12_note_41 : decode cX12_note 41 = .ok (.getfield 64, 3) := by decide +kernel
theorem dX12_note_44 : decode cX12_note 44 = .ok (.iconst 1, 1) := by decide +kernel
theorem dX12_note_45 : decode cX12_note 45 = .ok (.isub, 1) := by decide +kernel
theorem dX12_note_46 : decode cX12_note 46 = .ok (.putfield 64, 3) := by decide +kernel
theorem dX12_note_49 : decode cX12_note 49 = .ok (.iconst 0, 1) := by decide +kernel
theorem dX12_note_50 : decode cX12_note 50 = .ok (.istore_n 1, 1) := by decide +kernel
theorem dX12_note_51 : decode cX12_note 51 = .ok (.iload_n 1, 1) := by decide +kernel
theorem dX12_note_52 : decode cX12_note 52 = .ok (.bipush 73, 2) := by decide +kernel
theorem dX12_note_54 : decode cX12_note 54 = .ok (.if_icmp .ge 29, 3) := by decide +kernel
theorem dX12_note_57 : decode cX12_note 57 = .ok (.aload_n 0, 1) := by decide +kernel
theorem dX12_note_58 : decode cX12_note 58 = .ok (.getfield 13, 3) := by decide +kernel
theorem dX12_note_61 : decode cX12_note 61 = .ok (.bipush 73, 2) := by decide +kernel
theorem dX12_note_63 : decode cX12_note 63 = .ok (.aload_n 0, 1) := by decide +kernel
theorem dX12_note_64 : decode cX12_note 64 = .ok (.getfield 64, 3) := by decide +kernel
theorem dX12_note_67 : decode cX12_note 67 = .ok (.imul, 1) := by decide +kernel
theorem dX12_note_68 : decode cX12_note 68 = .ok (.iload_n 1, 1) := by decide +kernel
theorem dX12_note_69 : decode cX12_note 69 = .ok (.iadd, 1) := by decide +kernel
theorem dX12_note_70 : decode cX12_note 70 = .ok (.aload_n 0, 1) := by decide +kernel
theorem dX12_note_71 : decode cX12_note 71 = .ok (.getfield 7, 3) := by decide +kernel
theorem dX12_note_74 : decode cX12_note 74 = .ok (.iload_n 1, 1) := by decide +kernel
theorem dX12_note_75 : decode cX12_note 75 = .ok (.iaload, 1) := by decide +kernel
theorem dX12_note_76 : decode cX12_note 76 = .ok (.iastore, 1) := by decide +kernel
theorem dX12_note_77 : decode cX12_note 77 = .ok (.iinc 1 1, 3) := by decide +kernel
theorem dX12_note_80 : decode cX12_note 80 = .ok (.goto (-29), 3) := by decide +kernel
theorem dX12_note_83 : decode cX12_note 83 = .ok (.aload_n 0, 1) := by decide +kernel
theorem dX12_note_84 : decode cX12_note 84 = .ok (.dup, 1) := by decide +kernel
theorem dX12_note_85 : decode cX12_note 85 = .ok (.getfield 64, 3) := by decide +kernel
theorem dX12_note_88 : decode cX12_note 88 = .ok (.iconst 1, 1) := by decide +kernel
theorem dX12_note_89 : decode cX12_note 89 = .ok (.iadd, 1) := by decide +kernel
theorem dX12_note_90 : decode cX12_note 90 = .ok (.putfield 64, 3) := by decide +kernel
theorem dX12_note_93 : decode cX12_note 93 = .ok (.return_, 1) := by decide +kernel
theorem dX12_undo_0 : decode cX12_undo 0 = .ok (.aload_n 0, 1) := by decide +kernel
theorem dX12_undo_1 : decode cX12_undo 1 = .ok (.getfield 64, 3) := by decide +kernel
theorem dX12_undo_4 : decode cX12_undo 4 = .ok (.ifCond .ne 6, 3) := by decide +kernel
theorem dX12_undo_7 : decode cX12_undo 7 = .ok (.bipush (-2), 2) := by decide +kernel
theorem dX12_undo_9 : decode cX12_undo 9 = .ok (.ireturn, 1) := by decide +kernel
theorem dX12_undo_10 : decode cX12_undo 10 = .ok (.aload_n 0, 1) := by decide +kernel
theorem dX12_undo_11 : decode cX12_undo 11 = .ok (.dup, 1) := by decide +kernel
theorem dX12_undo_12 : decode cX12_undo 12 = .ok (.getfield 64, 3) := by decide +kernel
theorem dX12_undo_15 : decode cX12_undo 15 = .ok (.iconst 1, 1) := by decide +kernel
theorem dX12_undo_16 : decode cX12_undo 16 = .ok (.isub, 1) := by decide +kernel
theorem dX12_undo_17 : decode cX12_undo 17 = .ok (.putfield 64, 3) := by decide +kernel
theorem dX12_undo_20 : decode cX12_undo 20 = .ok (.iconst 0, 1) := by decide +kernel
theorem dX12_undo_21 : decode cX12_undo 21 = .ok (.istore_n 1, 1) := by decide +kernel
theorem dX12_undo_22 : decode cX12_undo 22 = .ok (.iload_n 1, 1) := by decide +kernel
theorem dX12_undo_23 : decode cX12_undo 23 = .ok (.bipush 73, 2) := by decide +kernel
theorem dX12_undo_25 : decode cX12_undo 25 = .ok (.if_icmp .ge 29, 3) := by decide +kernel
theorem dX12_undo_28 : decode cX12_undo 28 = .ok (.aload_n 0, 1) := by decide +kernel
theorem dX12_undo_29 : decode cX12_undo 29 = .ok (.getfield 7, 3) := by decide +kernel
theorem dX12_undo_32 : decode cX12_undo 32 = .ok (.iload_n 1, 1) := by decide +kernel
theorem dX12_undo_33 : decode cX12_undo 33 = .ok (.aload_n 0, 1) := by decide +kernel
theorem dX12_undo_34 : decode cX12_undo 34 = .ok (.getfield 13, 3) := by decide +kernel
theorem dX12_undo_37 : decode cX12_undo 37 = .ok (.bipush 73, 2) := by decide +kernel
theorem dX12_undo_39 : decode cX12_undo 39 = .ok (.aload_n 0, 1) := by decide +kernel
theorem dX12_undo_40 : decode cX12_undo 40 = .ok (.getfield 64, 3) := by decide +kernel
theorem dX12_undo_43 : decode cX12_undo 43 = .ok (.imul, 1) := by decide +kernel
theorem dX12_undo_44 : decode cX12_undo 44 = .ok (.iload_n 1, 1) := by decide +kernel
theorem dX12_undo_45 : decode cX12_undo 45 = .ok (.iadd, 1) := by decide +kernel
theorem dX12_undo_46 : decode cX12_undo 46 = .ok (.iaload, 1) := by decide +kernel
theorem dX12_undo_47 : decode cX12_undo 47 = .ok (.iastore, 1) := by decide +kernel
theorem dX12_undo_48 : decode cX12_undo 48 = .ok (.iinc 1 1, 3) := by decide +kernel
theorem dX12_undo_51 : decode cX12_undo 51 = .ok (.goto (-29), 3) := by decide +kernel
theorem dX12_undo_54 : decode cX12_undo 54 = .ok (.aload_n 0, 1) := by decide +kernel
theorem dX12_undo_55 : decode cX12_undo 55 = .ok (.getfield 64, 3) := by decide +kernel
theorem dX12_undo_58 : decode cX12_undo 58 = .ok (.ireturn, 1) := by decide +kernel
theorem dX12_cells_0 : decode cX12_cells 0 = .ok (.aload_n 0, 1) := by decide +kernel
theorem dX12_cells_1 : decode cX12_cells 1 = .ok (.getfield 7, 3) := by decide +kernel
theorem dX12_cells_4 : decode cX12_cells 4 = .ok (.iconst 0, 1) := by decide +kernel
theorem dX12_cells_5 : decode cX12_cells 5 = .ok (.iaload, 1) := by decide +kernel
theorem dX12_cells_6 : decode cX12_cells 6 = .ok (.aload_n 0, 1) := by decide +kernel
theorem dX12_cells_7 : decode cX12_cells 7 = .ok (.getfield 7, 3) := by decide +kernel
theorem dX12_cells_10 : decode cX12_cells 10 = .ok (.iconst 1, 1) := by decide +kernel
theorem dX12_cells_11 : decode cX12_cells 11 = .ok (.iaload, 1) := by decide +kernel
theorem dX12_cells_12 : decode cX12_cells 12 = .ok (.imul, 1) := by decide +kernel
theorem dX12_cells_13 : decode cX12_cells 13 = .ok (.ireturn, 1) := by decide +kernel
theorem dX12_isCell_0 : decode cX12_isCell 0 = .ok (.iload_n 1, 1) := by decide +kernel
theorem dX12_isCell_1 : decode cX12_isCell 1 = .ok (.iconst 0, 1) := by decide +kernel
theorem dX12_isCell_2 : decode cX12_isCell 2 = .ok (.aload_n 0, 1) := by decide +kernel
theorem dX12_isCell_3 : decode cX12_isCell 3 = .ok (.invokevirtual 68, 3) := by decide +kernel
theorem dX12_isCell_6 : decode cX12_isCell 6 = .ok (.iconst 1, 1) := by decide +kernel
theorem dX12_isCell_7 : decode cX12_isCell 7 = .ok (.isub, 1) := by decide +kernel
theorem dX12_isCell_8 : decode cX12_isCell 8 = .ok (.invokestatic 72, 3) := by decide +kernel
theorem dX12_isCell_11 : decode cX12_isCell 11 = .ok (.ireturn, 1) := by decide +kernel
theorem dX12_isOpen_0 : decode cX12_isOpen 0 = .ok (.aload_n 0, 1) := by decide +kernel
theorem dX12_isOpen_1 : decode cX12_isOpen 1 = .ok (.getfield 7, 3) := by decide +kernel
theorem dX12_isOpen_4 : decode cX12_isOpen 4 = .ok (.iconst 5, 1) := by decide +kernel
theorem dX12_isOpen_5 : decode cX12_isOpen 5 = .ok (.iload_n 1, 1) := by decide +kernel
theorem dX12_isOpen_6 : decode cX12_isOpen 6 = .ok (.iadd, 1) := by decide +kernel
theorem dX12_isOpen_7 : decode cX12_isOpen 7 = .ok (.iaload, 1) := by decide +kernel
theorem dX12_isOpen_8 : decode cX12_isOpen 8 = .ok (.iconst (-1), 1) := by decide +kernel
theorem dX12_isOpen_9 : decode cX12_isOpen 9 = .ok (.if_icmp .eq 7, 3) := by decide +kernel
theorem dX12_isOpen_12 : decode cX12_isOpen 12 = .ok (.iconst 1, 1) := by decide +kernel
theorem dX12_isOpen_13 : decode cX12_isOpen 13 = .ok (.goto 4, 3) := by decide +kernel
theorem dX12_isOpen_16 : decode cX12_isOpen 16 = .ok (.iconst 0, 1) := by decide +kernel
theorem dX12_isOpen_17 : decode cX12_isOpen 17 = .ok (.ireturn, 1) := by decide +kernel
theorem dX12_isPiece_0 : decode cX12_isPiece 0 = .ok (.iload_n 1, 1) := by decide +kernel
theorem dX12_isPiece_1 : decode cX12_isPiece 1 = .ok (.iconst 0, 1) := by decide +kernel
theorem dX12_isPiece_2 : decode cX12_isPiece 2 = .ok (.aload_n 0, 1) := by decide +kernel
theorem dX12_isPiece_3 : decode cX12_isPiece 3 = .ok (.getfield 7, 3) := by decide +kernel
theorem dX12_isPiece_6 : decode cX12_isPiece 6 = .ok (.iconst 4, 1) := by decide +kernel
theorem dX12_isPiece_7 : decode cX12_isPiece 7 = .ok (.iaload, 1) := by decide +kernel
theorem dX12_isPiece_8 : decode cX12_isPiece 8 = .ok (.iconst 1, 1) := by decide +kernel
theorem dX12_isPiece_9 : decode cX12_isPiece 9 = .ok (.isub, 1) := by decide +kernel
theorem dX12_isPiece_10 : decode cX12_isPiece 10 = .ok (.invokestatic 72, 3) := by decide +kernel
theorem dX12_isPiece_13 : decode cX12_isPiece 13 = .ok (.ireturn, 1) := by decide +kernel
theorem dX12_its_0 : decode cX12_its 0 = .ok (.aload_n 0, 1) := by decide +kernel
theorem dX12_its_1 : decode cX12_its 1 = .ok (.getfield 7, 3) := by decide +kernel
theorem dX12_its_4 : decode cX12_its 4 = .ok (.bipush 41, 2) := by decide +kernel
theorem dX12_its_6 : decode cX12_its 6 = .ok (.iconst 4, 1) := by decide +kernel
theorem dX12_its_7 : decode cX12_its 7 = .ok (.iload_n 1, 1) := by decide +kernel
theorem dX12_its_8 : decode cX12_its 8 = .ok (.imul, 1) := by decide +kernel
theorem dX12_its_9 : decode cX12_its 9 = .ok (.iadd, 1) := by decide +kernel
theorem dX12_its_10 : decode cX12_its 10 = .ok (.iload_n 2, 1) := by decide +kernel
theorem dX12_its_11 : decode cX12_its 11 = .ok (.iadd, 1) := by decide +kernel
theorem dX12_its_12 : decode cX12_its 12 = .ok (.iaload, 1) := by decide +kernel
theorem dX12_its_13 : decode cX12_its 13 = .ok (.ireturn, 1) := by decide +kernel
theorem dX12_opens_0 : decode cX12_opens 0 = .ok (.iconst 0, 1) := by decide +kernel
theorem dX12_opens_1 : decode cX12_opens 1 = .ok (.istore_n 1, 1) := by decide +kernel
theorem dX12_opens_2 : decode cX12_opens 2 = .ok (.iconst 0, 1) := by decide +kernel
theorem dX12_opens_3 : decode cX12_opens 3 = .ok (.istore_n 2, 1) := by decide +kernel
theorem dX12_opens_4 : decode cX12_opens 4 = .ok (.iload_n 2, 1) := by decide +kernel
theorem dX12_opens_5 : decode cX12_opens 5 = .ok (.aload_n 0, 1) := by decide +kernel
theorem dX12_opens_6 : decode cX12_opens 6 = .ok (.invokevirtual 68, 3) := by decide +kernel
theorem dX12_opens_9 : decode cX12_opens 9 = .ok (.if_icmp .ge 25, 3) := by decide +kernel
theorem dX12_opens_12 : decode cX12_opens 12 = .ok (.iload_n 1, 1) := by decide +kernel
theorem dX12_opens_13 : decode cX12_opens 13 = .ok (.aload_n 0, 1) := by decide +kernel
theorem dX12_opens_14 : decode cX12_opens 14 = .ok (.iload_n 2, 1) := by decide +kernel
theorem dX12_opens_15 : decode cX12_opens 15 = .ok (.invokevirtual 76, 3) := by decide +kernel
theorem dX12_opens_18 : decode cX12_opens 18 = .ok (.ifCond .eq 7, 3) := by decide +kernel
theorem dX12_opens_21 : decode cX12_opens 21 = .ok (.iconst 1, 1) := by decide +kernel
theorem dX12_opens_22 : decode cX12_opens 22 = .ok (.goto 4, 3) := by decide +kernel
theorem dX12_opens_25 : decode cX12_opens 25 = .ok (.iconst 0, 1) := by decide +kernel
theorem dX12_opens_26 : decode cX12_opens 26 = .ok (.iadd, 1) := by decide +kernel
theorem dX12_opens_27 : decode cX12_opens 27 = .ok (.istore_n 1, 1) := by decide +kernel
theorem dX12_opens_28 : decode cX12_opens 28 = .ok (.iinc 2 1, 3) := by decide +kernel
theorem dX12_opens_31 : decode cX12_opens 31 = .ok (.goto (-27), 3) := by decide +kernel
theorem dX12_opens_34 : decode cX12_opens 34 = .ok (.iload_n 1, 1) := by decide +kernel
theorem dX12_opens_35 : decode cX12_opens 35 = .ok (.ireturn, 1) := by decide +kernel
theorem dX12_squares_0 : decode cX12_squares 0 = .ok (.iconst 0, 1) := by decide +kernel
theorem dX12_squares_1 : decode cX12_squares 1 = .ok (.istore_n 1, 1) := by decide +kernel
theorem dX12_squares_2 : decode cX12_squares 2 = .ok (.iconst 0, 1) := by decide +kernel
theorem dX12_squares_3 : decode cX12_squares 3 = .ok (.istore_n 2, 1) := by decide +kernel
theorem dX12_squares_4 : decode cX12_squares 4 = .ok (.iload_n 2, 1) := by decide +kernel
theorem dX12_squares_5 : decode cX12_squares 5 = .ok (.bipush 16, 2) := by decide +kernel
theorem dX12_squares_7 : decode cX12_squares 7 = .ok (.if_icmp .ge 17, 3) := by decide +kernel
theorem dX12_squares_10 : decode cX12_squares 10 = .ok (.iload_n 1, 1) := by decide +kernel
theorem dX12_squares_11 : decode cX12_squares 11 = .ok (.iload_n 0, 1) := by decide +kernel
theorem dX12_squares_12 : decode cX12_squares 12 = .ok (.iload_n 2, 1) := by decide +kernel
theorem dX12_squares_13 : decode cX12_squares 13 = .ok (.ishr, 1) := by decide +kernel
theorem dX12_squares_14 : decode cX12_squares 14 = .ok (.iconst 1, 1) := by decide +kernel
theorem dX12_squares_15 : decode cX12_squares 15 = .ok (.iand, 1) := by decide +kernel
theorem dX12_squares_16 : decode cX12_squares 16 = .ok (.iadd, 1) := by decide +kernel
theorem dX12_squares_17 : decode cX12_squares 17 = .ok (.istore_n 1, 1) := by decide +kernel
theorem dX12_squares_18 : decode cX12_squares 18 = .ok (.iinc 2 1, 3) := by decide +kernel
theorem dX12_squares_21 : decode cX12_squares 21 = .ok (.goto (-17), 3) := by decide +kernel
theorem dX12_squares_24 : decode cX12_squares 24 = .ok (.iload_n 1, 1) := by decide +kernel
theorem dX12_squares_25 : decode cX12_squares 25 = .ok (.ireturn, 1) := by decide +kernel
theorem dX12_normal_0 : decode cX12_normal 0 = .ok (.iload_n 0, 1) := by decide +kernel
theorem dX12_normal_1 : decode cX12_normal 1 = .ok (.istore_n 1, 1) := by decide +kernel
theorem dX12_normal_2 : decode cX12_normal 2 = .ok (.iload_n 1, 1) := by decide +kernel
theorem dX12_normal_3 : decode cX12_normal 3 = .ok (.bipush 15, 2) := by decide +kernel
theorem dX12_normal_5 : decode cX12_normal 5 = .ok (.iand, 1) := by decide +kernel
theorem dX12_normal_6 : decode cX12_normal 6 = .ok (.ifCond .ne 10, 3) := by decide +kernel
theorem dX12_normal_9 : decode cX12_normal 9 = .ok (.iload_n 1, 1) := by decide +kernel
theorem dX12_normal_10 : decode cX12_normal 10 = .ok (.iconst 4, 1) := by decide +kernel
theorem dX12_normal_11 : decode cX12_normal 11 = .ok (.ishr, 1) := by decide +kernel
theorem dX12_normal_12 : decode cX12_normal 12 = .ok (.istore_n 1, 1) := by decide +kernel
theorem dX12_normal_13 : decode cX12_normal 13 = .ok (.goto (-11), 3) := by decide +kernel
theorem dX12_normal_16 : decode cX12_normal 16 = .ok (.iload_n 1, 1) := by decide +kernel
theorem dX12_normal_17 : decode cX12_normal 17 = .ok (.sipush 4369, 3) := by decide +kernel
theorem dX12_normal_20 : decode cX12_normal 20 = .ok (.iand, 1) := by decide +kernel
theorem dX12_normal_21 : decode cX12_normal 21 = .ok (.ifCond .ne 10, 3) := by decide +kernel
theorem dX12_normal_24 : decode cX12_normal 24 = .ok (.iload_n 1, 1) := by decide +kernel
theorem dX12_normal_25 : decode cX12_normal 25 = .ok (.iconst 1, 1) := by decide +kernel
theorem dX12_normal_26 : decode cX12_normal 26 = .ok (.ishr, 1) := by decide +kernel
theorem dX12_normal_27 : decode cX12_normal 27 = .ok (.istore_n 1, 1) := by decide +kernel
theorem dX12_normal_28 : decode cX12_normal 28 = .ok (.goto (-12), 3) := by decide +kernel
theorem dX12_normal_31 : decode cX12_normal 31 = .ok (.iload_n 1, 1) := by decide +kernel
theorem dX12_normal_32 : decode cX12_normal 32 = .ok (.ireturn, 1) := by decide +kernel
theorem dX12_grown_0 : decode cX12_grown 0 = .ok (.iload_n 0, 1) := by decide +kernel
theorem dX12_grown_1 : decode cX12_grown 1 = .ok (.sipush 30583, 3) := by decide +kernel
theorem dX12_grown_4 : decode cX12_grown 4 = .ok (.iand, 1) := by decide +kernel
theorem dX12_grown_5 : decode cX12_grown 5 = .ok (.iconst 1, 1) := by decide +kernel
theorem dX12_grown_6 : decode cX12_grown 6 = .ok (.ishl, 1) := by decide +kernel
theorem dX12_grown_7 : decode cX12_grown 7 = .ok (.istore_n 1, 1) := by decide +kernel
theorem dX12_grown_8 : decode cX12_grown 8 = .ok (.iload_n 0, 1) := by decide +kernel
theorem dX12_grown_9 : decode cX12_grown 9 = .ok (.ldc 80, 2) := by decide +kernel
theorem dX12_grown_11 : decode cX12_grown 11 = .ok (.iand, 1) := by decide +kernel
theorem dX12_grown_12 : decode cX12_grown 12 = .ok (.iconst 1, 1) := by decide +kernel
theorem dX12_grown_13 : decode cX12_grown 13 = .ok (.ishr, 1) := by decide +kernel
theorem dX12_grown_14 : decode cX12_grown 14 = .ok (.istore_n 2, 1) := by decide +kernel
theorem dX12_grown_15 : decode cX12_grown 15 = .ok (.iload_n 0, 1) := by decide +kernel
theorem dX12_grown_16 : decode cX12_grown 16 = .ok (.iload_n 1, 1) := by decide +kernel
theorem dX12_grown_17 : decode cX12_grown 17 = .ok (.ior, 1) := by decide +kernel
theorem dX12_grown_18 : decode cX12_grown 18 = .ok (.iload_n 2, 1) := by decide +kernel
theorem dX12_grown_19 : decode cX12_grown 19 = .ok (.ior, 1) := by decide +kernel
theorem dX12_grown_20 : decode cX12_grown 20 = .ok (.iload_n 0, 1) := by decide +kernel
theorem dX12_grown_21 : decode cX12_grown 21 = .ok (.iconst 4, 1) := by decide +kernel
theorem dX12_grown_22 : decode cX12_grown 22 = .ok (.ishl, 1) := by decide +kernel
theorem dX12_grown_23 : decode cX12_grown 23 = .ok (.ior, 1) := by decide +kernel
theorem dX12_grown_24 : decode cX12_grown 24 = .ok (.iload_n 0, 1) := by decide +kernel
theorem dX12_grown_25 : decode cX12_grown 25 = .ok (.iconst 4, 1) := by decide +kernel
theorem dX12_grown_26 : decode cX12_grown 26 = .ok (.ishr, 1) := by decide +kernel
theorem dX12_grown_27 : decode cX12_grown 27 = .ok (.ior, 1) := by decide +kernel
theorem dX12_grown_28 : decode cX12_grown 28 = .ok (.ldc 81, 2) := by decide +kernel
theorem dX12_grown_30 : decode cX12_grown 30 = .ok (.iand, 1) := by decide +kernel
theorem dX12_grown_31 : decode cX12_grown 31 = .ok (.ireturn, 1) := by decide +kernel
theorem dX12_isShape_0 : decode cX12_isShape 0 = .ok (.iload_n 0, 1) := by decide +kernel
theorem dX12_isShape_1 : decode cX12_isShape 1 = .ok (.iconst 1, 1) := by decide +kernel
theorem dX12_isShape_2 : decode cX12_isShape 2 = .ok (.ldc 81, 2) := by decide +kernel
theorem dX12_isShape_4 : decode cX12_isShape 4 = .ok (.invokestatic 72, 3) := by decide +kernel
theorem dX12_isShape_7 : decode cX12_isShape 7 = .ok (.ifCond .eq 11, 3) := by decide +kernel
theorem dX12_isShape_10 : decode cX12_isShape 10 = .ok (.iload_n 0, 1) := by decide +kernel
theorem dX12_isShape_11 : decode cX12_isShape 11 = .ok (.invokestatic 82, 3) := by decide +kernel
theorem dX12_isShape_14 : decode cX12_isShape 14 = .ok (.iconst 5, 1) := by decide +kernel
theorem dX12_isShape_15 : decode cX12_isShape 15 = .ok (.if_icmp .le 5, 3) := by decide +kernel
theorem dX12_isShape_18 : decode cX12_isShape 18 = .ok (.iconst 0, 1) := by decide +kernel
theorem dX12_isShape_19 : decode cX12_isShape 19 = .ok (.ireturn, 1) := by decide +kernel
theorem dX12_isShape_20 : decode cX12_isShape 20 = .ok (.iload_n 0, 1) := by decide +kernel
theorem dX12_isShape_21 : decode cX12_isShape 21 = .ok (.iload_n 0, 1) := by decide +kernel
theorem dX12_isShape_22 : decode cX12_isShape 22 = .ok (.ineg, 1) := by decide +kernel
theorem dX12_isShape_23 : decode cX12_isShape 23 = .ok (.iand, 1) := by decide +kernel
theorem dX12_isShape_24 : decode cX12_isShape 24 = .ok (.istore_n 1, 1) := by decide +kernel
theorem dX12_isShape_25 : decode cX12_isShape 25 = .ok (.iconst 0, 1) := by decide +kernel
theorem dX12_isShape_26 : decode cX12_isShape 26 = .ok (.istore_n 2, 1) := by decide +kernel
theorem dX12_isShape_27 : decode cX12_isShape 27 = .ok (.iload_n 2, 1) := by decide +kernel
theorem dX12_isShape_28 : decode cX12_isShape 28 = .ok (.iconst 5, 1) := by decide +kernel
theorem dX12_isShape_29 : decode cX12_isShape 29 = .ok (.if_icmp .ge 16, 3) := by decide +kernel
theorem dX12_isShape_32 : decode cX12_isShape 32 = .ok (.iload_n 1, 1) := by decide +kernel
theorem dX12_isShape_33 : decode cX12_isShape 33 = .ok (.invokestatic 86, 3) := by decide +kernel
theorem dX12_isShape_36 : decode cX12_isShape 36 = .ok (.iload_n 0, 1) := by decide +kernel
theorem dX12_isShape_37 : decode cX12_isShape 37 = .ok (.iand, 1) := by decide +kernel
theorem dX12_isShape_38 : decode cX12_isShape 38 = .ok (.istore_n 1, 1) := by decide +kernel
theorem dX12_isShape_39 : decode cX12_isShape 39 = .ok (.iinc 2 1, 3) := by decide +kernel
theorem dX12_isShape_42 : decode cX12_isShape 42 = .ok (.goto (-15), 3) := by decide +kernel
theorem dX12_isShape_45 : decode cX12_isShape 45 = .ok (.iload_n 1, 1) := by decide +kernel
theorem dX12_isShape_46 : decode cX12_isShape 46 = .ok (.iload_n 0, 1) := by decide +kernel
theorem dX12_isShape_47 : decode cX12_isShape 47 = .ok (.if_icmp .ne 7, 3) := by decide +kernel
theorem dX12_isShape_50 : decode cX12_isShape 50 = .ok (.iconst 1, 1) := by decide +kernel
theorem dX12_isShape_51 : decode cX12_isShape 51 = .ok (.goto 4, 3) := by decide +kernel
theorem dX12_isShape_54 : decode cX12_isShape 54 = .ok (.iconst 0, 1) := by decide +kernel
theorem dX12_isShape_55 : decode cX12_isShape 55 = .ok (.ireturn, 1) := by decide +kernel
theorem dX12_changed_0 : decode cX12_changed 0 = .ok (.iconst 0, 1) := by decide +kernel
theorem dX12_changed_1 : decode cX12_changed 1 = .ok (.istore_n 2, 1) := by decide +kernel
theorem dX12_changed_2 : decode cX12_changed 2 = .ok (.iconst 0, 1) := by decide +kernel
theorem dX12_changed_3 : decode cX12_changed 3 = .ok (.istore_n 3, 1) := by decide +kernel
theorem dX12_changed_4 : decode cX12_changed 4 = .ok (.iload_n 3, 1) := by decide +kernel
theorem dX12_changed_5 : decode cX12_changed 5 = .ok (.iconst 4, 1) := by decide +kernel
theorem dX12_changed_6 : decode cX12_changed 6 = .ok (.if_icmp .ge 65, 3) := by decide +kernel
theorem dX12_changed_9 : decode cX12_changed 9 = .ok (.iconst 0, 1) := by decide +kernel
theorem dX12_changed_10 : decode cX12_changed 10 = .ok (.istore 4, 2) := by decide +kernel
theorem dX12_changed_12 : decode cX12_changed 12 = .ok (.iload 4, 2) := by decide +kernel
theorem dX12_changed_14 : decode cX12_changed 14 = .ok (.iconst 4, 1) := by decide +kernel
theorem dX12_changed_15 : decode cX12_changed 15 = .ok (.if_icmp .ge 50, 3) := by decide +kernel
theorem dX12_changed_18 : decode cX12_changed 18 = .ok (.iload_n 1, 1) := by decide +kernel
theorem dX12_changed_19 : decode cX12_changed 19 = .ok (.ifCond .ne 14, 3) := by decide +kernel
theorem dX12_changed_22 : decode cX12_changed 22 = .ok (.iconst 4, 1) := by decide +kernel
theorem dX12_changed_23 : decode cX12_changed 23 = .ok (.iload 4, 2) := by decide +kernel
theorem dX12_changed_25 : decode cX12_changed 25 = .ok (.imul, 1) := by decide +kernel
theorem dX12_changed_26 : decode cX12_changed 26 = .ok (.iconst 3, 1) := by decide +kernel
theorem dX12_changed_27 : decode cX12_changed 27 = .ok (.iadd, 1) := by decide +kernel
theorem dX12_changed_28 : decode cX12_changed 28 = .ok (.iload_n 3, 1) := by decide +kernel
theorem dX12_changed_29 : decode cX12_changed 29 = .ok (.isub, 1) := by decide +kernel
theorem dX12_changed_30 : decode cX12_changed 30 = .ok (.goto 11, 3) := by decide +kernel
theorem dX12_changed_33 : decode cX12_changed 33 = .ok (.iconst 4, 1) := by decide +kernel
theorem dX12_changed_34 : decode cX12_changed 34 = .ok (.iload_n 3, 1) := by decide +kernel
theorem dX12_changed_35 : decode cX12_changed 35 = .ok (.imul, 1) := by decide +kernel
theorem dX12_changed_36 : decode cX12_changed 36 = .ok (.iconst 3, 1) := by decide +kernel
theorem dX12_changed_37 : decode cX12_changed 37 = .ok (.iadd, 1) := by decide +kernel
theorem dX12_changed_38 : decode cX12_changed 38 = .ok (.iload 4, 2) := by decide +kernel
theorem dX12_changed_40 : decode cX12_changed 40 = .ok (.isub, 1) := by decide +kernel
theorem dX12_changed_41 : decode cX12_changed 41 = .ok (.istore 5, 2) := by decide +kernel
theorem dX12_changed_43 : decode cX12_changed 43 = .ok (.iload_n 2, 1) := by decide +kernel
theorem dX12_changed_44 : decode cX12_changed 44 = .ok (.iload_n 0, 1) := by decide +kernel
theorem dX12_changed_45 : decode cX12_changed 45 = .ok (.iconst 4, 1) := by decide +kernel
theorem dX12_changed_46 : decode cX12_changed 46 = .ok (.iload_n 3, 1) := by decide +kernel
theorem dX12_changed_47 : decode cX12_changed 47 = .ok (.imul, 1) := by decide +kernel
theorem dX12_changed_48 : decode cX12_changed 48 = .ok (.iload 4, 2) := by decide +kernel
theorem dX12_changed_50 : decode cX12_changed 50 = .ok (.iadd, 1) := by decide +kernel
theorem dX12_changed_51 : decode cX12_changed 51 = .ok (.ishr, 1) := by decide +kernel
theorem dX12_changed_52 : decode cX12_changed 52 = .ok (.iconst 1, 1) := by decide +kernel
theorem dX12_changed_53 : decode cX12_changed 53 = .ok (.iand, 1) := by decide +kernel
theorem dX12_changed_54 : decode cX12_changed 54 = .ok (.iload 5, 2) := by decide +kernel
theorem dX12_changed_56 : decode cX12_changed 56 = .ok (.ishl, 1) := by decide +kernel
theorem dX12_changed_57 : decode cX12_changed 57 = .ok (.ior, 1) := by decide +kernel
theorem dX12_changed_58 : decode cX12_changed 58 = .ok (.istore_n 2, 1) := by decide +kernel
theorem dX12_changed_59 : decode cX12_changed 59 = .ok (.iinc 4 1, 3) := by decide +kernel
theorem dX12_changed_62 : decode cX12_changed 62 = .ok (.goto (-50), 3) := by decide +kernel
theorem dX12_changed_65 : decode cX12_changed 65 = .ok (.iinc 3 1, 3) := by decide +kernel
theorem dX12_changed_68 : decode cX12_changed 68 = .ok (.goto (-64), 3) := by decide +kernel
theorem dX12_changed_71 : decode cX12_changed 71 = .ok (.iload_n 2, 1) := by decide +kernel
theorem dX12_changed_72 : decode cX12_changed 72 = .ok (.invokestatic 89, 3) := by decide +kernel
theorem dX12_changed_75 : decode cX12_changed 75 = .ok (.ireturn, 1) := by decide +kernel
theorem dX12_addsForm_0 : decode cX12_addsForm 0 = .ok (.iconst 0, 1) := by decide +kernel
theorem dX12_addsForm_1 : decode cX12_addsForm 1 = .ok (.istore_n 2, 1) := by decide +kernel
theorem dX12_addsForm_2 : decode cX12_addsForm 2 = .ok (.iload_n 2, 1) := by decide +kernel
theorem dX12_addsForm_3 : decode cX12_addsForm 3 = .ok (.aload_n 0, 1) := by decide +kernel
theorem dX12_addsForm_4 : decode cX12_addsForm 4 = .ok (.getfield 92, 3) := by decide +kernel
theorem dX12_addsForm_7 : decode cX12_addsForm 7 = .ok (.if_icmp .ge 19, 3) := by decide +kernel
theorem dX12_addsForm_10 : decode cX12_addsForm 10 = .ok (.aload_n 0, 1) := by decide +kernel
theorem dX12_addsForm_11 : decode cX12_addsForm 11 = .ok (.getfield 20, 3) := by decide +kernel
theorem dX12_addsForm_14 : decode cX12_addsForm 14 = .ok (.iload_n 2, 1) := by decide +kernel
theorem dX12_addsForm_15 : decode cX12_addsForm 15 = .ok (.iaload, 1) := by decide +kernel
theorem dX12_addsForm_16 : decode cX12_addsForm 16 = .ok (.iload_n 1, 1) := by decide +kernel
theorem dX12_addsForm_17 : decode cX12_addsForm 17 = .ok (.if_icmp .ge 9, 3) := by decide +kernel
theorem dX12_addsForm_20 : decode cX12_addsForm 20 = .ok (.iinc 2 1, 3) := by decide +kernel
theorem dX12_addsForm_23 : decode cX12_addsForm 23 = .ok (.goto (-21), 3) := by decide +kernel
theorem dX12_addsForm_26 : decode cX12_addsForm 26 = .ok (.iload_n 2, 1) := by decide +kernel
theorem dX12_addsForm_27 : decode cX12_addsForm 27 = .ok (.aload_n 0, 1) := by decide +kernel
theorem dX12_addsForm_28 : decode cX12_addsForm 28 = .ok (.getfield 92, 3) := by decide +kernel
theorem dX12_addsForm_31 : decode cX12_addsForm 31 = .ok (.if_icmp .eq 13, 3) := by decide +kernel
theorem dX12_addsForm_34 : decode cX12_addsForm 34 = .ok (.aload_n 0, 1) := by decide +kernel
theorem dX12_addsForm_35 : decode cX12_addsForm 35 = .ok (.getfield 20, 3) := by decide +kernel
theorem dX12_addsForm_38 : decode cX12_addsForm 38 = .ok (.iload_n 2, 1) := by decide +kernel
theorem dX12_addsForm_39 : decode cX12_addsForm 39 = .ok (.iaload, 1) := by decide +kernel
theorem dX12_addsForm_40 : decode cX12_addsForm 40 = .ok (.iload_n 1, 1) := by decide +kernel
theorem dX12_addsForm_41 : decode cX12_addsForm 41 = .ok (.if_icmp .eq 50, 3) := by decide +kernel
theorem dX12_addsForm_44 : decode cX12_addsForm 44 = .ok (.aload_n 0, 1) := by decide +kernel
theorem dX12_addsForm_45 : decode cX12_addsForm 45 = .ok (.getfield 92, 3) := by decide +kernel
theorem dX12_addsForm_48 : decode cX12_addsForm 48 = .ok (.istore_n 3, 1) := by decide +kernel
theorem dX12_addsForm_49 : decode cX12_addsForm 49 = .ok (.iload_n 3, 1) := by decide +kernel
theorem dX12_addsForm_50 : decode cX12_addsForm 50 = .ok (.iload_n 2, 1) := by decide +kernel
theorem dX12_addsForm_51 : decode cX12_addsForm 51 = .ok (.if_icmp .le 23, 3) := by decide +kernel
theorem dX12_addsForm_54 : decode cX12_addsForm 54 = .ok (.aload_n 0, 1) := by decide +kernel
theorem dX12_addsForm_55 : decode cX12_addsForm 55 = .ok (.getfield 20, 3) := by decide +kernel
theorem dX12_addsForm_58 : decode cX12_addsForm 58 = .ok (.iload_n 3, 1) := by decide +kernel
theorem dX12_addsForm_59 : decode cX12_addsForm 59 = .ok (.aload_n 0, 1) := by decide +kernel
theorem dX12_addsForm_60 : decode cX12_addsForm 60 = .ok (.getfield 20, 3) := by decide +kernel
theorem dX12_addsForm_63 : decode cX12_addsForm 63 = .ok (.iload_n 3, 1) := by decide +kernel
theorem dX12_addsForm_64 : decode cX12_addsForm 64 = .ok (.iconst 1, 1) := by decide +kernel
theorem dX12_addsForm_65 : decode cX12_addsForm 65 = .ok (.isub, 1) := by decide +kernel
theorem dX12_addsForm_66 : decode cX12_addsForm 66 = .ok (.iaload, 1) := by decide +kernel
theorem dX12_addsForm_67 : decode cX12_addsForm 67 = .ok (.iastore, 1) := by decide +kernel
theorem dX12_addsForm_68 : decode cX12_addsForm 68 = .ok (.iinc 3 (-1), 3) := by decide +kernel
theorem dX12_addsForm_71 : decode cX12_addsForm 71 = .ok (.goto (-22), 3) := by decide +kernel
theorem dX12_addsForm_74 : decode cX12_addsForm 74 = .ok (.aload_n 0, 1) := by decide +kernel
theorem dX12_addsForm_75 : decode cX12_addsForm 75 = .ok (.getfield 20, 3) := by decide +kernel
theorem dX12_addsForm_78 : decode cX12_addsForm 78 = .ok (.iload_n 2, 1) := by decide +kernel
theorem dX12_addsForm_79 : decode cX12_addsForm 79 = .ok (.iload_n 1, 1) := by decide +kernel
theorem dX12_addsForm_80 : decode cX12_addsForm 80 = .ok (.iastore, 1) := by decide +kernel
theorem dX12_addsForm_81 : decode cX12_addsForm 81 = .ok (.aload_n 0, 1) := by decide +kernel
theorem dX12_addsForm_82 : decode cX12_addsForm 82 = .ok (.dup, 1) := by decide +kernel
theorem dX12_addsForm_83 : decode cX12_addsForm 83 = .ok (.getfield 92, 3) := by decide +kernel
theorem dX12_addsForm_86 : decode cX12_addsForm 86 = .ok (.iconst 1, 1) := by decide +kernel
theorem dX12_addsForm_87 : decode cX12_addsForm 87 = .ok (.iadd, 1) := by decide +kernel
theorem dX12_addsForm_88 : decode cX12_addsForm 88 = .ok (.putfield 92, 3) := by decide +kernel
theorem dX12_addsForm_91 : decode cX12_addsForm 91 = .ok (.return_, 1) := by decide +kernel
theorem dX12_findsForms_0 : decode cX12_findsForms 0 = .ok (.aload_n 0, 1) := by decide +kernel
theorem dX12_findsForms_1 : decode cX12_findsForms 1 = .ok (.iconst 0, 1) := by decide +kernel
theorem dX12_findsForms_2 : decode cX12_findsForms 2 = .ok (.putfield 92, 3) := by decide +kernel
theorem dX12_findsForms_5 : decode cX12_findsForms 5 = .ok (.aload_n 0, 1) := by decide +kernel
theorem dX12_findsForms_6 : decode cX12_findsForms 6 = .ok (.iload_n 1, 1) := by decide +kernel
theorem dX12_findsForms_7 : decode cX12_findsForms 7 = .ok (.iconst 0, 1) := by decide +kernel
theorem dX12_findsForms_8 : decode cX12_findsForms 8 = .ok (.invokevirtual 95, 3) := by decide +kernel
theorem dX12_findsForms_11 : decode cX12_findsForms 11 = .ok (.istore_n 2, 1) := by decide +kernel
theorem dX12_findsForms_12 : decode cX12_findsForms 12 = .ok (.iconst 0, 1) := by decide +kernel
theorem dX12_findsForms_13 : decode cX12_findsForms 13 = .ok (.istore_n 3, 1) := by decide +kernel
theorem dX12_findsForms_14 : decode cX12_findsForms 14 = .ok (.iload_n 3, 1) := by decide +kernel
theorem dX12_findsForms_15 : decode cX12_findsForms 15 = .ok (.bipush 8, 2) := by decide +kernel
theorem dX12_findsForms_17 : decode cX12_findsForms 17 = .ok (.if_icmp .ge 70, 3) := by decide +kernel
theorem dX12_findsForms_20 : decode cX12_findsForms 20 = .ok (.aload_n 0, 1) := by decide +kernel
theorem dX12_findsForms_21 : decode cX12_findsForms 21 = .ok (.iload_n 1, 1) := by decide +kernel
theorem dX12_findsForms_22 : decode cX12_findsForms 22 = .ok (.iconst 1, 1) := by decide +kernel
theorem dX12_findsForms_23 : decode cX12_findsForms 23 = .ok (.invokevirtual 95, 3) := by decide +kernel
theorem dX12_findsForms_26 : decode cX12_findsForms 26 = .ok (.iconst 2, 1) := by decide +kernel
theorem dX12_findsForms_27 : decode cX12_findsForms 27 = .ok (.if_icmp .eq 22, 3) := by decide +kernel
theorem dX12_findsForms_30 : decode cX12_findsForms 30 = .ok (.iload_n 3, 1) := by decide +kernel
theorem dX12_findsForms_31 : decode cX12_findsForms 31 = .ok (.ifCond .eq 18, 3) := by decide +kernel
theorem dX12_findsForms_34 : decode cX12_findsForms 34 = .ok (.aload_n 0, 1) := by decide +kernel
theorem dX12_findsForms_35 : decode cX12_findsForms 35 = .ok (.iload_n 1, 1) := by decide +kernel
theorem dX12_findsForms_36 : decode cX12_findsForms 36 = .ok (.iconst 1, 1) := by decide +kernel
theorem dX12_findsForms_37 : decode cX12_findsForms 37 = .ok (.invokevirtual 95, 3) := by decide +kernel
theorem dX12_findsForms_40 : decode cX12_findsForms 40 = .ok (.iconst 1, 1) := by decide +kernel
theorem dX12_findsForms_41 : decode cX12_findsForms 41 = .ok (.if_icmp .ne 12, 3) := by decide +kernel
theorem dX12_findsForms_44 : decode cX12_findsForms 44 = .ok (.iload_n 3, 1) := by decide +kernel
theorem dX12_findsForms_45 : decode cX12_findsForms 45 = .ok (.iconst 4, 1) := by decide +kernel
theorem dX12_findsForms_46 : decode cX12_findsForms 46 = .ok (.if_icmp .ge 7, 3) := by decide +kernel
theorem dX12_findsForms_49 : decode cX12_findsForms 49 = .ok (.iconst 1, 1) := by decide +kernel
theorem dX12_findsForms_50 : decode cX12_findsForms 50 = .ok (.goto 4, 3) := by decide +kernel
theorem dX12_findsForms_53 : decode cX12_findsForms 53 = .ok (.iconst 0, 1) := by decide +kernel
theorem dX12_findsForms_54 : decode cX12_findsForms 54 = .ok (.istore 4, 2) := by decide +kernel
theorem dX12_findsForms_56 : decode cX12_findsForms 56 = .ok (.iload 4, 2) := by decide +kernel
theorem dX12_findsForms_58 : decode cX12_findsForms 58 = .ok (.ifCond .eq 8, 3) := by decide +kernel
theorem dX12_findsForms_61 : decode cX12_findsForms 61 = .ok (.aload_n 0, 1) := by decide +kernel
theorem dX12_findsForms_62 : decode cX12_findsForms 62 = .ok (.iload_n 2, 1) := by decide +kernel
theorem dX12_findsForms_63 : decode cX12_findsForms 63 = .ok (.invokevirtual 99, 3) := by decide +kernel
theorem dX12_findsForms_66 : decode cX12_findsForms 66 = .ok (.iload_n 2, 1) := by decide +kernel
theorem dX12_findsForms_67 : decode cX12_findsForms 67 = .ok (.iload_n 3, 1) := by decide +kernel
theorem dX12_findsForms_68 : decode cX12_findsForms 68 = .ok (.iconst 3, 1) := by decide +kernel
theorem dX12_findsForms_69 : decode cX12_findsForms 69 = .ok (.if_icmp .ne 7, 3) := by decide +kernel
theorem dX12_findsForms_72 : decode cX12_findsForms 72 = .ok (.iconst 1, 1) := by decide +kernel
theorem dX12_findsForms_73 : decode cX12_findsForms 73 = .ok (.goto 4, 3) := by decide +kernel
theorem dX12_findsForms_76 : decode cX12_findsForms 76 = .ok (.iconst 0, 1) := by decide +kernel
theorem dX12_findsForms_77 : decode cX12_findsForms 77 = .ok (.invokestatic 103, 3) := by decide +kernel
theorem dX12_findsForms_80 : decode cX12_findsForms 80 = .ok (.istore_n 2, 1) := by decide +kernel
theorem dX12_findsForms_81 : decode cX12_findsForms 81 = .ok (.iinc 3 1, 3) := by decide +kernel
theorem dX12_findsForms_84 : decode cX12_findsForms 84 = .ok (.goto (-70), 3) := by decide +kernel
theorem dX12_findsForms_87 : decode cX12_findsForms 87 = .ok (.return_, 1) := by decide +kernel
theorem dX12_cellsOf_0 : decode cX12_cellsOf 0 = .ok (.lconst 0, 1) := by decide +kernel
theorem dX12_cellsOf_1 : decode cX12_cellsOf 1 = .ok (.lstore 5, 2) := by decide +kernel
theorem dX12_cellsOf_3 : decode cX12_cellsOf 3 = .ok (.iconst 0, 1) := by decide +kernel
theorem dX12_cellsOf_4 : decode cX12_cellsOf 4 = .ok (.istore 7, 2) := by decide +kernel
theorem dX12_cellsOf_6 : decode cX12_cellsOf 6 = .ok (.iload 7, 2) := by decide +kernel
theorem dX12_cellsOf_8 : decode cX12_cellsOf 8 = .ok (.bipush 16, 2) := by decide +kernel
theorem dX12_cellsOf_10 : decode cX12_cellsOf 10 = .ok (.if_icmp .ge 117, 3) := by decide +kernel
theorem dX12_cellsOf_13 : decode cX12_cellsOf 13 = .ok (.iload_n 1, 1) := by decide +kernel
theorem dX12_cellsOf_14 : decode cX12_cellsOf 14 = .ok (.iload 7, 2) := by decide +kernel
theorem dX12_cellsOf_16 : decode cX12_cellsOf 16 = .ok (.ishr, 1) := by decide +kernel
theorem dX12_cellsOf_17 : decode cX12_cellsOf 17 = .ok (.iconst 1, 1) := by decide +kernel
theorem dX12_cellsOf_18 : decode cX12_cellsOf 18 = .ok (.iand, 1) := by decide +kernel
theorem dX12_cellsOf_19 : decode cX12_cellsOf 19 = .ok (.iconst 1, 1) := by decide +kernel
theorem dX12_cellsOf_20 : decode cX12_cellsOf 20 = .ok (.if_icmp .ne 101, 3) := by decide +kernel
theorem dX12_cellsOf_23 : decode cX12_cellsOf 23 = .ok (.iload_n 2, 1) := by decide +kernel
theorem dX12_cellsOf_24 : decode cX12_cellsOf 24 = .ok (.iload 7, 2) := by decide +kernel
theorem dX12_cellsOf_26 : decode cX12_cellsOf 26 = .ok (.iconst 4, 1) := by decide +kernel
theorem dX12_cellsOf_27 : decode cX12_cellsOf 27 = .ok (.irem, 1) := by decide +kernel
theorem dX12_cellsOf_28 : decode cX12_cellsOf 28 = .ok (.iadd, 1) := by decide +kernel
theorem dX12_cellsOf_29 : decode cX12_cellsOf 29 = .ok (.istore 8, 2) := by decide +kernel
theorem dX12_cellsOf_31 : decode cX12_cellsOf 31 = .ok (.iload_n 3, 1) := by decide +kernel
theorem dX12_cellsOf_32 : decode cX12_cellsOf 32 = .ok (.iload 7, 2) := by decide +kernel
theorem dX12_cellsOf_34 : decode cX12_cellsOf 34 = .ok (.iconst 4, 1) := by decide +kernel
theorem dX12_cellsOf_35 : decode cX12_cellsOf 35 = .ok (.idiv, 1) := by decide +kernel
theorem dX12_cellsOf_36 : decode cX12_cellsOf 36 = .ok (.iadd, 1) := by decide +kernel
theorem dX12_cellsOf_37 : decode cX12_cellsOf 37 = .ok (.istore 9, 2) := by decide +kernel
theorem dX12_cellsOf_39 : decode cX12_cellsOf 39 = .ok (.iload 9, 2) := by decide +kernel
theorem dX12_cellsOf_41 : decode cX12_cellsOf 41 = .ok (.aload_n 0, 1) := by decide +kernel
theorem dX12_cellsOf_42 : decode cX12_cellsOf 42 = .ok (.getfield 7, 3) := by decide +kernel
theorem dX12_cellsOf_45 : decode cX12_cellsOf 45 = .ok (.iconst 0, 1) := by decide +kernel
theorem dX12_cellsOf_46 : decode cX12_cellsOf 46 = .ok (.iaload, 1) := by decide +kernel
theorem dX12_cellsOf_47 : decode cX12_cellsOf 47 = .ok (.imul, 1) := by decide +kernel
theorem dX12_cellsOf_48 : decode cX12_cellsOf 48 = .ok (.iload 8, 2) := by decide +kernel
theorem dX12_cellsOf_50 : decode cX12_cellsOf 50 = .ok (.iadd, 1) := by decide +kernel
theorem dX12_cellsOf_51 : decode cX12_cellsOf 51 = .ok (.istore 10, 2) := by decide +kernel
theorem dX12_cellsOf_53 : decode cX12_cellsOf 53 = .ok (.iload 8, 2) := by decide +kernel
theorem dX12_cellsOf_55 : decode cX12_cellsOf 55 = .ok (.aload_n 0, 1) := by decide +kernel
theorem dX12_cellsOf_56 : decode cX12_cellsOf 56 = .ok (.getfield 7, 3) := by decide +kernel
theorem dX12_cellsOf_59 : decode cX12_cellsOf 59 = .ok (.iconst 0, 1) := by decide +kernel
theorem dX12_cellsOf_60 : decode cX12_cellsOf 60 = .ok (.iaload, 1) := by decide +kernel
theorem dX12_cellsOf_61 : decode cX12_cellsOf 61 = .ok (.if_icmp .ge 49, 3) := by decide +kernel
theorem dX12_cellsOf_64 : decode cX12_cellsOf 64 = .ok (.iload 9, 2) := by decide +kernel
theorem dX12_cellsOf_66 : decode cX12_cellsOf 66 = .ok (.aload_n 0, 1) := by decide +kernel
theorem dX12_cellsOf_67 : decode cX12_cellsOf 67 = .ok (.getfield 7, 3) := by decide +kernel
theorem dX12_cellsOf_70 : decode cX12_cellsOf 70 = .ok (.iconst 1, 1) := by decide +kernel
theorem dX12_cellsOf_71 : decode cX12_cellsOf 71 = .ok (.iaload, 1) := by decide +kernel
theorem dX12_cellsOf_72 : decode cX12_cellsOf 72 = .ok (.if_icmp .ge 38, 3) := by decide +kernel
theorem dX12_cellsOf_75 : decode cX12_cellsOf 75 = .ok (.aload_n 0, 1) := by decide +kernel
theorem dX12_cellsOf_76 : decode cX12_cellsOf 76 = .ok (.iload 10, 2) := by decide +kernel
theorem dX12_cellsOf_78 : decode cX12_cellsOf 78 = .ok (.invokevirtual 76, 3) := by decide +kernel
theorem dX12_cellsOf_81 : decode cX12_cellsOf 81 = .ok (.ifCond .eq 29, 3) := by decide +kernel
theorem dX12_cellsOf_84 : decode cX12_cellsOf 84 = .ok (.aload_n 0, 1) := by decide +kernel
theorem dX12_cellsOf_85 : decode cX12_cellsOf 85 = .ok (.getfield 7, 3) := by decide +kernel
theorem dX12_cellsOf_88 : decode cX12_cellsOf 88 = .ok (.iconst 5, 1) := by decide +kernel
theorem dX12_cellsOf_89 : decode cX12_cellsOf 89 = .ok (.iload 10, 2) := by decide +kernel
theorem dX12_cellsOf_91 : decode cX12_cellsOf 91 = .ok (.iadd, 1) := by decide +kernel
theorem dX12_cellsOf_92 : decode cX12_cellsOf 92 = .ok (.iaload, 1) := by decide +kernel
theorem dX12_cellsOf_93 : decode cX12_cellsOf 93 = .ok (.ifCond .eq 19, 3) := by decide +kernel
theorem dX12_cellsOf_96 : decode cX12_cellsOf 96 = .ok (.aload_n 0, 1) := by decide +kernel
theorem dX12_cellsOf_97 : decode cX12_cellsOf 97 = .ok (.getfield 7, 3) := by decide +kernel
theorem dX12_cellsOf_100 : decode cX12_cellsOf 100 = .ok (.iconst 5, 1) := by decide +kernel
theorem dX12_cellsOf_101 : decode cX12_cellsOf 101 = .ok (.iload 10, 2) := by decide +kernel
theorem dX12_cellsOf_103 : decode cX12_cellsOf 103 = .ok (.iadd, 1) := by decide +kernel
theorem dX12_cellsOf_104 : decode cX12_cellsOf 104 = .ok (.iaload, 1) := by decide +kernel
theorem dX12_cellsOf_105 : decode cX12_cellsOf 105 = .ok (.iload 4, 2) := by decide +kernel
theorem dX12_cellsOf_107 : decode cX12_cellsOf 107 = .ok (.if_icmp .eq 5, 3) := by decide +kernel
theorem dX12_cellsOf_110 : decode cX12_cellsOf 110 = .ok (.lconst 0, 1) := by decide +kernel
theorem dX12_cellsOf_111 : decode cX12_cellsOf 111 = .ok (.lreturn, 1) := by decide +kernel
theorem dX12_cellsOf_112 : decode cX12_cellsOf 112 = .ok (.lload 5, 2) := by decide +kernel
theorem dX12_cellsOf_114 : decode cX12_cellsOf 114 = .ok (.lconst 1, 1) := by decide +kernel
theorem dX12_cellsOf_115 : decode cX12_cellsOf 115 = .ok (.iload 10, 2) := by decide +kernel
theorem dX12_cellsOf_117 : decode cX12_cellsOf 117 = .ok (.lshl, 1) := by decide +kernel
theorem dX12_cellsOf_118 : decode cX12_cellsOf 118 = .ok (.lor, 1) := by decide +kernel
theorem dX12_cellsOf_119 : decode cX12_cellsOf 119 = .ok (.lstore 5, 2) := by decide +kernel
theorem dX12_cellsOf_121 : decode cX12_cellsOf 121 = .ok (.iinc 7 1, 3) := by decide +kernel
theorem dX12_cellsOf_124 : decode cX12_cellsOf 124 = .ok (.goto (-118), 3) := by decide +kernel
theorem dX12_cellsOf_127 : decode cX12_cellsOf 127 = .ok (.lload 5, 2) := by decide +kernel
theorem dX12_cellsOf_129 : decode cX12_cellsOf 129 = .ok (.lreturn, 1) := by decide +kernel
theorem dX12_lowest_0 : decode cX12_lowest 0 = .ok (.iconst 0, 1) := by decide +kernel
theorem dX12_lowest_1 : decode cX12_lowest 1 = .ok (.istore_n 2, 1) := by decide +kernel
theorem dX12_lowest_2 : decode cX12_lowest 2 = .ok (.lload_n 0, 1) := by decide +kernel
theorem dX12_lowest_3 : decode cX12_lowest 3 = .ok (.iload_n 2, 1) := by decide +kernel
theorem dX12_lowest_4 : decode cX12_lowest 4 = .ok (.lshr, 1) := by decide +kernel
theorem dX12_lowest_5 : decode cX12_lowest 5 = .ok (.lconst 1, 1) := by decide +kernel
theorem dX12_lowest_6 : decode cX12_lowest 6 = .ok (.land, 1) := by decide +kernel
theorem dX12_lowest_7 : decode cX12_lowest 7 = .ok (.lconst 0, 1) := by decide +kernel
theorem dX12_lowest_8 : decode cX12_lowest 8 = .ok (.lcmp, 1) := by decide +kernel
theorem dX12_lowest_9 : decode cX12_lowest 9 = .ok (.ifCond .ne 9, 3) := by decide +kernel
theorem dX12_lowest_12 : decode cX12_lowest 12 = .ok (.iinc 2 1, 3) := by decide +kernel
theorem dX12_lowest_15 : decode cX12_lowest 15 = .ok (.goto (-13), 3) := by decide +kernel
theorem dX12_lowest_18 : decode cX12_lowest 18 = .ok (.iload_n 2, 1) := by decide +kernel
theorem dX12_lowest_19 : decode cX12_lowest 19 = .ok (.ireturn, 1) := by decide +kernel
theorem dX12_findsPlacements_0 : decode cX12_findsPlacements 0 = .ok (.aload_n 0, 1) := by decide +kernel
theorem dX12_findsPlacements_1 : decode cX12_findsPlacements 1 = .ok (.iconst 0, 1) := by decide +kernel
theorem dX12_findsPlacements_2 : decode cX12_findsPlacements 2 = .ok (.putfield 106, 3) := by decide +kernel
theorem dX12_findsPlacements_5 : decode cX12_findsPlacements 5 = .ok (.iconst 0, 1) := by decide +kernel
theorem dX12_findsPlacements_6 : decode cX12_findsPlacements 6 = .ok (.istore_n 1, 1) := by decide +kernel
theorem dX12_findsPlacements_7 : decode cX12_findsPlacements 7 = .ok (.iload_n 1, 1) := by decide +kernel
theorem dX12_findsPlacements_8 : decode cX12_findsPlacements 8 = .ok (.aload_n 0, 1) := by decide +kernel
theorem dX12_findsPlacements_9 : decode cX12_findsPlacements 9 = .ok (.getfield 7, 3) := by decide +kernel
theorem dX12_findsPlacements_12 : decode cX12_findsPlacements 12 = .ok (.iconst 4, 1) := by decide +kernel
theorem dX12_findsPlacements_13 : decode cX12_findsPlacements 13 = .ok (.iaload, 1) := by decide +kernel
theorem dX12_findsPlacements_14 : decode cX12_findsPlacements 14 = .ok (.if_icmp .ge 152, 3) := by decide +kernel
theorem dX12_findsPlacements_17 : decode cX12_findsPlacements 17 = .ok (.aload_n 0, 1) := by decide +kernel
theorem dX12_findsPlacements_18 : decode cX12_findsPlacements 18 = .ok (.iload_n 1, 1) := by decide +kernel
theorem dX12_findsPlacements_19 : decode cX12_findsPlacements 19 = .ok (.invokevirtual 109, 3) := by decide +kernel
theorem dX12_findsPlacements_22 : decode cX12_findsPlacements 22 = .ok (.iconst 0, 1) := by decide +kernel
theorem dX12_findsPlacements_23 : decode cX12_findsPlacements 23 = .ok (.istore_n 2, 1) := by decide +kernel
theorem dX12_findsPlacements_24 : decode cX12_findsPlacements 24 = .ok (.iload_n 2, 1) := by decide +kernel
theorem dX12_findsPlacements_25 : decode cX12_findsPlacements 25 = .ok (.aload_n 0, 1) := by decide +kernel
theorem dX12_findsPlacements_26 : decode cX12_findsPlacements 26 = .ok (.getfield 92, 3) := by decide +kernel
theorem dX12_findsPlacements_29 : decode cX12_findsPlacements 29 = .ok (.if_icmp .ge 131, 3) := by decide +kernel
theorem dX12_findsPlacements_32 : decode cX12_findsPlacements 32 = .ok (.iconst 0, 1) := by decide +kernel
theorem dX12_findsPlacements_33 : decode cX12_findsPlacements 33 = .ok (.istore_n 3, 1) := by decide +kernel
theorem dX12_findsPlacements_34 : decode cX12_findsPlacements 34 = .ok (.iload_n 3, 1) := by decide +kernel
theorem dX12_findsPlacements_35 : decode cX12_findsPlacements 35 = .ok (.aload_n 0, 1) := by decide +kernel
theorem dX12_findsPlacements_36 : decode cX12_findsPlacements 36 = .ok (.invokevirtual 68, 3) := by decide +kernel
theorem dX12_findsPlacements_39 : decode cX12_findsPlacements 39 = .ok (.if_icmp .ge 115, 3) := by decide +kernel
theorem dX12_findsPlacements_42 : decode cX12_findsPlacements 42 = .ok (.aload_n 0, 1) := by decide +kernel
theorem dX12_findsPlacements_43 : decode cX12_findsPlacements 43 = .ok (.aload_n 0, 1) := by decide +kernel
theorem dX12_findsPlacements_44 : decode cX12_findsPlacements 44 = .ok (.getfield 20, 3) := by decide +kernel
theorem dX12_findsPlacements_47 : decode cX12_findsPlacements 47 = .ok (.iload_n 2, 1) := by decide +kernel
theorem dX12_findsPlacements_48 : decode cX12_findsPlacements 48 = .ok (.iaload, 1) := by decide +kernel
theorem dX12_findsPlacements_49 : decode cX12_findsPlacements 49 = .ok (.iload_n 3, 1) := by decide +kernel
theorem dX12_findsPlacements_50 : decode cX12_findsPlacements 50 = .ok (.aload_n 0, 1) := by decide +kernel
theorem dX12_findsPlacements_51 : decode cX12_findsPlacements 51 = .ok (.getfield 7, 3) := by decide +kernel
theorem dX12_findsPlacements_54 : decode cX12_findsPlacements 54 = .ok (.iconst 0, 1) := by decide +kernel
theorem dX12_findsPlacements_55 : decode cX12_findsPlacements 55 = .ok (.iaload, 1) := by decide +kernel
theorem dX12_findsPlacements_56 : decode cX12_findsPlacements 56 = .ok (.irem, 1) := by decide +kernel
theorem dX12_findsPlacements_57 : decode cX12_findsPlacements 57 = .ok (.iload_n 3, 1) := by decide +kernel
theorem dX12_findsPlacements_58 : decode cX12_findsPlacements 58 = .ok (.aload_n 0, 1) := by decide +kernel
theorem dX12_findsPlacements_59 : decode cX12_findsPlacements 59 = .ok (.getfield 7, 3) := by decide +kernel
theorem dX12_findsPlacements_62 : decode cX12_findsPlacements 62 = .ok (.iconst 0, 1) := by decide +kernel
theorem dX12_findsPlacements_63 : decode cX12_findsPlacements 63 = .ok (.iaload, 1) := by decide +kernel
theorem dX12_findsPlacements_64 : decode cX12_findsPlacements 64 = .ok (.idiv, 1) := by decide +kernel
theorem dX12_findsPlacements_65 : decode cX12_findsPlacements 65 = .ok (.aload_n 0, 1) := by decide +kernel
theorem dX12_findsPlacements_66 : decode cX12_findsPlacements 66 = .ok (.iload_n 1, 1) := by decide +kernel
theorem dX12_findsPlacements_67 : decode cX12_findsPlacements 67 = .ok (.iconst 2, 1) := by decide +kernel
theorem dX12_findsPlacements_68 : decode cX12_findsPlacements 68 = .ok (.invokevirtual 95, 3) := by decide +kernel
theorem dX12_findsPlacements_71 : decode cX12_findsPlacements 71 = .ok (.invokevirtual 112, 3) := by decide +kernel
theorem dX12_findsPlacements_74 : decode cX12_findsPlacements 74 = .ok (.lstore 4, 2) := by decide +kernel
theorem dX12_findsPlacements_76 : decode cX12_findsPlacements 76 = .ok (.lload 4, 2) := by decide +kernel
theorem dX12_findsPlacements_78 : decode cX12_findsPlacements 78 = .ok (.lconst 0, 1) := by decide +kernel
theorem dX12_findsPlacements_79 : decode cX12_findsPlacements 79 = .ok (.lcmp, 1) := by decide +kernel
theorem dX12_findsPlacements_80 : decode cX12_findsPlacements 80 = .ok (.ifCond .eq 68, 3) := by decide +kernel
theorem dX12_findsPlacements_83 : decode cX12_findsPlacements 83 = .ok (.aload_n 0, 1) := by decide +kernel
theorem dX12_findsPlacements_84 : decode cX12_findsPlacements 84 = .ok (.getfield 23, 3) := by decide +kernel
theorem dX12_findsPlacements_87 : decode cX12_findsPlacements 87 = .ok (.aload_n 0, 1) := by decide +kernel
theorem dX12_findsPlacements_88 : decode cX12_findsPlacements 88 = .ok (.getfield 106, 3) := by decide +kernel
theorem dX12_findsPlacements_91 : decode cX12_findsPlacements 91 = .ok (.iload_n 1, 1) := by decide +kernel
theorem dX12_findsPlacements_92 : decode cX12_findsPlacements 92 = .ok (.iastore, 1) := by decide +kernel
theorem dX12_findsPlacements_93 : decode cX12_findsPlacements 93 = .ok (.aload_n 0, 1) := by decide +kernel
theorem dX12_findsPlacements_94 : decode cX12_findsPlacements 94 = .ok (.getfield 26, 3) := by decide +kernel
theorem dX12_findsPlacements_97 : decode cX12_findsPlacements 97 = .ok (.aload_n 0, 1) := by decide +kernel
theorem dX12_findsPlacements_98 : decode cX12_findsPlacements 98 = .ok (.getfield 106, 3) := by decide +kernel
theorem dX12_findsPlacements_101 : decode cX12_findsPlacements 101 = .ok (.iload_n 2, 1) := by decide +kernel
theorem dX12_findsPlacements_102 : decode cX12_findsPlacements 102 = .ok (.iastore, 1) := by decide +kernel
theorem dX12_findsPlacements_103 : decode cX12_findsPlacements 103 = .ok (.aload_n 0, 1) := by decide +kernel
theorem dX12_findsPlacements_104 : decode cX12_findsPlacements 104 = .ok (.getfield 29, 3) := by decide +kernel
theorem dX12_findsPlacements_107 : decode cX12_findsPlacements 107 = .ok (.aload_n 0, 1) := by decide +kernel
theorem dX12_findsPlacements_108 : decode cX12_findsPlacements 108 = .ok (.getfield 106, 3) := by decide +kernel
theorem dX12_findsPlacements_111 : decode cX12_findsPlacements 111 = .ok (.iload_n 3, 1) := by decide +kernel
theorem dX12_findsPlacements_112 : decode cX12_findsPlacements 112 = .ok (.iastore, 1) := by decide +kernel
theorem dX12_findsPlacements_113 : decode cX12_findsPlacements 113 = .ok (.aload_n 0, 1) := by decide +kernel
theorem dX12_findsPlacements_114 : decode cX12_findsPlacements 114 = .ok (.getfield 32, 3) := by decide +kernel
theorem dX12_findsPlacements_117 : decode cX12_findsPlacements 117 = .ok (.aload_n 0, 1) := by decide +kernel
theorem dX12_findsPlacements_118 : decode cX12_findsPlacements 118 = .ok (.getfield 106, 3) := by decide +kernel
theorem dX12_findsPlacements_121 : decode cX12_findsPlacements 121 = .ok (.lload 4, 2) := by decide +kernel
theorem dX12_findsPlacements_123 : decode cX12_findsPlacements 123 = .ok (.lastore, 1) := by decide +kernel
theorem dX12_findsPlacements_124 : decode cX12_findsPlacements 124 = .ok (.aload_n 0, 1) := by decide +kernel
theorem dX12_findsPlacements_125 : decode cX12_findsPlacements 125 = .ok (.getfield 36, 3) := by decide +kernel
theorem dX12_findsPlacements_128 : decode cX12_findsPlacements 128 = .ok (.aload_n 0, 1) := by decide +kernel
theorem dX12_findsPlacements_129 : decode cX12_findsPlacements 129 = .ok (.getfield 106, 3) := by decide +kernel
theorem dX12_findsPlacements_132 : decode cX12_findsPlacements 132 = .ok (.lload 4, 2) := by decide +kernel
theorem dX12_findsPlacements_134 : decode cX12_findsPlacements 134 = .ok (.invokestatic 116, 3) := by decide +kernel
theorem dX12_findsPlacements_137 : decode cX12_findsPlacements 137 = .ok (.iastore, 1) := by decide +kernel
theorem dX12_findsPlacements_138 : decode cX12_findsPlacements 138 = .ok (.aload_n 0, 1) := by decide +kernel
theorem dX12_findsPlacements_139 : decode cX12_findsPlacements 139 = .ok (.dup, 1) := by decide +kernel
theorem dX12_findsPlacements_140 : decode cX12_findsPlacements 140 = .ok (.getfield 106, 3) := by decide +kernel
theorem dX12_findsPlacements_143 : decode cX12_findsPlacements 143 = .ok (.iconst 1, 1) := by decide +kernel
theorem dX12_findsPlacements_144 : decode cX12_findsPlacements 144 = .ok (.iadd, 1) := by decide +kernel
theorem dX12_findsPlacements_145 : decode cX12_findsPlacements 145 = .ok (.putfield 106, 3) := by decide +kernel
theorem dX12_findsPlacements_148 : decode cX12_findsPlacements 148 = .ok (.iinc 3 1, 3) := by decide +kernel
theorem dX12_findsPlacements_151 : decode cX12_findsPlacements 151 = .ok (.goto (-117), 3) := by decide +kernel
theorem dX12_findsPlacements_154 : decode cX12_findsPlacements 154 = .ok (.iinc 2 1, 3) := by decide +kernel
theorem dX12_findsPlacements_157 : decode cX12_findsPlacements 157 = .ok (.goto (-133), 3) := by decide +kernel
theorem dX12_findsPlacements_160 : decode cX12_findsPlacements 160 = .ok (.iinc 1 1, 3) := by decide +kernel
theorem dX12_findsPlacements_163 : decode cX12_findsPlacements 163 = .ok (.goto (-156), 3) := by decide +kernel
theorem dX12_findsPlacements_166 : decode cX12_findsPlacements 166 = .ok (.return_, 1) := by decide +kernel
theorem dX12_placementsOf_0 : decode cX12_placementsOf 0 = .ok (.aload_n 0, 1) := by decide +kernel
theorem dX12_placementsOf_1 : decode cX12_placementsOf 1 = .ok (.invokevirtual 120, 3) := by decide +kernel
theorem dX12_placementsOf_4 : decode cX12_placementsOf 4 = .ok (.iconst 0, 1) := by decide +kernel
theorem dX12_placementsOf_5 : decode cX12_placementsOf 5 = .ok (.istore_n 2, 1) := by decide +kernel
theorem dX12_placementsOf_6 : decode cX12_placementsOf 6 = .ok (.iconst 0, 1) := by decide +kernel
theorem dX12_placementsOf_7 : decode cX12_placementsOf 7 = .ok (.istore_n 3, 1) := by decide +kernel
theorem dX12_placementsOf_8 : decode cX12_placementsOf 8 = .ok (.iload_n 3, 1) := by decide +kernel
theorem dX12_placementsOf_9 : decode cX12_placementsOf 9 = .ok (.aload_n 0, 1) := by decide +kernel
theorem dX12_placementsOf_10 : decode cX12_placementsOf 10 = .ok (.getfield 106, 3) := by decide +kernel
theorem dX12_placementsOf_13 : decode cX12_placementsOf 13 = .ok (.if_icmp .ge 27, 3) := by decide +kernel
theorem dX12_placementsOf_16 : decode cX12_placementsOf 16 = .ok (.iload_n 2, 1) := by decide +kernel
theorem dX12_placementsOf_17 : decode cX12_placementsOf 17 = .ok (.aload_n 0, 1) := by decide +kernel
theorem dX12_placementsOf_18 : decode cX12_placementsOf 18 = .ok (.getfield 23, 3) := by decide +kernel
theorem dX12_placementsOf_21 : decode cX12_placementsOf 21 = .ok (.iload_n 3, 1) := by decide +kernel
theorem dX12_placementsOf_22 : decode cX12_placementsOf 22 = .ok (.iaload, 1) := by decide +kernel
theorem dX12_placementsOf_23 : decode cX12_placementsOf 23 = .ok (.iload_n 1, 1) := by decide +kernel
theorem dX12_placementsOf_24 : decode cX12_placementsOf 24 = .ok (.if_icmp .ne 7, 3) := by decide +kernel
theorem dX12_placementsOf_27 : decode cX12_placementsOf 27 = .ok (.iconst 1, 1) := by decide +kernel
theorem dX12_placementsOf_28 : decode cX12_placementsOf 28 = .ok (.goto 4, 3) := by decide +kernel
theorem dX12_placementsOf_31 : decode cX12_placementsOf 31 = .ok (.iconst 0, 1) := by decide +kernel
theorem dX12_placementsOf_32 : decode cX12_placementsOf 32 = .ok (.iadd, 1) := by decide +kernel
theorem dX12_placementsOf_33 : decode cX12_placementsOf 33 = .ok (.istore_n 2, 1) := by decide +kernel
theorem dX12_placementsOf_34 : decode cX12_placementsOf 34 = .ok (.iinc 3 1, 3) := by decide +kernel
theorem dX12_placementsOf_37 : decode cX12_placementsOf 37 = .ok (.goto (-29), 3) := by decide +kernel
theorem dX12_placementsOf_40 : decode cX12_placementsOf 40 = .ok (.iload_n 2, 1) := by decide +kernel
theorem dX12_placementsOf_41 : decode cX12_placementsOf 41 = .ok (.ireturn, 1) := by decide +kernel
theorem dX12_has_0 : decode cX12_has 0 = .ok (.aload_n 0, 1) := by decide +kernel
theorem dX12_has_1 : decode cX12_has 1 = .ok (.getfield 32, 3) := by decide +kernel
theorem dX12_has_4 : decode cX12_has 4 = .ok (.iload_n 1, 1) := by decide +kernel
theorem dX12_has_5 : decode cX12_has 5 = .ok (.laload, 1) := by decide +kernel
theorem dX12_has_6 : decode cX12_has 6 = .ok (.iload_n 2, 1) := by decide +kernel
theorem dX12_has_7 : decode cX12_has 7 = .ok (.lshr, 1) := by decide +kernel
theorem dX12_has_8 : decode cX12_has 8 = .ok (.lconst 1, 1) := by decide +kernel
theorem dX12_has_9 : decode cX12_has 9 = .ok (.land, 1) := by decide +kernel
theorem dX12_has_10 : decode cX12_has 10 = .ok (.lconst 1, 1) := by decide +kernel
theorem dX12_has_11 : decode cX12_has 11 = .ok (.lcmp, 1) := by decide +kernel
theorem dX12_has_12 : decode cX12_has 12 = .ok (.ifCond .ne 7, 3) := by decide +kernel
theorem dX12_has_15 : decode cX12_has 15 = .ok (.iconst 1, 1) := by decide +kernel
theorem dX12_has_16 : decode cX12_has 16 = .ok (.goto 4, 3) := by decide +kernel
theorem dX12_has_19 : decode cX12_has 19 = .ok (.iconst 0, 1) := by decide +kernel
theorem dX12_has_20 : decode cX12_has 20 = .ok (.ireturn, 1) := by decide +kernel
theorem dX12_setBoard_0 : decode cX12_setBoard 0 = .ok (.iload_n 1, 1) := by decide +kernel
theorem dX12_setBoard_1 : decode cX12_setBoard 1 = .ok (.iconst 1, 1) := by decide +kernel
theorem dX12_setBoard_2 : decode cX12_setBoard 2 = .ok (.bipush 6, 2) := by decide +kernel
theorem dX12_setBoard_4 : decode cX12_setBoard 4 = .ok (.invokestatic 72, 3) := by decide +kernel
theorem dX12_setBoard_7 : decode cX12_setBoard 7 = .ok (.ifCond .eq 13, 3) := by decide +kernel
theorem dX12_setBoard_10 : decode cX12_setBoard 10 = .ok (.iload_n 2, 1) := by decide +kernel
theorem dX12_setBoard_11 : decode cX12_setBoard 11 = .ok (.iconst 1, 1) := by decide +kernel
theorem dX12_setBoard_12 : decode cX12_setBoard 12 = .ok (.bipush 6, 2) := by decide +kernel
theorem dX12_setBoard_14 : decode cX12_setBoard 14 = .ok (.invokestatic 72, 3) := by decide +kernel
theorem dX12_setBoard_17 : decode cX12_setBoard 17 = .ok (.ifCond .ne 5, 3) := by decide +kernel
theorem dX12_setBoard_20 : decode cX12_setBoard 20 = .ok (.iconst (-1), 1) := by decide +kernel
theorem dX12_setBoard_21 : decode cX12_setBoard 21 = .ok (.ireturn, 1) := by decide +kernel
theorem dX12_setBoard_22 : decode cX12_setBoard 22 = .ok (.aload_n 0, 1) := by decide +kernel
theorem dX12_setBoard_23 : decode cX12_setBoard 23 = .ok (.invokevirtual 123, 3) := by decide +kernel
theorem dX12_setBoard_26 : decode cX12_setBoard 26 = .ok (.aload_n 0, 1) := by decide +kernel
theorem dX12_setBoard_27 : decode cX12_setBoard 27 = .ok (.getfield 7, 3) := by decide +kernel
theorem dX12_setBoard_30 : decode cX12_setBoard 30 = .ok (.iconst 0, 1) := by decide +kernel
theorem dX12_setBoard_31 : decode cX12_setBoard 31 = .ok (.iload_n 1, 1) := by decide +kernel
theorem dX12_setBoard_32 : decode cX12_setBoard 32 = .ok (.iastore, 1) := by decide +kernel
theorem dX12_setBoard_33 : decode cX12_setBoard 33 = .ok (.aload_n 0, 1) := by decide +kernel
theorem dX12_setBoard_34 : decode cX12_setBoard 34 = .ok (.getfield 7, 3) := by decide +kernel
theorem dX12_setBoard_37 : decode cX12_setBoard 37 = .ok (.iconst 1, 1) := by decide +kernel
theorem dX12_setBoard_38 : decode cX12_setBoard 38 = .ok (.iload_n 2, 1) := by decide +kernel
theorem dX12_setBoard_39 : decode cX12_setBoard 39 = .ok (.iastore, 1) := by decide +kernel
theorem dX12_setBoard_40 : decode cX12_setBoard 40 = .ok (.iconst 0, 1) := by decide +kernel
theorem dX12_setBoard_41 : decode cX12_setBoard 41 = .ok (.istore_n 3, 1) := by decide +kernel
theorem dX12_setBoard_42 : decode cX12_setBoard 42 = .ok (.iload_n 3, 1) := by decide +kernel
theorem dX12_setBoard_43 : decode cX12_setBoard 43 = .ok (.bipush 36, 2) := by decide +kernel
theorem dX12_setBoard_45 : decode cX12_setBoard 45 = .ok (.if_icmp .ge 18, 3) := by decide +kernel
theorem dX12_setBoard_48 : decode cX12_setBoard 48 = .ok (.aload_n 0, 1) := by decide +kernel
theorem dX12_setBoard_49 : decode cX12_setBoard 49 = .ok (.getfield 7, 3) := by decide +kernel
theorem dX12_setBoard_52 : decode cX12_setBoard 52 = .ok (.iconst 5, 1) := by decide +kernel
theorem dX12_setBoard_53 : decode cX12_setBoard 53 = .ok (.iload_n 3, 1) := by decide +kernel
theorem dX12_setBoard_54 : decode cX12_setBoard 54 = .ok (.iadd, 1) := by decide +kernel
theorem dX12_setBoard_55 : decode cX12_setBoard 55 = .ok (.iconst 0, 1) := by decide +kernel
theorem dX12_setBoard_56 : decode cX12_setBoard 56 = .ok (.iastore, 1) := by decide +kernel
theorem dX12_setBoard_57 : decode cX12_setBoard 57 = .ok (.iinc 3 1, 3) := by decide +kernel
theorem dX12_setBoard_60 : decode cX12_setBoard 60 = .ok (.goto (-18), 3) := by decide +kernel
theorem dX12_setBoard_63 : decode cX12_setBoard 63 = .ok (.iload_n 1, 1) := by decide +kernel
theorem dX12_setBoard_64 : decode cX12_setBoard 64 = .ok (.iload_n 2, 1) := by decide +kernel
theorem dX12_setBoard_65 : decode cX12_setBoard 65 = .ok (.imul, 1) := by decide +kernel
theorem dX12_setBoard_66 : decode cX12_setBoard 66 = .ok (.ireturn, 1) := by decide +kernel
theorem dX12_setHole_0 : decode cX12_setHole 0 = .ok (.aload_n 0, 1) := by decide +kernel
theorem dX12_setHole_1 : decode cX12_setHole 1 = .ok (.iload_n 1, 1) := by decide +kernel
theorem dX12_setHole_2 : decode cX12_setHole 2 = .ok (.invokevirtual 126, 3) := by decide +kernel
theorem dX12_setHole_5 : decode cX12_setHole 5 = .ok (.ifCond .eq 12, 3) := by decide +kernel
theorem dX12_setHole_8 : decode cX12_setHole 8 = .ok (.iload_n 2, 1) := by decide +kernel
theorem dX12_setHole_9 : decode cX12_setHole 9 = .ok (.iconst 0, 1) := by decide +kernel
theorem dX12_setHole_10 : decode cX12_setHole 10 = .ok (.iconst 1, 1) := by decide +kernel
theorem dX12_setHole_11 : decode cX12_setHole 11 = .ok (.invokestatic 72, 3) := by decide +kernel
theorem dX12_setHole_14 : decode cX12_setHole 14 = .ok (.ifCond .ne 5, 3) := by decide +kernel
theorem dX12_setHole_17 : decode cX12_setHole 17 = .ok (.iconst (-1), 1) := by decide +kernel
theorem dX12_setHole_18 : decode cX12_setHole 18 = .ok (.ireturn, 1) := by decide +kernel
theorem dX12_setHole_19 : decode cX12_setHole 19 = .ok (.aload_n 0, 1) := by decide +kernel
theorem dX12_setHole_20 : decode cX12_setHole 20 = .ok (.iload_n 1, 1) := by decide +kernel
theorem dX12_setHole_21 : decode cX12_setHole 21 = .ok (.invokevirtual 76, 3) := by decide +kernel
theorem dX12_setHole_24 : decode cX12_setHole 24 = .ok (.iload_n 2, 1) := by decide +kernel
theorem dX12_setHole_25 : decode cX12_setHole 25 = .ok (.ifCond .ne 7, 3) := by decide +kernel
theorem dX12_setHole_28 : decode cX12_setHole 28 = .ok (.iconst 1, 1) := by decide +kernel
theorem dX12_setHole_29 : decode cX12_setHole 29 = .ok (.goto 4, 3) := by decide +kernel
theorem dX12_setHole_32 : decode cX12_setHole 32 = .ok (.iconst 0, 1) := by decide +kernel
theorem dX12_setHole_33 : decode cX12_setHole 33 = .ok (.if_icmp .ne 6, 3) := by decide +kernel
theorem dX12_setHole_36 : decode cX12_setHole 36 = .ok (.bipush (-2), 2) := by decide +kernel
theorem dX12_setHole_38 : decode cX12_setHole 38 = .ok (.ireturn, 1) := by decide +kernel
theorem dX12_setHole_39 : decode cX12_setHole 39 = .ok (.aload_n 0, 1) := by decide +kernel
theorem dX12_setHole_40 : decode cX12_setHole 40 = .ok (.invokevirtual 123, 3) := by decide +kernel
theorem dX12_setHole_43 : decode cX12_setHole 43 = .ok (.aload_n 0, 1) := by decide +kernel
theorem dX12_setHole_44 : decode cX12_setHole 44 = .ok (.getfield 7, 3) := by decide +kernel
theorem dX12_setHole_47 : decode cX12_setHole 47 = .ok (.iconst 5, 1) := by decide +kernel
theorem dX12_setHole_48 : decode cX12_setHole 48 = .ok (.iload_n 1, 1) := by decide +kernel
theorem dX12_setHole_49 : decode cX12_setHole 49 = .ok (.iadd, 1) := by decide +kernel
theorem dX12_setHole_50 : decode cX12_setHole 50 = .ok (.iload_n 2, 1) := by decide +kernel
theorem dX12_setHole_51 : decode cX12_setHole 51 = .ok (.iconst 1, 1) := by decide +kernel
theorem dX12_setHole_52 : decode cX12_setHole 52 = .ok (.if_icmp .ne 7, 3) := by decide +kernel
theorem dX12_setHole_55 : decode cX12_setHole 55 = .ok (.iconst (-1), 1) := by decide +kernel
theorem dX12_setHole_56 : decode cX12_setHole 56 = .ok (.goto 4, 3) := by decide +kernel
theorem dX12_setHole_59 : decode cX12_setHole 59 = .ok (.iconst 0, 1) := by decide +kernel
theorem dX12_setHole_60 : decode cX12_setHole 60 = .ok (.iastore, 1) := by decide +kernel
theorem dX12_setHole_61 : decode cX12_setHole 61 = .ok (.aload_n 0, 1) := by decide +kernel
theorem dX12_setHole_62 : decode cX12_setHole 62 = .ok (.invokevirtual 129, 3) := by decide +kernel
theorem dX12_setHole_65 : decode cX12_setHole 65 = .ok (.ireturn, 1) := by decide +kernel
theorem dX12_setColour_0 : decode cX12_setColour 0 = .ok (.aload_n 0, 1) := by decide +kernel
theorem dX12_setColour_1 : decode cX12_setColour 1 = .ok (.iload_n 1, 1) := by decide +kernel
theorem dX12_setColour_2 : decode cX12_setColour 2 = .ok (.invokevirtual 126, 3) := by decide +kernel
theorem dX12_setColour_5 : decode cX12_setColour 5 = .ok (.ifCond .eq 12, 3) := by decide +kernel
theorem dX12_setColour_8 : decode cX12_setColour 8 = .ok (.iload_n 2, 1) := by decide +kernel
theorem dX12_setColour_9 : decode cX12_setColour 9 = .ok (.iconst 0, 1) := by decide +kernel
theorem dX12_setColour_10 : decode cX12_setColour 10 = .ok (.iconst 3, 1) := by decide +kernel
theorem dX12_setColour_11 : decode cX12_setColour 11 = .ok (.invokestatic 72, 3) := by decide +kernel
theorem dX12_setColour_14 : decode cX12_setColour 14 = .ok (.ifCond .ne 5, 3) := by decide +kernel
theorem dX12_setColour_17 : decode cX12_setColour 17 = .ok (.iconst (-1), 1) := by decide +kernel
theorem dX12_setColour_18 : decode cX12_setColour 18 = .ok (.ireturn, 1) := by decide +kernel
theorem dX12_setColour_19 : decode cX12_setColour 19 = .ok (.aload_n 0, 1) := by decide +kernel
theorem dX12_setColour_20 : decode cX12_setColour 20 = .ok (.iload_n 1, 1) := by decide +kernel
theorem dX12_setColour_21 : decode cX12_setColour 21 = .ok (.invokevirtual 76, 3) := by decide +kernel
theorem dX12_setColour_24 : decode cX12_setColour 24 = .ok (.ifCond .ne 6, 3) := by decide +kernel
theorem dX12_setColour_27 : decode cX12_setColour 27 = .ok (.bipush (-2), 2) := by decide +kernel
theorem dX12_setColour_29 : decode cX12_setColour 29 = .ok (.ireturn, 1) := by decide +kernel
theorem dX12_setColour_30 : decode cX12_setColour 30 = .ok (.aload_n 0, 1) := by decide +kernel
theorem dX12_setColour_31 : decode cX12_setColour 31 = .ok (.invokevirtual 123, 3) := by decide +kernel
theorem dX12_setColour_34 : decode cX12_setColour 34 = .ok (.aload_n 0, 1) := by decide +kernel
theorem dX12_setColour_35 : decode cX12_setColour 35 = .ok (.getfield 7, 3) := by decide +kernel
theorem dX12_setColour_38 : decode cX12_setColour 38 = .ok (.iconst 5, 1) := by decide +kernel
theorem dX12_setColour_39 : decode cX12_setColour 39 = .ok (.iload_n 1, 1) := by decide +kernel
theorem dX12_setColour_40 : decode cX12_setColour 40 = .ok (.iadd, 1) := by decide +kernel
theorem dX12_setColour_41 : decode cX12_setColour 41 = .ok (.iaload, 1) := by decide +kernel
theorem dX12_setColour_42 : decode cX12_setColour 42 = .ok (.istore_n 3, 1) := by decide +kernel
theorem dX12_setColour_43 : decode cX12_setColour 43 = .ok (.aload_n 0, 1) := by decide +kernel
theorem dX12_setColour_44 : decode cX12_setColour 44 = .ok (.getfield 7, 3) := by decide +kernel
theorem dX12_setColour_47 : decode cX12_setColour 47 = .ok (.iconst 5, 1) := by decide +kernel
theorem dX12_setColour_48 : decode cX12_setColour 48 = .ok (.iload_n 1, 1) := by decide +kernel
theorem dX12_setColour_49 : decode cX12_setColour 49 = .ok (.iadd, 1) := by decide +kernel
theorem dX12_setColour_50 : decode cX12_setColour 50 = .ok (.iload_n 2, 1) := by decide +kernel
theorem dX12_setColour_51 : decode cX12_setColour 51 = .ok (.iastore, 1) := by decide +kernel
theorem dX12_setColour_52 : decode cX12_setColour 52 = .ok (.iload_n 3, 1) := by decide +kernel
theorem dX12_setColour_53 : decode cX12_setColour 53 = .ok (.ireturn, 1) := by decide +kernel
theorem dX12_adds_0 : decode cX12_adds 0 = .ok (.bipush 41, 2) := by decide +kernel
theorem dX12_adds_2 : decode cX12_adds 2 = .ok (.iconst 4, 1) := by decide +kernel
theorem dX12_adds_3 : decode cX12_adds 3 = .ok (.aload_n 0, 1) := by decide +kernel
theorem dX12_adds_4 : decode cX12_adds 4 = .ok (.getfield 7, 3) := by decide +kernel
theorem dX12_adds_7 : decode cX12_adds 7 = .ok (.iconst 4, 1) := by decide +kernel
theorem dX12_adds_8 : decode cX12_adds 8 = .ok (.iaload, 1) := by decide +kernel
theorem dX12_adds_9 : decode cX12_adds 9 = .ok (.imul, 1) := by decide +kernel
theorem dX12_adds_10 : decode cX12_adds 10 = .ok (.iadd, 1) := by decide +kernel
theorem dX12_adds_11 : decode cX12_adds 11 = .ok (.istore 5, 2) := by decide +kernel
theorem dX12_adds_13 : decode cX12_adds 13 = .ok (.aload_n 0, 1) := by decide +kernel
theorem dX12_adds_14 : decode cX12_adds 14 = .ok (.getfield 7, 3) := by decide +kernel
theorem dX12_adds_17 : decode cX12_adds 17 = .ok (.iload 5, 2) := by decide +kernel
theorem dX12_adds_19 : decode cX12_adds 19 = .ok (.iconst 0, 1) := by decide +kernel
theorem dX12_adds_20 : decode cX12_adds 20 = .ok (.iadd, 1) := by decide +kernel
theorem dX12_adds_21 : decode cX12_adds 21 = .ok (.iload_n 1, 1) := by decide +kernel
theorem dX12_adds_22 : decode cX12_adds 22 = .ok (.invokestatic 89, 3) := by decide +kernel
theorem dX12_adds_25 : decode cX12_adds 25 = .ok (.iastore, 1) := by decide +kernel
theorem dX12_adds_26 : decode cX12_adds 26 = .ok (.aload_n 0, 1) := by decide +kernel
theorem dX12_adds_27 : decode cX12_adds 27 = .ok (.getfield 7, 3) := by decide +kernel
theorem dX12_adds_30 : decode cX12_adds 30 = .ok (.iload 5, 2) := by decide +kernel
theorem dX12_adds_32 : decode cX12_adds 32 = .ok (.iconst 1, 1) := by decide +kernel
theorem dX12_adds_33 : decode cX12_adds 33 = .ok (.iadd, 1) := by decide +kernel
theorem dX12_adds_34 : decode cX12_adds 34 = .ok (.iload_n 2, 1) := by decide +kernel
theorem dX12_adds_35 : decode cX12_adds 35 = .ok (.iastore, 1) := by decide +kernel
theorem dX12_adds_36 : decode cX12_adds 36 = .ok (.aload_n 0, 1) := by decide +kernel
theorem dX12_adds_37 : decode cX12_adds 37 = .ok (.getfield 7, 3) := by decide +kernel
theorem dX12_adds_40 : decode cX12_adds 40 = .ok (.iload 5, 2) := by decide +kernel
theorem dX12_adds_42 : decode cX12_adds 42 = .ok (.iconst 2, 1) := by decide +kernel
theorem dX12_adds_43 : decode cX12_adds 43 = .ok (.iadd, 1) := by decide +kernel
theorem dX12_adds_44 : decode cX12_adds 44 = .ok (.iload_n 3, 1) := by decide +kernel
theorem dX12_adds_45 : decode cX12_adds 45 = .ok (.iastore, 1) := by decide +kernel
theorem dX12_adds_46 : decode cX12_adds 46 = .ok (.aload_n 0, 1) := by decide +kernel
theorem dX12_adds_47 : decode cX12_adds 47 = .ok (.getfield 7, 3) := by decide +kernel
theorem dX12_adds_50 : decode cX12_adds 50 = .ok (.iload 5, 2) := by decide +kernel
theorem dX12_adds_52 : decode cX12_adds 52 = .ok (.iconst 3, 1) := by decide +kernel
theorem dX12_adds_53 : decode cX12_adds 53 = .ok (.iadd, 1) := by decide +kernel
theorem dX12_adds_54 : decode cX12_adds 54 = .ok (.iload 4, 2) := by decide +kernel
theorem dX12_adds_56 : decode cX12_adds 56 = .ok (.iastore, 1) := by decide +kernel
theorem dX12_adds_57 : decode cX12_adds 57 = .ok (.aload_n 0, 1) := by decide +kernel
theorem dX12_adds_58 : decode cX12_adds 58 = .ok (.getfield 7, 3) := by decide +kernel
theorem dX12_adds_61 : decode cX12_adds 61 = .ok (.iconst 4, 1) := by decide +kernel
theorem dX12_adds_62 : decode cX12_adds 62 = .ok (.dup2, 1) := by decide +kernel
theorem dX12_adds_63 : decode cX12_adds 63 = .ok (.iaload, 1) := by decide +kernel
theorem dX12_adds_64 : decode cX12_adds 64 = .ok (.iconst 1, 1) := by decide +kernel
theorem dX12_adds_65 : decode cX12_adds 65 = .ok (.iadd, 1) := by decide +kernel
theorem dX12_adds_66 : decode cX12_adds 66 = .ok (.iastore, 1) := by decide +kernel
theorem dX12_adds_67 : decode cX12_adds 67 = .ok (.return_, 1) := by decide +kernel
theorem dX12_addPiece_0 : decode cX12_addPiece 0 = .ok (.iload_n 1, 1) := by decide +kernel
theorem dX12_addPiece_1 : decode cX12_addPiece 1 = .ok (.invokestatic 132, 3) := by decide +kernel
theorem dX12_addPiece_4 : decode cX12_addPiece 4 = .ok (.ifCond .eq 21, 3) := by decide +kernel
theorem dX12_addPiece_7 : decode cX12_addPiece 7 = .ok (.iload_n 2, 1) := by decide +kernel
theorem dX12_addPiece_8 : decode cX12_addPiece 8 = .ok (.iconst 0, 1) := by decide +kernel
theorem dX12_addPiece_9 : decode cX12_addPiece 9 = .ok (.iconst 2, 1) := by decide +kernel
theorem dX12_addPiece_10 : decode cX12_addPiece 10 = .ok (.invokestatic 72, 3) := by decide +kernel
theorem dX12_addPiece_13 : decode cX12_addPiece 13 = .ok (.ifCond .eq 12, 3) := by decide +kernel
theorem dX12_addPiece_16 : decode cX12_addPiece 16 = .ok (.iload_n 3, 1) := by decide +kernel
theorem dX12_addPiece_17 : decode cX12_addPiece 17 = .ok (.iconst 0, 1) := by decide +kernel
theorem dX12_addPiece_18 : decode cX12_addPiece 18 = .ok (.iconst 3, 1) := by decide +kernel
theorem dX12_addPiece_19 : decode cX12_addPiece 19 = .ok (.invokestatic 72, 3) := by decide +kernel
theorem dX12_addPiece_22 : decode cX12_addPiece 22 = .ok (.ifCond .ne 5, 3) := by decide +kernel
theorem dX12_addPiece_25 : decode cX12_addPiece 25 = .ok (.iconst (-1), 1) := by decide +kernel
theorem dX12_addPiece_26 : decode cX12_addPiece 26 = .ok (.ireturn, 1) := by decide +kernel
theorem dX12_addPiece_27 : decode cX12_addPiece 27 = .ok (.aload_n 0, 1) := by decide +kernel
theorem dX12_addPiece_28 : decode cX12_addPiece 28 = .ok (.getfield 7, 3) := by decide +kernel
theorem dX12_addPiece_31 : decode cX12_addPiece 31 = .ok (.iconst 4, 1) := by decide +kernel
theorem dX12_addPiece_32 : decode cX12_addPiece 32 = .ok (.iaload, 1) := by decide +kernel
theorem dX12_addPiece_33 : decode cX12_addPiece 33 = .ok (.bipush 8, 2) := by decide +kernel
theorem dX12_addPiece_35 : decode cX12_addPiece 35 = .ok (.if_icmp .ne 6, 3) := by decide +kernel
theorem dX12_addPiece_38 : decode cX12_addPiece 38 = .ok (.bipush (-3), 2) := by decide +kernel
theorem dX12_addPiece_40 : decode cX12_addPiece 40 = .ok (.ireturn, 1) := by decide +kernel
theorem dX12_addPiece_41 : decode cX12_addPiece 41 = .ok (.aload_n 0, 1) := by decide +kernel
theorem dX12_addPiece_42 : decode cX12_addPiece 42 = .ok (.invokevirtual 123, 3) := by decide +kernel
theorem dX12_addPiece_45 : decode cX12_addPiece 45 = .ok (.aload_n 0, 1) := by decide +kernel
theorem dX12_addPiece_46 : decode cX12_addPiece 46 = .ok (.iload_n 1, 1) := by decide +kernel
theorem dX12_addPiece_47 : decode cX12_addPiece 47 = .ok (.iload_n 2, 1) := by decide +kernel
theorem dX12_addPiece_48 : decode cX12_addPiece 48 = .ok (.iload_n 3, 1) := by decide +kernel
theorem dX12_addPiece_49 : decode cX12_addPiece 49 = .ok (.iconst 1, 1) := by decide +kernel
theorem dX12_addPiece_50 : decode cX12_addPiece 50 = .ok (.invokevirtual 135, 3) := by decide +kernel
theorem dX12_addPiece_53 : decode cX12_addPiece 53 = .ok (.aload_n 0, 1) := by decide +kernel
theorem dX12_addPiece_54 : decode cX12_addPiece 54 = .ok (.getfield 7, 3) := by decide +kernel
theorem dX12_addPiece_57 : decode cX12_addPiece 57 = .ok (.iconst 4, 1) := by decide +kernel
theorem dX12_addPiece_58 : decode cX12_addPiece 58 = .ok (.iaload, 1) := by decide +kernel
theorem dX12_addPiece_59 : decode cX12_addPiece 59 = .ok (.iconst 1, 1) := by decide +kernel
theorem dX12_addPiece_60 : decode cX12_addPiece 60 = .ok (.isub, 1) := by decide +kernel
theorem dX12_addPiece_61 : decode cX12_addPiece 61 = .ok (.ireturn, 1) := by decide +kernel
theorem dX12_removePiece_0 : decode cX12_removePiece 0 = .ok (.aload_n 0, 1) := by decide +kernel
theorem dX12_removePiece_1 : decode cX12_removePiece 1 = .ok (.iload_n 1, 1) := by decide +kernel
theorem dX12_removePiece_2 : decode cX12_removePiece 2 = .ok (.invokevirtual 139, 3) := by decide +kernel
theorem dX12_removePiece_5 : decode cX12_removePiece 5 = .ok (.ifCond .ne 5, 3) := by decide +kernel
theorem dX12_removePiece_8 : decode cX12_removePiece 8 = .ok (.iconst (-1), 1) := by decide +kernel
theorem dX12_removePiece_9 : decode cX12_removePiece 9 = .ok (.ireturn, 1) := by decide +kernel
theorem dX12_removePiece_10 : decode cX12_removePiece 10 = .ok (.aload_n 0, 1) := by decide +kernel
theorem dX12_removePiece_11 : decode cX12_removePiece 11 = .ok (.invokevirtual 123, 3) := by decide +kernel
theorem dX12_removePiece_14 : decode cX12_removePiece 14 = .ok (.aload_n 0, 1) := by decide +kernel
theorem dX12_removePiece_15 : decode cX12_removePiece 15 = .ok (.getfield 7, 3) := by decide +kernel
theorem dX12_removePiece_18 : decode cX12_removePiece 18 = .ok (.iconst 4, 1) := by decide +kernel
theorem dX12_removePiece_19 : decode cX12_removePiece 19 = .ok (.dup2, 1) := by decide +kernel
theorem dX12_removePiece_20 : decode cX12_removePiece 20 = .ok (.iaload, 1) := by decide +kernel
theorem dX12_removePiece_21 : decode cX12_removePiece 21 = .ok (.iconst 1, 1) := by decide +kernel
theorem dX12_removePiece_22 : decode cX12_removePiece 22 = .ok (.isub, 1) := by decide +kernel
theorem dX12_removePiece_23 : decode cX12_removePiece 23 = .ok (.iastore, 1) := by decide +kernel
theorem dX12_removePiece_24 : decode cX12_removePiece 24 = .ok (.bipush 41, 2) := by decide +kernel
theorem dX12_removePiece_26 : decode cX12_removePiece 26 = .ok (.iconst 4, 1) := by decide +kernel
theorem dX12_removePiece_27 : decode cX12_removePiece 27 = .ok (.iload_n 1, 1) := by decide +kernel
theorem dX12_removePiece_28 : decode cX12_removePiece 28 = .ok (.imul, 1) := by decide +kernel
theorem dX12_removePiece_29 : decode cX12_removePiece 29 = .ok (.iadd, 1) := by decide +kernel
theorem dX12_removePiece_30 : decode cX12_removePiece 30 = .ok (.istore_n 2, 1) := by decide +kernel
theorem dX12_removePiece_31 : decode cX12_removePiece 31 = .ok (.iload_n 2, 1) := by decide +kernel
theorem dX12_removePiece_32 : decode cX12_removePiece 32 = .ok (.bipush 41, 2) := by decide +kernel
theorem dX12_removePiece_34 : decode cX12_removePiece 34 = .ok (.iconst 4, 1) := by decide +kernel
theorem dX12_removePiece_35 : decode cX12_removePiece 35 = .ok (.aload_n 0, 1) := by decide +kernel
theorem dX12_removePiece_36 : decode cX12_removePiece 36 = .ok (.getfield 7, 3) := by decide +kernel
theorem dX12_removePiece_39 : decode cX12_removePiece 39 = .ok (.iconst 4, 1) := by decide +kernel
theorem dX12_removePiece_40 : decode cX12_removePiece 40 = .ok (.iaload, 1) := by decide +kernel
theorem dX12_removePiece_41 : decode cX12_removePiece 41 = .ok (.imul, 1) := by decide +kernel
theorem dX12_removePiece_42 : decode cX12_removePiece 42 = .ok (.iadd, 1) := by decide +kernel
theorem dX12_removePiece_43 : decode cX12_removePiece 43 = .ok (.if_icmp .ge 23, 3) := by decide +kernel
theorem dX12_removePiece_46 : decode cX12_removePiece 46 = .ok (.aload_n 0, 1) := by decide +kernel
theorem dX12_removePiece_47 : decode cX12_removePiece 47 = .ok (.getfield 7, 3) := by decide +kernel
theorem dX12_removePiece_50 : decode cX12_removePiece 50 = .ok (.iload_n 2, 1) := by decide +kernel
theorem dX12_removePiece_51 : decode cX12_removePiece 51 = .ok (.aload_n 0, 1) := by decide +kernel
theorem dX12_removePiece_52 : decode cX12_removePiece 52 = .ok (.getfield 7, 3) := by decide +kernel
theorem dX12_removePiece_55 : decode cX12_removePiece 55 = .ok (.iload_n 2, 1) := by decide +kernel
theorem dX12_removePiece_56 : decode cX12_removePiece 56 = .ok (.iconst 4, 1) := by decide +kernel
theorem dX12_removePiece_57 : decode cX12_removePiece 57 = .ok (.iadd, 1) := by decide +kernel
theorem dX12_removePiece_58 : decode cX12_removePiece 58 = .ok (.iaload, 1) := by decide +kernel
theorem dX12_removePiece_59 : decode cX12_removePiece 59 = .ok (.iastore, 1) := by decide +kernel
theorem dX12_removePiece_60 : decode cX12_removePiece 60 = .ok (.iinc 2 1, 3) := by decide +kernel
theorem dX12_removePiece_63 : decode cX12_removePiece 63 = .ok (.goto (-32), 3) := by decide +kernel
theorem dX12_removePiece_66 : decode cX12_removePiece 66 = .ok (.aload_n 0, 1) := by decide +kernel
theorem dX12_removePiece_67 : decode cX12_removePiece 67 = .ok (.getfield 7, 3) := by decide +kernel
theorem dX12_removePiece_70 : decode cX12_removePiece 70 = .ok (.iconst 4, 1) := by decide +kernel
theorem dX12_removePiece_71 : decode cX12_removePiece 71 = .ok (.iaload, 1) := by decide +kernel
theorem dX12_removePiece_72 : decode cX12_removePiece 72 = .ok (.ireturn, 1) := by decide +kernel
theorem dX12_sets_0 : decode cX12_sets 0 = .ok (.iload_n 3, 1) := by decide +kernel
theorem dX12_sets_1 : decode cX12_sets 1 = .ok (.ifCond .ne 5, 3) := by decide +kernel
theorem dX12_sets_4 : decode cX12_sets 4 = .ok (.iconst (-1), 1) := by decide +kernel
theorem dX12_sets_5 : decode cX12_sets 5 = .ok (.ireturn, 1) := by decide +kernel
theorem dX12_sets_6 : decode cX12_sets 6 = .ok (.aload_n 0, 1) := by decide +kernel
theorem dX12_sets_7 : decode cX12_sets 7 = .ok (.invokevirtual 123, 3) := by decide +kernel
theorem dX12_sets_10 : decode cX12_sets 10 = .ok (.aload_n 0, 1) := by decide +kernel
theorem dX12_sets_11 : decode cX12_sets 11 = .ok (.getfield 7, 3) := by decide +kernel
theorem dX12_sets_14 : decode cX12_sets 14 = .ok (.iload_n 1, 1) := by decide +kernel
theorem dX12_sets_15 : decode cX12_sets 15 = .ok (.iaload, 1) := by decide +kernel
theorem dX12_sets_16 : decode cX12_sets 16 = .ok (.istore 4, 2) := by decide +kernel
theorem dX12_sets_18 : decode cX12_sets 18 = .ok (.aload_n 0, 1) := by decide +kernel
theorem dX12_sets_19 : decode cX12_sets 19 = .ok (.getfield 7, 3) := by decide +kernel
theorem dX12_sets_22 : decode cX12_sets 22 = .ok (.iload_n 1, 1) := by decide +kernel
theorem dX12_sets_23 : decode cX12_sets 23 = .ok (.iload_n 2, 1) := by decide +kernel
theorem dX12_sets_24 : decode cX12_sets 24 = .ok (.iastore, 1) := by decide +kernel
theorem dX12_sets_25 : decode cX12_sets 25 = .ok (.iload 4, 2) := by decide +kernel
theorem dX12_sets_27 : decode cX12_sets 27 = .ok (.ireturn, 1) := by decide +kernel
theorem dX12_setCopies_0 : decode cX12_setCopies 0 = .ok (.aload_n 0, 1) := by decide +kernel
theorem dX12_setCopies_1 : decode cX12_setCopies 1 = .ok (.aload_n 0, 1) := by decide +kernel
theorem dX12_setCopies_2 : decode cX12_setCopies 2 = .ok (.iload_n 1, 1) := by decide +kernel
theorem dX12_setCopies_3 : decode cX12_setCopies 3 = .ok (.invokevirtual 139, 3) := by decide +kernel
theorem dX12_setCopies_6 : decode cX12_setCopies 6 = .ok (.ifCond .eq 14, 3) := by decide +kernel
theorem dX12_setCopies_9 : decode cX12_setCopies 9 = .ok (.bipush 41, 2) := by decide +kernel
theorem dX12_setCopies_11 : decode cX12_setCopies 11 = .ok (.iconst 4, 1) := by decide +kernel
theorem dX12_setCopies_12 : decode cX12_setCopies 12 = .ok (.iload_n 1, 1) := by decide +kernel
theorem dX12_setCopies_13 : decode cX12_setCopies 13 = .ok (.imul, 1) := by decide +kernel
theorem dX12_setCopies_14 : decode cX12_setCopies 14 = .ok (.iadd, 1) := by decide +kernel
theorem dX12_setCopies_15 : decode cX12_setCopies 15 = .ok (.iconst 3, 1) := by decide +kernel
theorem dX12_setCopies_16 : decode cX12_setCopies 16 = .ok (.iadd, 1) := by decide +kernel
theorem dX12_setCopies_17 : decode cX12_setCopies 17 = .ok (.goto 4, 3) := by decide +kernel
theorem dX12_setCopies_20 : decode cX12_setCopies 20 = .ok (.iconst 0, 1) := by decide +kernel
theorem dX12_setCopies_21 : decode cX12_setCopies 21 = .ok (.iload_n 2, 1) := by decide +kernel
theorem dX12_setCopies_22 : decode cX12_setCopies 22 = .ok (.aload_n 0, 1) := by decide +kernel
theorem dX12_setCopies_23 : decode cX12_setCopies 23 = .ok (.iload_n 1, 1) := by decide +kernel
theorem dX12_setCopies_24 : decode cX12_setCopies 24 = .ok (.invokevirtual 139, 3) := by decide +kernel
theorem dX12_setCopies_27 : decode cX12_setCopies 27 = .ok (.ifCond .eq 17, 3) := by decide +kernel
theorem dX12_setCopies_30 : decode cX12_setCopies 30 = .ok (.iload_n 2, 1) := by decide +kernel
theorem dX12_setCopies_31 : decode cX12_setCopies 31 = .ok (.iconst 1, 1) := by decide +kernel
theorem dX12_setCopies_32 : decode cX12_setCopies 32 = .ok (.bipush 9, 2) := by decide +kernel
theorem dX12_setCopies_34 : decode cX12_setCopies 34 = .ok (.invokestatic 72, 3) := by decide +kernel
theorem dX12_setCopies_37 : decode cX12_setCopies 37 = .ok (.ifCond .eq 7, 3) := by decide +kernel
theorem dX12_setCopies_40 : decode cX12_setCopies 40 = .ok (.iconst 1, 1) := by decide +kernel
theorem dX12_setCopies_41 : decode cX12_setCopies 41 = .ok (.goto 4, 3) := by decide +kernel
theorem dX12_setCopies_44 : decode cX12_setCopies 44 = .ok (.iconst 0, 1) := by decide +kernel
theorem dX12_setCopies_45 : decode cX12_setCopies 45 = .ok (.invokevirtual 142, 3) := by decide +kernel
theorem dX12_setCopies_48 : decode cX12_setCopies 48 = .ok (.ireturn, 1) := by decide +kernel
theorem dX12_setMode_0 : decode cX12_setMode 0 = .ok (.aload_n 0, 1) := by decide +kernel
theorem dX12_setMode_1 : decode cX12_setMode 1 = .ok (.iconst 2, 1) := by decide +kernel
theorem dX12_setMode_2 : decode cX12_setMode 2 = .ok (.iload_n 1, 1) := by decide +kernel
theorem dX12_setMode_3 : decode cX12_setMode 3 = .ok (.iload_n 1, 1) := by decide +kernel
theorem dX12_setMode_4 : decode cX12_setMode 4 = .ok (.iconst 0, 1) := by decide +kernel
theorem dX12_setMode_5 : decode cX12_setMode 5 = .ok (.iconst 1, 1) := by decide +kernel
theorem dX12_setMode_6 : decode cX12_setMode 6 = .ok (.invokestatic 72, 3) := by decide +kernel
theorem dX12_setMode_9 : decode cX12_setMode 9 = .ok (.invokevirtual 142, 3) := by decide +kernel
theorem dX12_setMode_12 : decode cX12_setMode 12 = .ok (.ireturn, 1) := by decide +kernel
theorem dX12_setRule_0 : decode cX12_setRule 0 = .ok (.aload_n 0, 1) := by decide +kernel
theorem dX12_setRule_1 : decode cX12_setRule 1 = .ok (.iconst 3, 1) := by decide +kernel
theorem dX12_setRule_2 : decode cX12_setRule 2 = .ok (.iload_n 1, 1) := by decide +kernel
theorem dX12_setRule_3 : decode cX12_setRule 3 = .ok (.iload_n 1, 1) := by decide +kernel
theorem dX12_setRule_4 : decode cX12_setRule 4 = .ok (.iconst 0, 1) := by decide +kernel
theorem dX12_setRule_5 : decode cX12_setRule 5 = .ok (.iconst 1, 1) := by decide +kernel
theorem dX12_setRule_6 : decode cX12_setRule 6 = .ok (.invokestatic 72, 3) := by decide +kernel
theorem dX12_setRule_9 : decode cX12_setRule 9 = .ok (.invokevirtual 142, 3) := by decide +kernel
theorem dX12_setRule_12 : decode cX12_setRule 12 = .ok (.ireturn, 1) := by decide +kernel
theorem dX12_count_0 : decode cX12_count 0 = .ok (.iconst 0, 1) := by decide +kernel
theorem dX12_count_1 : decode cX12_count 1 = .ok (.istore_n 2, 1) := by decide +kernel
theorem dX12_count_2 : decode cX12_count 2 = .ok (.iload_n 1, 1) := by decide +kernel
theorem dX12_count_3 : decode cX12_count 3 = .ok (.tableswitch 171 0 9 #[53, 53, 60, 65, 72, 79, 86, 125, 134, 166], 53) := by decide +kernel
theorem dX12_count_56 : decode cX12_count 56 = .ok (.aload_n 0, 1) := by decide +kernel
theorem dX12_count_57 : decode cX12_count 57 = .ok (.getfield 7, 3) := by decide +kernel
theorem dX12_count_60 : decode cX12_count 60 = .ok (.iload_n 1, 1) := by decide +kernel
theorem dX12_count_61 : decode cX12_count 61 = .ok (.iaload, 1) := by decide +kernel
theorem dX12_count_62 : decode cX12_count 62 = .ok (.ireturn, 1) := by decide +kernel
theorem dX12_count_63 : decode cX12_count 63 = .ok (.aload_n 0, 1) := by decide +kernel
theorem dX12_count_64 : decode cX12_count 64 = .ok (.invokevirtual 129, 3) := by decide +kernel
theorem dX12_count_67 : decode cX12_count 67 = .ok (.ireturn, 1) := by decide +kernel
theorem dX12_count_68 : decode cX12_count 68 = .ok (.aload_n 0, 1) := by decide +kernel
theorem dX12_count_69 : decode cX12_count 69 = .ok (.getfield 7, 3) := by decide +kernel
theorem dX12_count_72 : decode cX12_count 72 = .ok (.iconst 4, 1) := by decide +kernel
theorem dX12_count_73 : decode cX12_count 73 = .ok (.iaload, 1) := by decide +kernel
theorem dX12_count_74 : decode cX12_count 74 = .ok (.ireturn, 1) := by decide +kernel
theorem dX12_count_75 : decode cX12_count 75 = .ok (.aload_n 0, 1) := by decide +kernel
theorem dX12_count_76 : decode cX12_count 76 = .ok (.getfield 7, 3) := by decide +kernel
theorem dX12_count_79 : decode cX12_count 79 = .ok (.iconst 2, 1) := by decide +kernel
theorem dX12_count_80 : decode cX12_count 80 = .ok (.iaload, 1) := by decide +kernel
theorem dX12_count_81 : decode cX12_count 81 = .ok (.ireturn, 1) := by decide +kernel
theorem dX12_count_82 : decode cX12_count 82 = .ok (.aload_n 0, 1) := by decide +kernel
theorem dX12_count_83 : decode cX12_count 83 = .ok (.getfield 7, 3) := by decide +kernel
theorem dX12_count_86 : decode cX12_count 86 = .ok (.iconst 3, 1) := by decide +kernel
theorem dX12_count_87 : decode cX12_count 87 = .ok (.iaload, 1) := by decide +kernel
theorem dX12_count_88 : decode cX12_count 88 = .ok (.ireturn, 1) := by decide +kernel
theorem dX12_count_89 : decode cX12_count 89 = .ok (.iconst 0, 1) := by decide +kernel
theorem dX12_count_90 : decode cX12_count 90 = .ok (.istore_n 3, 1) := by decide +kernel
theorem dX12_count_91 : decode cX12_count 91 = .ok (.iload_n 3, 1) := by decide +kernel
theorem dX12_count_92 : decode cX12_count 92 = .ok (.aload_n 0, 1) := by decide +kernel
theorem dX12_count_93 : decode cX12_count 93 = .ok (.getfield 7, 3) := by decide +kernel
theorem dX12_count_96 : decode cX12_count 96 = .ok (.iconst 4, 1) := by decide +kernel
theorem dX12_count_97 : decode cX12_count 97 = .ok (.iaload, 1) := by decide +kernel
theorem dX12_count_98 : decode cX12_count 98 = .ok (.if_icmp .ge 28, 3) := by decide +kernel
theorem dX12_count_101 : decode cX12_count 101 = .ok (.iload_n 2, 1) := by decide +kernel
theorem dX12_count_102 : decode cX12_count 102 = .ok (.aload_n 0, 1) := by decide +kernel
theorem dX12_count_103 : decode cX12_count 103 = .ok (.iload_n 3, 1) := by decide +kernel
theorem dX12_count_104 : decode cX12_count 104 = .ok (.iconst 0, 1) := by decide +kernel
theorem dX12_count_105 : decode cX12_count 105 = .ok (.invokevirtual 95, 3) := by decide +kernel
theorem dX12_count_108 : decode cX12_count 108 = .ok (.invokestatic 82, 3) := by decide +kernel
theorem dX12_count_111 : decode cX12_count 111 = .ok (.aload_n 0, 1) := by decide +kernel
theorem dX12_count_112 : decode cX12_count 112 = .ok (.iload_n 3, 1) := by decide +kernel
theorem dX12_count_113 : decode cX12_count 113 = .ok (.iconst 3, 1) := by decide +kernel
theorem dX12_count_114 : decode cX12_count 114 = .ok (.invokevirtual 95, 3) := by decide +kernel
theorem dX12_count_117 : decode cX12_count 117 = .ok (.imul, 1) := by decide +kernel
theorem dX12_count_118 : decode cX12_count 118 = .ok (.iadd, 1) := by decide +kernel
theorem dX12_count_119 : decode cX12_count 119 = .ok (.istore_n 2, 1) := by decide +kernel
theorem dX12_count_120 : decode cX12_count 120 = .ok (.iinc 3 1, 3) := by decide +kernel
theorem dX12_count_123 : decode cX12_count 123 = .ok (.goto (-32), 3) := by decide +kernel
theorem dX12_count_126 : decode cX12_count 126 = .ok (.iload_n 2, 1) := by decide +kernel
theorem dX12_count_127 : decode cX12_count 127 = .ok (.ireturn, 1) := by decide +kernel
theorem dX12_count_128 : decode cX12_count 128 = .ok (.aload_n 0, 1) := by decide +kernel
theorem dX12_count_129 : decode cX12_count 129 = .ok (.invokevirtual 120, 3) := by decide +kernel
theorem dX12_count_132 : decode cX12_count 132 = .ok (.aload_n 0, 1) := by decide +kernel
theorem dX12_count_133 : decode cX12_count 133 = .ok (.getfield 106, 3) := by decide +kernel
theorem dX12_count_136 : decode cX12_count 136 = .ok (.ireturn, 1) := by decide +kernel
theorem dX12_count_137 : decode cX12_count 137 = .ok (.iconst 0, 1) := by decide +kernel
theorem dX12_count_138 : decode cX12_count 138 = .ok (.istore_n 3, 1) := by decide +kernel
theorem dX12_count_139 : decode cX12_count 139 = .ok (.iload_n 3, 1) := by decide +kernel
theorem dX12_count_140 : decode cX12_count 140 = .ok (.bipush 8, 2) := by decide +kernel
theorem dX12_count_142 : decode cX12_count 142 = .ok (.if_icmp .ge 25, 3) := by decide +kernel
theorem dX12_count_145 : decode cX12_count 145 = .ok (.iload_n 2, 1) := by decide +kernel
theorem dX12_count_146 : decode cX12_count 146 = .ok (.aload_n 0, 1) := by decide +kernel
theorem dX12_count_147 : decode cX12_count 147 = .ok (.iload_n 3, 1) := by decide +kernel
theorem dX12_count_148 : decode cX12_count 148 = .ok (.invokevirtual 146, 3) := by decide +kernel
theorem dX12_count_151 : decode cX12_count 151 = .ok (.ifCond .eq 7, 3) := by decide +kernel
theorem dX12_count_154 : decode cX12_count 154 = .ok (.iconst 1, 1) := by decide +kernel
theorem dX12_count_155 : decode cX12_count 155 = .ok (.goto 4, 3) := by decide +kernel
theorem dX12_count_158 : decode cX12_count 158 = .ok (.iconst 0, 1) := by decide +kernel
theorem dX12_count_159 : decode cX12_count 159 = .ok (.iadd, 1) := by decide +kernel
theorem dX12_count_160 : decode cX12_count 160 = .ok (.istore_n 2, 1) := by decide +kernel
theorem dX12_count_161 : decode cX12_count 161 = .ok (.iinc 3 1, 3) := by decide +kernel
theorem dX12_count_164 : decode cX12_count 164 = .ok (.goto (-25), 3) := by decide +kernel
theorem dX12_count_167 : decode cX12_count 167 = .ok (.iload_n 2, 1) := by decide +kernel
theorem dX12_count_168 : decode cX12_count 168 = .ok (.ireturn, 1) := by decide +kernel
theorem dX12_count_169 : decode cX12_count 169 = .ok (.aload_n 0, 1) := by decide +kernel
theorem dX12_count_170 : decode cX12_count 170 = .ok (.getfield 64, 3) := by decide +kernel
theorem dX12_count_173 : decode cX12_count 173 = .ok (.ireturn, 1) := by decide +kernel
theorem dX12_count_174 : decode cX12_count 174 = .ok (.iconst (-1), 1) := by decide +kernel
theorem dX12_count_175 : decode cX12_count 175 = .ok (.ireturn, 1) := by decide +kernel
theorem dX12_colour_0 : decode cX12_colour 0 = .ok (.aload_n 0, 1) := by decide +kernel
theorem dX12_colour_1 : decode cX12_colour 1 = .ok (.iload_n 1, 1) := by decide +kernel
theorem dX12_colour_2 : decode cX12_colour 2 = .ok (.invokevirtual 126, 3) := by decide +kernel
theorem dX12_colour_5 : decode cX12_colour 5 = .ok (.ifCond .ne 7, 3) := by decide +kernel
theorem dX12_colour_8 : decode cX12_colour 8 = .ok (.iconst (-1), 1) := by decide +kernel
theorem dX12_colour_9 : decode cX12_colour 9 = .ok (.goto 24, 3) := by decide +kernel
theorem dX12_colour_12 : decode cX12_colour 12 = .ok (.aload_n 0, 1) := by decide +kernel
theorem dX12_colour_13 : decode cX12_colour 13 = .ok (.iload_n 1, 1) := by decide +kernel
theorem dX12_colour_14 : decode cX12_colour 14 = .ok (.invokevirtual 76, 3) := by decide +kernel
theorem dX12_colour_17 : decode cX12_colour 17 = .ok (.ifCond .eq 14, 3) := by decide +kernel
theorem dX12_colour_20 : decode cX12_colour 20 = .ok (.aload_n 0, 1) := by decide +kernel
theorem dX12_colour_21 : decode cX12_colour 21 = .ok (.getfield 7, 3) := by decide +kernel
theorem dX12_colour_24 : decode cX12_colour 24 = .ok (.iconst 5, 1) := by decide +kernel
theorem dX12_colour_25 : decode cX12_colour 25 = .ok (.iload_n 1, 1) := by decide +kernel
theorem dX12_colour_26 : decode cX12_colour 26 = .ok (.iadd, 1) := by decide +kernel
theorem dX12_colour_27 : decode cX12_colour 27 = .ok (.iaload, 1) := by decide +kernel
theorem dX12_colour_28 : decode cX12_colour 28 = .ok (.goto 5, 3) := by decide +kernel
theorem dX12_colour_31 : decode cX12_colour 31 = .ok (.bipush (-9), 2) := by decide +kernel
theorem dX12_colour_33 : decode cX12_colour 33 = .ok (.ireturn, 1) := by decide +kernel
theorem dX12_piece_0 : decode cX12_piece 0 = .ok (.aload_n 0, 1) := by decide +kernel
theorem dX12_piece_1 : decode cX12_piece 1 = .ok (.iload_n 1, 1) := by decide +kernel
theorem dX12_piece_2 : decode cX12_piece 2 = .ok (.invokevirtual 139, 3) := by decide +kernel
theorem dX12_piece_5 : decode cX12_piece 5 = .ok (.ifCond .eq 13, 3) := by decide +kernel
theorem dX12_piece_8 : decode cX12_piece 8 = .ok (.iload_n 2, 1) := by decide +kernel
theorem dX12_piece_9 : decode cX12_piece 9 = .ok (.iconst 0, 1) := by decide +kernel
theorem dX12_piece_10 : decode cX12_piece 10 = .ok (.bipush 6, 2) := by decide +kernel
theorem dX12_piece_12 : decode cX12_piece 12 = .ok (.invokestatic 72, 3) := by decide +kernel
theorem dX12_piece_15 : decode cX12_piece 15 = .ok (.ifCond .ne 5, 3) := by decide +kernel
theorem dX12_piece_18 : decode cX12_piece 18 = .ok (.iconst (-1), 1) := by decide +kernel
theorem dX12_piece_19 : decode cX12_piece 19 = .ok (.ireturn, 1) := by decide +kernel
theorem dX12_piece_20 : decode cX12_piece 20 = .ok (.aload_n 0, 1) := by decide +kernel
theorem dX12_piece_21 : decode cX12_piece 21 = .ok (.iload_n 1, 1) := by decide +kernel
theorem dX12_piece_22 : decode cX12_piece 22 = .ok (.invokevirtual 109, 3) := by decide +kernel
theorem dX12_piece_25 : decode cX12_piece 25 = .ok (.iload_n 2, 1) := by decide +kernel
theorem dX12_piece_26 : decode cX12_piece 26 = .ok (.iconst 4, 1) := by decide +kernel
theorem dX12_piece_27 : decode cX12_piece 27 = .ok (.if_icmp .ne 15, 3) := by decide +kernel
theorem dX12_piece_30 : decode cX12_piece 30 = .ok (.aload_n 0, 1) := by decide +kernel
theorem dX12_piece_31 : decode cX12_piece 31 = .ok (.iload_n 1, 1) := by decide +kernel
theorem dX12_piece_32 : decode cX12_piece 32 = .ok (.iconst 0, 1) := by decide +kernel
theorem dX12_piece_33 : decode cX12_piece 33 = .ok (.invokevirtual 95, 3) := by decide +kernel
theorem dX12_piece_36 : decode cX12_piece 36 = .ok (.invokestatic 82, 3) := by decide +kernel
theorem dX12_piece_39 : decode cX12_piece 39 = .ok (.goto 7, 3) := by decide +kernel
theorem dX12_piece_42 : decode cX12_piece 42 = .ok (.aload_n 0, 1) := by decide +kernel
theorem dX12_piece_43 : decode cX12_piece 43 = .ok (.getfield 92, 3) := by decide +kernel
theorem dX12_piece_46 : decode cX12_piece 46 = .ok (.istore_n 3, 1) := by decide +kernel
theorem dX12_piece_47 : decode cX12_piece 47 = .ok (.iload_n 2, 1) := by decide +kernel
theorem dX12_piece_48 : decode cX12_piece 48 = .ok (.iconst 4, 1) := by decide +kernel
theorem dX12_piece_49 : decode cX12_piece 49 = .ok (.if_icmp .ge 12, 3) := by decide +kernel
theorem dX12_piece_52 : decode cX12_piece 52 = .ok (.aload_n 0, 1) := by decide +kernel
theorem dX12_piece_53 : decode cX12_piece 53 = .ok (.iload_n 1, 1) := by decide +kernel
theorem dX12_piece_54 : decode cX12_piece 54 = .ok (.iload_n 2, 1) := by decide +kernel
theorem dX12_piece_55 : decode cX12_piece 55 = .ok (.invokevirtual 95, 3) := by decide +kernel
theorem dX12_piece_58 : decode cX12_piece 58 = .ok (.goto 18, 3) := by decide +kernel
theorem dX12_piece_61 : decode cX12_piece 61 = .ok (.iload_n 2, 1) := by decide +kernel
theorem dX12_piece_62 : decode cX12_piece 62 = .ok (.bipush 6, 2) := by decide +kernel
theorem dX12_piece_64 : decode cX12_piece 64 = .ok (.if_icmp .ge 7, 3) := by decide +kernel
theorem dX12_piece_67 : decode cX12_piece 67 = .ok (.iload_n 3, 1) := by decide +kernel
theorem dX12_piece_68 : decode cX12_piece 68 = .ok (.goto 8, 3) := by decide +kernel
theorem dX12_piece_71 : decode cX12_piece 71 = .ok (.aload_n 0, 1) := by decide +kernel
theorem dX12_piece_72 : decode cX12_piece 72 = .ok (.iload_n 1, 1) := by decide +kernel
theorem dX12_piece_73 : decode cX12_piece 73 = .ok (.invokevirtual 149, 3) := by decide +kernel
theorem dX12_piece_76 : decode cX12_piece 76 = .ok (.ireturn, 1) := by decide +kernel
theorem dX12_form_0 : decode cX12_form 0 = .ok (.aload_n 0, 1) := by decide +kernel
theorem dX12_form_1 : decode cX12_form 1 = .ok (.iload_n 1, 1) := by decide +kernel
theorem dX12_form_2 : decode cX12_form 2 = .ok (.invokevirtual 139, 3) := by decide +kernel
theorem dX12_form_5 : decode cX12_form 5 = .ok (.ifCond .eq 7, 3) := by decide +kernel
theorem dX12_form_8 : decode cX12_form 8 = .ok (.iload_n 2, 1) := by decide +kernel
theorem dX12_form_9 : decode cX12_form 9 = .ok (.ifCond .ge 5, 3) := by decide +kernel
theorem dX12_form_12 : decode cX12_form 12 = .ok (.iconst (-1), 1) := by decide +kernel
theorem dX12_form_13 : decode cX12_form 13 = .ok (.ireturn, 1) := by decide +kernel
theorem dX12_form_14 : decode cX12_form 14 = .ok (.aload_n 0, 1) := by decide +kernel
theorem dX12_form_15 : decode cX12_form 15 = .ok (.iload_n 1, 1) := by decide +kernel
theorem dX12_form_16 : decode cX12_form 16 = .ok (.invokevirtual 109, 3) := by decide +kernel
theorem dX12_form_19 : decode cX12_form 19 = .ok (.iload_n 2, 1) := by decide +kernel
theorem dX12_form_20 : decode cX12_form 20 = .ok (.aload_n 0, 1) := by decide +kernel
theorem dX12_form_21 : decode cX12_form 21 = .ok (.getfield 92, 3) := by decide +kernel
theorem dX12_form_24 : decode cX12_form 24 = .ok (.if_icmp .ge 12, 3) := by decide +kernel
theorem dX12_form_27 : decode cX12_form 27 = .ok (.aload_n 0, 1) := by decide +kernel
theorem dX12_form_28 : decode cX12_form 28 = .ok (.getfield 20, 3) := by decide +kernel
theorem dX12_form_31 : decode cX12_form 31 = .ok (.iload_n 2, 1) := by decide +kernel
theorem dX12_form_32 : decode cX12_form 32 = .ok (.iaload, 1) := by decide +kernel
theorem dX12_form_33 : decode cX12_form 33 = .ok (.goto 5, 3) := by decide +kernel
theorem dX12_form_36 : decode cX12_form 36 = .ok (.bipush (-9), 2) := by decide +kernel
theorem dX12_form_38 : decode cX12_form 38 = .ok (.ireturn, 1) := by decide +kernel
theorem dX12_placement_0 : decode cX12_placement 0 = .ok (.iload_n 1, 1) := by decide +kernel
theorem dX12_placement_1 : decode cX12_placement 1 = .ok (.ifCond .lt 12, 3) := by decide +kernel
theorem dX12_placement_4 : decode cX12_placement 4 = .ok (.iload_n 2, 1) := by decide +kernel
theorem dX12_placement_5 : decode cX12_placement 5 = .ok (.iconst 0, 1) := by decide +kernel
theorem dX12_placement_6 : decode cX12_placement 6 = .ok (.iconst 4, 1) := by decide +kernel
theorem dX12_placement_7 : decode cX12_placement 7 = .ok (.invokestatic 72, 3) := by decide +kernel
theorem dX12_placement_10 : decode cX12_placement 10 = .ok (.ifCond .ne 5, 3) := by decide +kernel
theorem dX12_placement_13 : decode cX12_placement 13 = .ok (.iconst (-1), 1) := by decide +kernel
theorem dX12_placement_14 : decode cX12_placement 14 = .ok (.ireturn, 1) := by decide +kernel
theorem dX12_placement_15 : decode cX12_placement 15 = .ok (.aload_n 0, 1) := by decide +kernel
theorem dX12_placement_16 : decode cX12_placement 16 = .ok (.invokevirtual 120, 3) := by decide +kernel
theorem dX12_placement_19 : decode cX12_placement 19 = .ok (.iload_n 1, 1) := by decide +kernel
theorem dX12_placement_20 : decode cX12_placement 20 = .ok (.aload_n 0, 1) := by decide +kernel
theorem dX12_placement_21 : decode cX12_placement 21 = .ok (.getfield 106, 3) := by decide +kernel
theorem dX12_placement_24 : decode cX12_placement 24 = .ok (.if_icmp .lt 6, 3) := by decide +kernel
theorem dX12_placement_27 : decode cX12_placement 27 = .ok (.bipush (-9), 2) := by decide +kernel
theorem dX12_placement_29 : decode cX12_placement 29 = .ok (.ireturn, 1) := by decide +kernel
theorem dX12_placement_30 : decode cX12_placement 30 = .ok (.aload_n 0, 1) := by decide +kernel
theorem dX12_placement_31 : decode cX12_placement 31 = .ok (.getfield 36, 3) := by decide +kernel
theorem dX12_placement_34 : decode cX12_placement 34 = .ok (.iload_n 1, 1) := by decide +kernel
theorem dX12_placement_35 : decode cX12_placement 35 = .ok (.iaload, 1) := by decide +kernel
theorem dX12_placement_36 : decode cX12_placement 36 = .ok (.istore_n 3, 1) := by decide +kernel
theorem dX12_placement_37 : decode cX12_placement 37 = .ok (.iconst 0, 1) := by decide +kernel
theorem dX12_placement_38 : decode cX12_placement 38 = .ok (.istore 4, 2) := by decide +kernel
theorem dX12_placement_40 : decode cX12_placement 40 = .ok (.iload 4, 2) := by decide +kernel
theorem dX12_placement_42 : decode cX12_placement 42 = .ok (.aload_n 0, 1) := by decide +kernel
theorem dX12_placement_43 : decode cX12_placement 43 = .ok (.invokevirtual 68, 3) := by decide +kernel
theorem dX12_placement_46 : decode cX12_placement 46 = .ok (.if_icmp .ge 26, 3) := by decide +kernel
theorem dX12_placement_49 : decode cX12_placement 49 = .ok (.aload_n 0, 1) := by decide +kernel
theorem dX12_placement_50 : decode cX12_placement 50 = .ok (.iload_n 1, 1) := by decide +kernel
theorem dX12_placement_51 : decode cX12_placement 51 = .ok (.iload 4, 2) := by decide +kernel
theorem dX12_placement_53 : decode cX12_placement 53 = .ok (.invokevirtual 152, 3) := by decide +kernel
theorem dX12_placement_56 : decode cX12_placement 56 = .ok (.ifCond .eq 8, 3) := by decide +kernel
theorem dX12_placement_59 : decode cX12_placement 59 = .ok (.iload 4, 2) := by decide +kernel
theorem dX12_placement_61 : decode cX12_placement 61 = .ok (.goto 4, 3) := by decide +kernel
theorem dX12_placement_64 : decode cX12_placement 64 = .ok (.iload_n 3, 1) := by decide +kernel
theorem dX12_placement_65 : decode cX12_placement 65 = .ok (.istore_n 3, 1) := by decide +kernel
theorem dX12_placement_66 : decode cX12_placement 66 = .ok (.iinc 4 1, 3) := by decide +kernel
theorem dX12_placement_69 : decode cX12_placement 69 = .ok (.goto (-29), 3) := by decide +kernel
theorem dX12_placement_72 : decode cX12_placement 72 = .ok (.iload_n 2, 1) := by decide +kernel
theorem dX12_placement_73 : decode cX12_placement 73 = .ok (.tableswitch 59 0 3 #[31, 38, 45, 52], 31) := by decide +kernel
theorem dX12_placement_104 : decode cX12_placement 104 = .ok (.aload_n 0, 1) := by decide +kernel
theorem dX12_placement_105 : decode cX12_placement 105 = .ok (.getfield 23, 3) := by decide +kernel
theorem dX12_placement_108 : decode cX12_placement 108 = .ok (.iload_n 1, 1) := by decide +kernel
theorem dX12_placement_109 : decode cX12_placement 109 = .ok (.iaload, 1) := by decide +kernel
theorem dX12_placement_110 : decode cX12_placement 110 = .ok (.ireturn, 1) := by decide +kernel
theorem dX12_placement_111 : decode cX12_placement 111 = .ok (.aload_n 0, 1) := by decide +kernel
theorem dX12_placement_112 : decode cX12_placement 112 = .ok (.getfield 26, 3) := by decide +kernel
theorem dX12_placement_115 : decode cX12_placement 115 = .ok (.iload_n 1, 1) := by decide +kernel
theorem dX12_placement_116 : decode cX12_placement 116 = .ok (.iaload, 1) := by decide +kernel
theorem dX12_placement_117 : decode cX12_placement 117 = .ok (.ireturn, 1) := by decide +kernel
theorem dX12_placement_118 : decode cX12_placement 118 = .ok (.aload_n 0, 1) := by decide +kernel
theorem dX12_placement_119 : decode cX12_placement 119 = .ok (.getfield 29, 3) := by decide +kernel
theorem dX12_placement_122 : decode cX12_placement 122 = .ok (.iload_n 1, 1) := by decide +kernel
theorem dX12_placement_123 : decode cX12_placement 123 = .ok (.iaload, 1) := by decide +kernel
theorem dX12_placement_124 : decode cX12_placement 124 = .ok (.ireturn, 1) := by decide +kernel
theorem dX12_placement_125 : decode cX12_placement 125 = .ok (.aload_n 0, 1) := by decide +kernel
theorem dX12_placement_126 : decode cX12_placement 126 = .ok (.getfield 36, 3) := by decide +kernel
theorem dX12_placement_129 : decode cX12_placement 129 = .ok (.iload_n 1, 1) := by decide +kernel
theorem dX12_placement_130 : decode cX12_placement 130 = .ok (.iaload, 1) := by decide +kernel
theorem dX12_placement_131 : decode cX12_placement 131 = .ok (.ireturn, 1) := by decide +kernel
theorem dX12_placement_132 : decode cX12_placement 132 = .ok (.iload_n 3, 1) := by decide +kernel
theorem dX12_placement_133 : decode cX12_placement 133 = .ok (.ireturn, 1) := by decide +kernel
theorem dX12_appendCharacter_0 : decode cX12_appendCharacter 0 = .ok (.iload_n 1, 1) := by decide +kernel
theorem dX12_appendCharacter_1 : decode cX12_appendCharacter 1 = .ok (.iconst 0, 1) := by decide +kernel
theorem dX12_appendCharacter_2 : decode cX12_appendCharacter 2 = .ok (.sipush 255, 3) := by decide +kernel
theorem dX12_appendCharacter_5 : decode cX12_appendCharacter 5 = .ok (.invokestatic 72, 3) := by decide +kernel
theorem dX12_appendCharacter_8 : decode cX12_appendCharacter 8 = .ok (.ifCond .ne 5, 3) := by decide +kernel
theorem dX12_appendCharacter_11 : decode cX12_appendCharacter 11 = .ok (.iconst (-1), 1) := by decide +kernel
theorem dX12_appendCharacter_12 : decode cX12_appendCharacter 12 = .ok (.ireturn, 1) := by decide +kernel
theorem dX12_appendCharacter_13 : decode cX12_appendCharacter 13 = .ok (.aload_n 0, 1) := by decide +kernel
theorem dX12_appendCharacter_14 : decode cX12_appendCharacter 14 = .ok (.getfield 156, 3) := by decide +kernel
theorem dX12_appendCharacter_17 : decode cX12_appendCharacter 17 = .ok (.sipush 160, 3) := by decide +kernel
theorem dX12_appendCharacter_20 : decode cX12_appendCharacter 20 = .ok (.if_icmp .ne 6, 3) := by decide +kernel
theorem dX12_appendCharacter_23 : decode cX12_appendCharacter 23 = .ok (.bipush (-3), 2) := by decide +kernel
theorem dX12_appendCharacter_25 : decode cX12_appendCharacter 25 = .ok (.ireturn, 1) := by decide +kernel
theorem dX12_appendCharacter_26 : decode cX12_appendCharacter 26 = .ok (.aload_n 0, 1) := by decide +kernel
theorem dX12_appendCharacter_27 : decode cX12_appendCharacter 27 = .ok (.getfield 16, 3) := by decide +kernel
theorem dX12_appendCharacter_30 : decode cX12_appendCharacter 30 = .ok (.aload_n 0, 1) := by decide +kernel
theorem dX12_appendCharacter_31 : decode cX12_appendCharacter 31 = .ok (.getfield 156, 3) := by decide +kernel
theorem dX12_appendCharacter_34 : decode cX12_appendCharacter 34 = .ok (.iload_n 1, 1) := by decide +kernel
theorem dX12_appendCharacter_35 : decode cX12_appendCharacter 35 = .ok (.i2b, 1) := by decide +kernel
theorem dX12_appendCharacter_36 : decode cX12_appendCharacter 36 = .ok (.bastore, 1) := by decide +kernel
theorem dX12_appendCharacter_37 : decode cX12_appendCharacter 37 = .ok (.aload_n 0, 1) := by decide +kernel
theorem dX12_appendCharacter_38 : decode cX12_appendCharacter 38 = .ok (.dup, 1) := by decide +kernel
theorem dX12_appendCharacter_39 : decode cX12_appendCharacter 39 = .ok (.getfield 156, 3) := by decide +kernel
theorem dX12_appendCharacter_42 : decode cX12_appendCharacter 42 = .ok (.iconst 1, 1) := by decide +kernel
theorem dX12_appendCharacter_43 : decode cX12_appendCharacter 43 = .ok (.iadd, 1) := by decide +kernel
theorem dX12_appendCharacter_44 : decode cX12_appendCharacter 44 = .ok (.putfield 156, 3) := by decide +kernel
theorem dX12_appendCharacter_47 : decode cX12_appendCharacter 47 = .ok (.aload_n 0, 1) := by decide +kernel
theorem dX12_appendCharacter_48 : decode cX12_appendCharacter 48 = .ok (.getfield 156, 3) := by decide +kernel
theorem dX12_appendCharacter_51 : decode cX12_appendCharacter 51 = .ok (.ireturn, 1) := by decide +kernel
theorem dX12_clearText_0 : decode cX12_clearText 0 = .ok (.aload_n 0, 1) := by decide +kernel
theorem dX12_clearText_1 : decode cX12_clearText 1 = .ok (.getfield 156, 3) := by decide +kernel
theorem dX12_clearText_4 : decode cX12_clearText 4 = .ok (.istore_n 1, 1) := by decide +kernel
theorem dX12_clearText_5 : decode cX12_clearText 5 = .ok (.aload_n 0, 1) := by decide +kernel
theorem dX12_clearText_6 : decode cX12_clearText 6 = .ok (.iconst 0, 1) := by decide +kernel
theorem dX12_clearText_7 : decode cX12_clearText 7 = .ok (.putfield 156, 3) := by decide +kernel
theorem dX12_clearText_10 : decode cX12_clearText 10 = .ok (.iload_n 1, 1) := by decide +kernel
theorem dX12_clearText_11 : decode cX12_clearText 11 = .ok (.ireturn, 1) := by decide +kernel
theorem dX12_here_0 : decode cX12_here 0 = .ok (.aload_n 0, 1) := by decide +kernel
theorem dX12_here_1 : decode cX12_here 1 = .ok (.getfield 159, 3) := by decide +kernel
theorem dX12_here_4 : decode cX12_here 4 = .ok (.aload_n 0, 1) := by decide +kernel
theorem dX12_here_5 : decode cX12_here 5 = .ok (.getfield 156, 3) := by decide +kernel
theorem dX12_here_8 : decode cX12_here 8 = .ok (.if_icmp .ge 19, 3) := by decide +kernel
theorem dX12_here_11 : decode cX12_here 11 = .ok (.aload_n 0, 1) := by decide +kernel
theorem dX12_here_12 : decode cX12_here 12 = .ok (.getfield 16, 3) := by decide +kernel
theorem dX12_here_15 : decode cX12_here 15 = .ok (.aload_n 0, 1) := by decide +kernel
theorem dX12_here_16 : decode cX12_here 16 = .ok (.getfield 159, 3) := by decide +kernel
theorem dX12_here_19 : decode cX12_here 19 = .ok (.baload, 1) := by decide +kernel
theorem dX12_here_20 : decode cX12_here 20 = .ok (.sipush 255, 3) := by decide +kernel
theorem dX12_here_23 : decode cX12_here 23 = .ok (.iand, 1) := by decide +kernel
theorem dX12_here_24 : decode cX12_here 24 = .ok (.goto 4, 3) := by decide +kernel
theorem dX12_here_27 : decode cX12_here 27 = .ok (.iconst (-1), 1) := by decide +kernel
theorem dX12_here_28 : decode cX12_here 28 = .ok (.ireturn, 1) := by decide +kernel
theorem dX12_isInRow_0 : decode cX12_isInRow 0 = .ok (.iload_n 2, 1) := by decide +kernel
theorem dX12_isInRow_1 : decode cX12_isInRow 1 = .ok (.ifCond .eq 34, 3) := by decide +kernel
theorem dX12_isInRow_4 : decode cX12_isInRow 4 = .ok (.iload_n 1, 1) := by decide +kernel
theorem dX12_isInRow_5 : decode cX12_isInRow 5 = .ok (.bipush 46, 2) := by decide +kernel
theorem dX12_isInRow_7 : decode cX12_isInRow 7 = .ok (.if_icmp .eq 20, 3) := by decide +kernel
theorem dX12_isInRow_10 : decode cX12_isInRow 10 = .ok (.iload_n 1, 1) := by decide +kernel
theorem dX12_isInRow_11 : decode cX12_isInRow 11 = .ok (.bipush 35, 2) := by decide +kernel
theorem dX12_isInRow_13 : decode cX12_isInRow 13 = .ok (.if_icmp .eq 14, 3) := by decide +kernel
theorem dX12_isInRow_16 : decode cX12_isInRow 16 = .ok (.iload_n 1, 1) := by decide +kernel
theorem dX12_isInRow_17 : decode cX12_isInRow 17 = .ok (.bipush 49, 2) := by decide +kernel
theorem dX12_isInRow_19 : decode cX12_isInRow 19 = .ok (.bipush 51, 2) := by decide +kernel
theorem dX12_isInRow_21 : decode cX12_isInRow 21 = .ok (.invokestatic 72, 3) := by decide +kernel
theorem dX12_isInRow_24 : decode cX12_isInRow 24 = .ok (.ifCond .eq 7, 3) := by decide +kernel
theorem dX12_isInRow_27 : decode cX12_isInRow 27 = .ok (.iconst 1, 1) := by decide +kernel
theorem dX12_isInRow_28 : decode cX12_isInRow 28 = .ok (.goto 24, 3) := by decide +kernel
theorem dX12_isInRow_31 : decode cX12_isInRow 31 = .ok (.iconst 0, 1) := by decide +kernel
theorem dX12_isInRow_32 : decode cX12_isInRow 32 = .ok (.goto 20, 3) := by decide +kernel
theorem dX12_isInRow_35 : decode cX12_isInRow 35 = .ok (.iload_n 1, 1) := by decide +kernel
theorem dX12_isInRow_36 : decode cX12_isInRow 36 = .ok (.bipush 111, 2) := by decide +kernel
theorem dX12_isInRow_38 : decode cX12_isInRow 38 = .ok (.if_icmp .eq 9, 3) := by decide +kernel
theorem dX12_isInRow_41 : decode cX12_isInRow 41 = .ok (.iload_n 1, 1) := by decide +kernel
theorem dX12_isInRow_42 : decode cX12_isInRow 42 = .ok (.bipush 46, 2) := by decide +kernel
theorem dX12_isInRow_44 : decode cX12_isInRow 44 = .ok (.if_icmp .ne 7, 3) := by decide +kernel
theorem dX12_isInRow_47 : decode cX12_isInRow 47 = .ok (.iconst 1, 1) := by decide +kernel
theorem dX12_isInRow_48 : decode cX12_isInRow 48 = .ok (.goto 4, 3) := by decide +kernel
theorem dX12_isInRow_51 : decode cX12_isInRow 51 = .ok (.iconst 0, 1) := by decide +kernel
theorem dX12_isInRow_52 : decode cX12_isInRow 52 = .ok (.istore_n 3, 1) := by decide +kernel
theorem dX12_isInRow_53 : decode cX12_isInRow 53 = .ok (.iload_n 3, 1) := by decide +kernel
theorem dX12_isInRow_54 : decode cX12_isInRow 54 = .ok (.ifCond .eq 63, 3) := by decide +kernel
theorem dX12_isInRow_57 : decode cX12_isInRow 57 = .ok (.iload_n 2, 1) := by decide +kernel
theorem dX12_isInRow_58 : decode cX12_isInRow 58 = .ok (.ifCond .eq 59, 3) := by decide +kernel
theorem dX12_isInRow_61 : decode cX12_isInRow 61 = .ok (.bipush 6, 2) := by decide +kernel
theorem dX12_isInRow_63 : decode cX12_isInRow 63 = .ok (.aload_n 0, 1) := by decide +kernel
theorem dX12_isInRow_64 : decode cX12_isInRow 64 = .ok (.getfield 162, 3) := by decide +kernel
theorem dX12_isInRow_67 : decode cX12_isInRow 67 = .ok (.imul, 1) := by decide +kernel
theorem dX12_isInRow_68 : decode cX12_isInRow 68 = .ok (.aload_n 0, 1) := by decide +kernel
theorem dX12_isInRow_69 : decode cX12_isInRow 69 = .ok (.getfield 165, 3) := by decide +kernel
theorem dX12_isInRow_72 : decode cX12_isInRow 72 = .ok (.iadd, 1) := by decide +kernel
theorem dX12_isInRow_73 : decode cX12_isInRow 73 = .ok (.istore 4, 2) := by decide +kernel
theorem dX12_isInRow_75 : decode cX12_isInRow 75 = .ok (.aload_n 0, 1) := by decide +kernel
theorem dX12_isInRow_76 : decode cX12_isInRow 76 = .ok (.getfield 42, 3) := by decide +kernel
theorem dX12_isInRow_79 : decode cX12_isInRow 79 = .ok (.iload 4, 2) := by decide +kernel
theorem dX12_isInRow_81 : decode cX12_isInRow 81 = .ok (.bipush 36, 2) := by decide +kernel
theorem dX12_isInRow_83 : decode cX12_isInRow 83 = .ok (.if_icmp .ge 8, 3) := by decide +kernel
theorem dX12_isInRow_86 : decode cX12_isInRow 86 = .ok (.iload 4, 2) := by decide +kernel
theorem dX12_isInRow_88 : decode cX12_isInRow 88 = .ok (.goto 4, 3) := by decide +kernel
theorem dX12_isInRow_91 : decode cX12_isInRow 91 = .ok (.iconst 0, 1) := by decide +kernel
theorem dX12_isInRow_92 : decode cX12_isInRow 92 = .ok (.iload_n 1, 1) := by decide +kernel
theorem dX12_isInRow_93 : decode cX12_isInRow 93 = .ok (.bipush 35, 2) := by decide +kernel
theorem dX12_isInRow_95 : decode cX12_isInRow 95 = .ok (.if_icmp .ne 7, 3) := by decide +kernel
theorem dX12_isInRow_98 : decode cX12_isInRow 98 = .ok (.iconst (-1), 1) := by decide +kernel
theorem dX12_isInRow_99 : decode cX12_isInRow 99 = .ok (.goto 17, 3) := by decide +kernel
theorem dX12_isInRow_102 : decode cX12_isInRow 102 = .ok (.iload_n 1, 1) := by decide +kernel
theorem dX12_isInRow_103 : decode cX12_isInRow 103 = .ok (.bipush 46, 2) := by decide +kernel
theorem dX12_isInRow_105 : decode cX12_isInRow 105 = .ok (.if_icmp .ne 7, 3) := by decide +kernel
theorem dX12_isInRow_108 : decode cX12_isInRow 108 = .ok (.iconst 0, 1) := by decide +kernel
theorem dX12_isInRow_109 : decode cX12_isInRow 109 = .ok (.goto 7, 3) := by decide +kernel
theorem dX12_isInRow_112 : decode cX12_isInRow 112 = .ok (.iload_n 1, 1) := by decide +kernel
theorem dX12_isInRow_113 : decode cX12_isInRow 113 = .ok (.bipush 48, 2) := by decide +kernel
theorem dX12_isInRow_115 : decode cX12_isInRow 115 = .ok (.isub, 1) := by decide +kernel
theorem dX12_isInRow_116 : decode cX12_isInRow 116 = .ok (.iastore, 1) := by decide +kernel
theorem dX12_isInRow_117 : decode cX12_isInRow 117 = .ok (.iload_n 3, 1) := by decide +kernel
theorem dX12_isInRow_118 : decode cX12_isInRow 118 = .ok (.ifCond .eq 55, 3) := by decide +kernel
theorem dX12_isInRow_121 : decode cX12_isInRow 121 = .ok (.iload_n 2, 1) := by decide +kernel
theorem dX12_isInRow_122 : decode cX12_isInRow 122 = .ok (.ifCond .ne 51, 3) := by decide +kernel
theorem dX12_isInRow_125 : decode cX12_isInRow 125 = .ok (.iload_n 1, 1) := by decide +kernel
theorem dX12_isInRow_126 : decode cX12_isInRow 126 = .ok (.bipush 111, 2) := by decide +kernel
theorem dX12_isInRow_128 : decode cX12_isInRow 128 = .ok (.if_icmp .ne 45, 3) := by decide +kernel
theorem dX12_isInRow_131 : decode cX12_isInRow 131 = .ok (.aload_n 0, 1) := by decide +kernel
theorem dX12_isInRow_132 : decode cX12_isInRow 132 = .ok (.dup, 1) := by decide +kernel
theorem dX12_isInRow_133 : decode cX12_isInRow 133 = .ok (.getfield 168, 3) := by decide +kernel
theorem dX12_isInRow_136 : decode cX12_isInRow 136 = .ok (.aload_n 0, 1) := by decide +kernel
theorem dX12_isInRow_137 : decode cX12_isInRow 137 = .ok (.getfield 162, 3) := by decide +kernel
theorem dX12_isInRow_140 : decode cX12_isInRow 140 = .ok (.iconst 4, 1) := by decide +kernel
theorem dX12_isInRow_141 : decode cX12_isInRow 141 = .ok (.if_icmp .ge 27, 3) := by decide +kernel
theorem dX12_isInRow_144 : decode cX12_isInRow 144 = .ok (.aload_n 0, 1) := by decide +kernel
theorem dX12_isInRow_145 : decode cX12_isInRow 145 = .ok (.getfield 165, 3) := by decide +kernel
theorem dX12_isInRow_148 : decode cX12_isInRow 148 = .ok (.iconst 4, 1) := by decide +kernel
theorem dX12_isInRow_149 : decode cX12_isInRow 149 = .ok (.if_icmp .ge 19, 3) := by decide +kernel
theorem dX12_isInRow_152 : decode cX12_isInRow 152 = .ok (.iconst 1, 1) := by decide +kernel
theorem dX12_isInRow_153 : decode cX12_isInRow 153 = .ok (.iconst 4, 1) := by decide +kernel
theorem dX12_isInRow_154 : decode cX12_isInRow 154 = .ok (.aload_n 0, 1) := by decide +kernel
theorem dX12_isInRow_155 : decode cX12_isInRow 155 = .ok (.getfield 162, 3) := by decide +kernel
theorem dX12_isInRow_158 : decode cX12_isInRow 158 = .ok (.imul, 1) := by decide +kernel
theorem dX12_isInRow_159 : decode cX12_isInRow 159 = .ok (.aload_n 0, 1) := by decide +kernel
theorem dX12_isInRow_160 : decode cX12_isInRow 160 = .ok (.getfield 165, 3) := by decide +kernel
theorem dX12_isInRow_163 : decode cX12_isInRow 163 = .ok (.iadd, 1) := by decide +kernel
theorem dX12_isInRow_164 : decode cX12_isInRow 164 = .ok (.ishl, 1) := by decide +kernel
theorem dX12_isInRow_165 : decode cX12_isInRow 165 = .ok (.goto 4, 3) := by decide +kernel
theorem dX12_isInRow_168 : decode cX12_isInRow 168 = .ok (.iconst 0, 1) := by decide +kernel
theorem dX12_isInRow_169 : decode cX12_isInRow 169 = .ok (.ior, 1) := by decide +kernel
theorem dX12_isInRow_170 : decode cX12_isInRow 170 = .ok (.putfield 168, 3) := by decide +kernel
theorem dX12_isInRow_173 : decode cX12_isInRow 173 = .ok (.iload_n 3, 1) := by decide +kernel
theorem dX12_isInRow_174 : decode cX12_isInRow 174 = .ok (.ireturn, 1) := by decide +kernel
theorem dX12_readsRows_0 : decode cX12_readsRows 0 = .ok (.iload_n 1, 1) := by decide +kernel
theorem dX12_readsRows_1 : decode cX12_readsRows 1 = .ok (.ifCond .eq 8, 3) := by decide +kernel
theorem dX12_readsRows_4 : decode cX12_readsRows 4 = .ok (.bipush 6, 2) := by decide +kernel
theorem dX12_readsRows_6 : decode cX12_readsRows 6 = .ok (.goto 4, 3) := by decide +kernel
theorem dX12_readsRows_9 : decode cX12_readsRows 9 = .ok (.iconst 4, 1) := by decide +kernel
theorem dX12_readsRows_10 : decode cX12_readsRows 10 = .ok (.istore_n 2, 1) := by decide +kernel
theorem dX12_readsRows_11 : decode cX12_readsRows 11 = .ok (.aload_n 0, 1) := by decide +kernel
theorem dX12_readsRows_12 : decode cX12_readsRows 12 = .ok (.iconst 0, 1) := by decide +kernel
theorem dX12_readsRows_13 : decode cX12_readsRows 13 = .ok (.putfield 171, 3) := by decide +kernel
theorem dX12_readsRows_16 : decode cX12_readsRows 16 = .ok (.aload_n 0, 1) := by decide +kernel
theorem dX12_readsRows_17 : decode cX12_readsRows 17 = .ok (.iconst 0, 1) := by decide +kernel
theorem dX12_readsRows_18 : decode cX12_readsRows 18 = .ok (.putfield 162, 3) := by decide +kernel
theorem dX12_readsRows_21 : decode cX12_readsRows 21 = .ok (.aload_n 0, 1) := by decide +kernel
theorem dX12_readsRows_22 : decode cX12_readsRows 22 = .ok (.iconst 0, 1) := by decide +kernel
theorem dX12_readsRows_23 : decode cX12_readsRows 23 = .ok (.putfield 165, 3) := by decide +kernel
theorem dX12_readsRows_26 : decode cX12_readsRows 26 = .ok (.aload_n 0, 1) := by decide +kernel
theorem dX12_readsRows_27 : decode cX12_readsRows 27 = .ok (.iconst 0, 1) := by decide +kernel
theorem dX12_readsRows_28 : decode cX12_readsRows 28 = .ok (.putfield 168, 3) := by decide +kernel
theorem dX12_readsRows_31 : decode cX12_readsRows 31 = .ok (.iconst 1, 1) := by decide +kernel
theorem dX12_readsRows_32 : decode cX12_readsRows 32 = .ok (.istore_n 3, 1) := by decide +kernel
theorem dX12_readsRows_33 : decode cX12_readsRows 33 = .ok (.iload_n 3, 1) := by decide +kernel
theorem dX12_readsRows_34 : decode cX12_readsRows 34 = .ok (.ifCond .eq 255, 3) := by decide +kernel
theorem dX12_readsRows_37 : decode cX12_readsRows 37 = .ok (.aload_n 0, 1) := by decide +kernel
theorem dX12_readsRows_38 : decode cX12_readsRows 38 = .ok (.getfield 174, 3) := by decide +kernel
theorem dX12_readsRows_41 : decode cX12_readsRows 41 = .ok (.ifCond .ne 248, 3) := by decide +kernel
theorem dX12_readsRows_44 : decode cX12_readsRows 44 = .ok (.aload_n 0, 1) := by decide +kernel
theorem dX12_readsRows_45 : decode cX12_readsRows 45 = .ok (.invokevirtual 178, 3) := by decide +kernel
theorem dX12_readsRows_48 : decode cX12_readsRows 48 = .ok (.istore 4, 2) := by decide +kernel
theorem dX12_readsRows_50 : decode cX12_readsRows 50 = .ok (.aload_n 0, 1) := by decide +kernel
theorem dX12_readsRows_51 : decode cX12_readsRows 51 = .ok (.getfield 165, 3) := by decide +kernel
theorem dX12_readsRows_54 : decode cX12_readsRows 54 = .ok (.aload_n 0, 1) := by decide +kernel
theorem dX12_readsRows_55 : decode cX12_readsRows 55 = .ok (.getfield 162, 3) := by decide +kernel
theorem dX12_readsRows_58 : decode cX12_readsRows 58 = .ok (.ifCond .ne 7, 3) := by decide +kernel
theorem dX12_readsRows_61 : decode cX12_readsRows 61 = .ok (.iload_n 2, 1) := by decide +kernel
theorem dX12_readsRows_62 : decode cX12_readsRows 62 = .ok (.goto 7, 3) := by decide +kernel
theorem dX12_readsRows_65 : decode cX12_readsRows 65 = .ok (.aload_n 0, 1) := by decide +kernel
theorem dX12_readsRows_66 : decode cX12_readsRows 66 = .ok (.getfield 171, 3) := by decide +kernel
theorem dX12_readsRows_69 : decode cX12_readsRows 69 = .ok (.if_icmp .ge 7, 3) := by decide +kernel
theorem dX12_readsRows_72 : decode cX12_readsRows 72 = .ok (.iconst 1, 1) := by decide +kernel
theorem dX12_readsRows_73 : decode cX12_readsRows 73 = .ok (.goto 4, 3) := by decide +kernel
theorem dX12_readsRows_76 : decode cX12_readsRows 76 = .ok (.iconst 0, 1) := by decide +kernel
theorem dX12_readsRows_77 : decode cX12_readsRows 77 = .ok (.istore 5, 2) := by decide +kernel
theorem dX12_readsRows_79 : decode cX12_readsRows 79 = .ok (.iload 5, 2) := by decide +kernel
theorem dX12_readsRows_81 : decode cX12_readsRows 81 = .ok (.ifCond .eq 58, 3) := by decide +kernel
theorem dX12_readsRows_84 : decode cX12_readsRows 84 = .ok (.aload_n 0, 1) := by decide +kernel
theorem dX12_readsRows_85 : decode cX12_readsRows 85 = .ok (.iload 4, 2) := by decide +kernel
theorem dX12_readsRows_87 : decode cX12_readsRows 87 = .ok (.iload_n 1, 1) := by decide +kernel
theorem dX12_readsRows_88 : decode cX12_readsRows 88 = .ok (.invokevirtual 181, 3) := by decide +kernel
theorem dX12_readsRows_91 : decode cX12_readsRows 91 = .ok (.ifCond .eq 48, 3) := by decide +kernel
theorem dX12_readsRows_94 : decode cX12_readsRows 94 = .ok (.aload_n 0, 1) := by decide +kernel
theorem dX12_readsRows_95 : decode cX12_readsRows 95 = .ok (.dup, 1) := by decide +kernel
theorem dX12_readsRows_96 : decode cX12_readsRows 96 = .ok (.getfield 165, 3) := by decide +kernel
theorem dX12_readsRows_99 : decode cX12_readsRows 99 = .ok (.iconst 1, 1) := by decide +kernel
theorem dX12_readsRows_100 : decode cX12_readsRows 100 = .ok (.iadd, 1) := by decide +kernel
theorem dX12_readsRows_101 : decode cX12_readsRows 101 = .ok (.putfield 165, 3) := by decide +kernel
theorem dX12_readsRows_104 : decode cX12_readsRows 104 = .ok (.aload_n 0, 1) := by decide +kernel
theorem dX12_readsRows_105 : decode cX12_readsRows 105 = .ok (.aload_n 0, 1) := by decide +kernel
theorem dX12_readsRows_106 : decode cX12_readsRows 106 = .ok (.getfield 162, 3) := by decide +kernel
theorem dX12_readsRows_109 : decode cX12_readsRows 109 = .ok (.ifCond .ne 10, 3) := by decide +kernel
theorem dX12_readsRows_112 : decode cX12_readsRows 112 = .ok (.aload_n 0, 1) := by decide +kernel
theorem dX12_readsRows_113 : decode cX12_readsRows 113 = .ok (.getfield 165, 3) := by decide +kernel
theorem dX12_readsRows_116 : decode cX12_readsRows 116 = .ok (.goto 7, 3) := by decide +kernel
theorem dX12_readsRows_119 : decode cX12_readsRows 119 = .ok (.aload_n 0, 1) := by decide +kernel
theorem dX12_readsRows_120 : decode cX12_readsRows 120 = .ok (.getfield 171, 3) := by decide +kernel
theorem dX12_readsRows_123 : decode cX12_readsRows 123 = .ok (.putfield 171, 3) := by decide +kernel
theorem dX12_readsRows_126 : decode cX12_readsRows 126 = .ok (.aload_n 0, 1) := by decide +kernel
theorem dX12_readsRows_127 : decode cX12_readsRows 127 = .ok (.dup, 1) := by decide +kernel
theorem dX12_readsRows_128 : decode cX12_readsRows 128 = .ok (.getfield 159, 3) := by decide +kernel
theorem dX12_readsRows_131 : decode cX12_readsRows 131 = .ok (.iconst 1, 1) := by decide +kernel
theorem dX12_readsRows_132 : decode cX12_readsRows 132 = .ok (.iadd, 1) := by decide +kernel
theorem dX12_readsRows_133 : decode cX12_readsRows 133 = .ok (.putfield 159, 3) := by decide +kernel
theorem dX12_readsRows_136 : decode cX12_readsRows 136 = .ok (.goto 150, 3) := by decide +kernel
theorem dX12_readsRows_139 : decode cX12_readsRows 139 = .ok (.aload_n 0, 1) := by decide +kernel
theorem dX12_readsRows_140 : decode cX12_readsRows 140 = .ok (.getfield 165, 3) := by decide +kernel
theorem dX12_readsRows_143 : decode cX12_readsRows 143 = .ok (.ifCond .le 18, 3) := by decide +kernel
theorem dX12_readsRows_146 : decode cX12_readsRows 146 = .ok (.aload_n 0, 1) := by decide +kernel
theorem dX12_readsRows_147 : decode cX12_readsRows 147 = .ok (.getfield 165, 3) := by decide +kernel
theorem dX12_readsRows_150 : decode cX12_readsRows 150 = .ok (.aload_n 0, 1) := by decide +kernel
theorem dX12_readsRows_151 : decode cX12_readsRows 151 = .ok (.getfield 171, 3) := by decide +kernel
theorem dX12_readsRows_154 : decode cX12_readsRows 154 = .ok (.if_icmp .ne 7, 3) := by decide +kernel
theorem dX12_readsRows_157 : decode cX12_readsRows 157 = .ok (.iconst 1, 1) := by decide +kernel
theorem dX12_readsRows_158 : decode cX12_readsRows 158 = .ok (.goto 4, 3) := by decide +kernel
theorem dX12_readsRows_161 : decode cX12_readsRows 161 = .ok (.iconst 0, 1) := by decide +kernel
theorem dX12_readsRows_162 : decode cX12_readsRows 162 = .ok (.istore 6, 2) := by decide +kernel
theorem dX12_readsRows_164 : decode cX12_readsRows 164 = .ok (.iload 4, 2) := by decide +kernel
theorem dX12_readsRows_166 : decode cX12_readsRows 166 = .ok (.bipush 47, 2) := by decide +kernel
theorem dX12_readsRows_168 : decode cX12_readsRows 168 = .ok (.if_icmp .ne 22, 3) := by decide +kernel
theorem dX12_readsRows_171 : decode cX12_readsRows 171 = .ok (.iload 6, 2) := by decide +kernel
theorem dX12_readsRows_173 : decode cX12_readsRows 173 = .ok (.ifCond .eq 17, 3) := by decide +kernel
theorem dX12_readsRows_176 : decode cX12_readsRows 176 = .ok (.aload_n 0, 1) := by decide +kernel
theorem dX12_readsRows_177 : decode cX12_readsRows 177 = .ok (.getfield 162, 3) := by decide +kernel
theorem dX12_readsRows_180 : decode cX12_readsRows 180 = .ok (.iconst 1, 1) := by decide +kernel
theorem dX12_readsRows_181 : decode cX12_readsRows 181 = .ok (.iadd, 1) := by decide +kernel
theorem dX12_readsRows_182 : decode cX12_readsRows 182 = .ok (.iload_n 2, 1) := by decide +kernel
theorem dX12_readsRows_183 : decode cX12_readsRows 183 = .ok (.if_icmp .ge 7, 3) := by decide +kernel
theorem dX12_readsRows_186 : decode cX12_readsRows 186 = .ok (.iconst 1, 1) := by decide +kernel
theorem dX12_readsRows_187 : decode cX12_readsRows 187 = .ok (.goto 4, 3) := by decide +kernel
theorem dX12_readsRows_190 : decode cX12_readsRows 190 = .ok (.iconst 0, 1) := by decide +kernel
theorem dX12_readsRows_191 : decode cX12_readsRows 191 = .ok (.istore 7, 2) := by decide +kernel
theorem dX12_readsRows_193 : decode cX12_readsRows 193 = .ok (.aload_n 0, 1) := by decide +kernel
theorem dX12_readsRows_194 : decode cX12_readsRows 194 = .ok (.dup, 1) := by decide +kernel
theorem dX12_readsRows_195 : decode cX12_readsRows 195 = .ok (.getfield 162, 3) := by decide +kernel
theorem dX12_readsRows_198 : decode cX12_readsRows 198 = .ok (.iload 7, 2) := by decide +kernel
theorem dX12_readsRows_200 : decode cX12_readsRows 200 = .ok (.ifCond .eq 7, 3) := by decide +kernel
theorem dX12_readsRows_203 : decode cX12_readsRows 203 = .ok (.iconst 1, 1) := by decide +kernel
theorem dX12_readsRows_204 : decode cX12_readsRows 204 = .ok (.goto 4, 3) := by decide +kernel
theorem dX12_readsRows_207 : decode cX12_readsRows 207 = .ok (.iconst 0, 1) := by decide +kernel
theorem dX12_readsRows_208 : decode cX12_readsRows 208 = .ok (.iadd, 1) := by decide +kernel
theorem dX12_readsRows_209 : decode cX12_readsRows 209 = .ok (.putfield 162, 3) := by decide +kernel
theorem dX12_readsRows_212 : decode cX12_readsRows 212 = .ok (.aload_n 0, 1) := by decide +kernel
theorem dX12_readsRows_213 : decode cX12_readsRows 213 = .ok (.iload 7, 2) := by decide +kernel
theorem dX12_readsRows_215 : decode cX12_readsRows 215 = .ok (.ifCond .eq 7, 3) := by decide +kernel
theorem dX12_readsRows_218 : decode cX12_readsRows 218 = .ok (.iconst 0, 1) := by decide +kernel
theorem dX12_readsRows_219 : decode cX12_readsRows 219 = .ok (.goto 7, 3) := by decide +kernel
theorem dX12_readsRows_222 : decode cX12_readsRows 222 = .ok (.aload_n 0, 1) := by decide +kernel
theorem dX12_readsRows_223 : decode cX12_readsRows 223 = .ok (.getfield 165, 3) := by decide +kernel
theorem dX12_readsRows_226 : decode cX12_readsRows 226 = .ok (.putfield 165, 3) := by decide +kernel
theorem dX12_readsRows_229 : decode cX12_readsRows 229 = .ok (.aload_n 0, 1) := by decide +kernel
theorem dX12_readsRows_230 : decode cX12_readsRows 230 = .ok (.dup, 1) := by decide +kernel
theorem dX12_readsRows_231 : decode cX12_readsRows 231 = .ok (.getfield 159, 3) := by decide +kernel
theorem dX12_readsRows_234 : decode cX12_readsRows 234 = .ok (.iload 7, 2) := by decide +kernel
theorem dX12_readsRows_236 : decode cX12_readsRows 236 = .ok (.ifCond .eq 7, 3) := by decide +kernel
theorem dX12_readsRows_239 : decode cX12_readsRows 239 = .ok (.iconst 1, 1) := by decide +kernel
theorem dX12_readsRows_240 : decode cX12_readsRows 240 = .ok (.goto 4, 3) := by decide +kernel
theorem dX12_readsRows_243 : decode cX12_readsRows 243 = .ok (.iconst 0, 1) := by decide +kernel
theorem dX12_readsRows_244 : decode cX12_readsRows 244 = .ok (.iadd, 1) := by decide +kernel
theorem dX12_readsRows_245 : decode cX12_readsRows 245 = .ok (.putfield 159, 3) := by decide +kernel
theorem dX12_readsRows_248 : decode cX12_readsRows 248 = .ok (.iload 7, 2) := by decide +kernel
theorem dX12_readsRows_250 : decode cX12_readsRows 250 = .ok (.istore_n 3, 1) := by decide +kernel
theorem dX12_readsRows_251 : decode cX12_readsRows 251 = .ok (.aload_n 0, 1) := by decide +kernel
theorem dX12_readsRows_252 : decode cX12_readsRows 252 = .ok (.iload 7, 2) := by decide +kernel
theorem dX12_readsRows_254 : decode cX12_readsRows 254 = .ok (.ifCond .ne 28, 3) := by decide +kernel
theorem dX12_readsRows_257 : decode cX12_readsRows 257 = .ok (.iload 6, 2) := by decide +kernel
theorem dX12_readsRows_259 : decode cX12_readsRows 259 = .ok (.ifCond .eq 19, 3) := by decide +kernel
theorem dX12_readsRows_262 : decode cX12_readsRows 262 = .ok (.iload 4, 2) := by decide +kernel
theorem dX12_readsRows_264 : decode cX12_readsRows 264 = .ok (.bipush 47, 2) := by decide +kernel
theorem dX12_readsRows_266 : decode cX12_readsRows 266 = .ok (.if_icmp .eq 12, 3) := by decide +kernel
theorem dX12_readsRows_269 : decode cX12_readsRows 269 = .ok (.iload 4, 2) := by decide +kernel
theorem dX12_readsRows_271 : decode cX12_readsRows 271 = .ok (.iload_n 1, 1) := by decide +kernel
theorem dX12_readsRows_272 : decode cX12_readsRows 272 = .ok (.invokestatic 185, 3) := by decide +kernel
theorem dX12_readsRows_275 : decode cX12_readsRows 275 = .ok (.ifCond .eq 7, 3) := by decide +kernel
theorem dX12_readsRows_278 : decode cX12_readsRows 278 = .ok (.iconst 1, 1) := by decide +kernel
theorem dX12_readsRows_279 : decode cX12_readsRows 279 = .ok (.goto 4, 3) := by decide +kernel
theorem dX12_readsRows_282 : decode cX12_readsRows 282 = .ok (.iconst 0, 1) := by decide +kernel
theorem dX12_readsRows_283 : decode cX12_readsRows 283 = .ok (.putfield 174, 3) := by decide +kernel
theorem dX12_readsRows_286 : decode cX12_readsRows 286 = .ok (.goto (-253), 3) := by decide +kernel
theorem dX12_readsRows_289 : decode cX12_readsRows 289 = .ok (.aload_n 0, 1) := by decide +kernel
theorem dX12_readsRows_290 : decode cX12_readsRows 290 = .ok (.dup, 1) := by decide +kernel
theorem dX12_readsRows_291 : decode cX12_readsRows 291 = .ok (.getfield 162, 3) := by decide +kernel
theorem dX12_readsRows_294 : decode cX12_readsRows 294 = .ok (.iconst 1, 1) := by decide +kernel
theorem dX12_readsRows_295 : decode cX12_readsRows 295 = .ok (.iadd, 1) := by decide +kernel
theorem dX12_readsRows_296 : decode cX12_readsRows 296 = .ok (.putfield 162, 3) := by decide +kernel
theorem dX12_readsRows_299 : decode cX12_readsRows 299 = .ok (.return_, 1) := by decide +kernel
theorem dX12_isPart_0 : decode cX12_isPart 0 = .ok (.iload_n 1, 1) := by decide +kernel
theorem dX12_isPart_1 : decode cX12_isPart 1 = .ok (.ifCond .eq 34, 3) := by decide +kernel
theorem dX12_isPart_4 : decode cX12_isPart 4 = .ok (.iload_n 0, 1) := by decide +kernel
theorem dX12_isPart_5 : decode cX12_isPart 5 = .ok (.bipush 46, 2) := by decide +kernel
theorem dX12_isPart_7 : decode cX12_isPart 7 = .ok (.if_icmp .eq 20, 3) := by decide +kernel
theorem dX12_isPart_10 : decode cX12_isPart 10 = .ok (.iload_n 0, 1) := by decide +kernel
theorem dX12_isPart_11 : decode cX12_isPart 11 = .ok (.bipush 35, 2) := by decide +kernel
theorem dX12_isPart_13 : decode cX12_isPart 13 = .ok (.if_icmp .eq 14, 3) := by decide +kernel
theorem dX12_isPart_16 : decode cX12_isPart 16 = .ok (.iload_n 0, 1) := by decide +kernel
theorem dX12_isPart_17 : decode cX12_isPart 17 = .ok (.bipush 49, 2) := by decide +kernel
theorem dX12_isPart_19 : decode cX12_isPart 19 = .ok (.bipush 51, 2) := by decide +kernel
theorem dX12_isPart_21 : decode cX12_isPart 21 = .ok (.invokestatic 72, 3) := by decide +kernel
theorem dX12_isPart_24 : decode cX12_isPart 24 = .ok (.ifCond .eq 7, 3) := by decide +kernel
theorem dX12_isPart_27 : decode cX12_isPart 27 = .ok (.iconst 1, 1) := by decide +kernel
theorem dX12_isPart_28 : decode cX12_isPart 28 = .ok (.goto 24, 3) := by decide +kernel
theorem dX12_isPart_31 : decode cX12_isPart 31 = .ok (.iconst 0, 1) := by decide +kernel
theorem dX12_isPart_32 : decode cX12_isPart 32 = .ok (.goto 20, 3) := by decide +kernel
theorem dX12_isPart_35 : decode cX12_isPart 35 = .ok (.iload_n 0, 1) := by decide +kernel
theorem dX12_isPart_36 : decode cX12_isPart 36 = .ok (.bipush 111, 2) := by decide +kernel
theorem dX12_isPart_38 : decode cX12_isPart 38 = .ok (.if_icmp .eq 9, 3) := by decide +kernel
theorem dX12_isPart_41 : decode cX12_isPart 41 = .ok (.iload_n 0, 1) := by decide +kernel
theorem dX12_isPart_42 : decode cX12_isPart 42 = .ok (.bipush 46, 2) := by decide +kernel
theorem dX12_isPart_44 : decode cX12_isPart 44 = .ok (.if_icmp .ne 7, 3) := by decide +kernel
theorem dX12_isPart_47 : decode cX12_isPart 47 = .ok (.iconst 1, 1) := by decide +kernel
theorem dX12_isPart_48 : decode cX12_isPart 48 = .ok (.goto 4, 3) := by decide +kernel
theorem dX12_isPart_51 : decode cX12_isPart 51 = .ok (.iconst 0, 1) := by decide +kernel
theorem dX12_isPart_52 : decode cX12_isPart 52 = .ok (.ireturn, 1) := by decide +kernel
theorem dX12_readsOption_0 : decode cX12_readsOption 0 = .ok (.aload_n 0, 1) := by decide +kernel
theorem dX12_readsOption_1 : decode cX12_readsOption 1 = .ok (.invokevirtual 178, 3) := by decide +kernel
theorem dX12_readsOption_4 : decode cX12_readsOption 4 = .ok (.istore_n 1, 1) := by decide +kernel
theorem dX12_readsOption_5 : decode cX12_readsOption 5 = .ok (.iload_n 1, 1) := by decide +kernel
theorem dX12_readsOption_6 : decode cX12_readsOption 6 = .ok (.bipush 116, 2) := by decide +kernel
theorem dX12_readsOption_8 : decode cX12_readsOption 8 = .ok (.if_icmp .eq 9, 3) := by decide +kernel
theorem dX12_readsOption_11 : decode cX12_readsOption 11 = .ok (.iload_n 1, 1) := by decide +kernel
theorem dX12_readsOption_12 : decode cX12_readsOption 12 = .ok (.bipush 109, 2) := by decide +kernel
theorem dX12_readsOption_14 : decode cX12_readsOption 14 = .ok (.if_icmp .ne 36, 3) := by decide +kernel
theorem dX12_readsOption_17 : decode cX12_readsOption 17 = .ok (.aload_n 0, 1) := by decide +kernel
theorem dX12_readsOption_18 : decode cX12_readsOption 18 = .ok (.getfield 188, 3) := by decide +kernel
theorem dX12_readsOption_21 : decode cX12_readsOption 21 = .ok (.ifCond .ne 29, 3) := by decide +kernel
theorem dX12_readsOption_24 : decode cX12_readsOption 24 = .ok (.aload_n 0, 1) := by decide +kernel
theorem dX12_readsOption_25 : decode cX12_readsOption 25 = .ok (.iload_n 1, 1) := by decide +kernel
theorem dX12_readsOption_26 : decode cX12_readsOption 26 = .ok (.bipush 116, 2) := by decide +kernel
theorem dX12_readsOption_28 : decode cX12_readsOption 28 = .ok (.if_icmp .ne 7, 3) := by decide +kernel
theorem dX12_readsOption_31 : decode cX12_readsOption 31 = .ok (.iconst 1, 1) := by decide +kernel
theorem dX12_readsOption_32 : decode cX12_readsOption 32 = .ok (.goto 4, 3) := by decide +kernel
theorem dX12_readsOption_35 : decode cX12_readsOption 35 = .ok (.iconst 2, 1) := by decide +kernel
theorem dX12_readsOption_36 : decode cX12_readsOption 36 = .ok (.putfield 188, 3) := by decide +kernel
theorem dX12_readsOption_39 : decode cX12_readsOption 39 = .ok (.aload_n 0, 1) := by decide +kernel
theorem dX12_readsOption_40 : decode cX12_readsOption 40 = .ok (.dup, 1) := by decide +kernel
theorem dX12_readsOption_41 : decode cX12_readsOption 41 = .ok (.getfield 159, 3) := by decide +kernel
theorem dX12_readsOption_44 : decode cX12_readsOption 44 = .ok (.iconst 1, 1) := by decide +kernel
theorem dX12_readsOption_45 : decode cX12_readsOption 45 = .ok (.iadd, 1) := by decide +kernel
theorem dX12_readsOption_46 : decode cX12_readsOption 46 = .ok (.putfield 159, 3) := by decide +kernel
theorem dX12_readsOption_49 : decode cX12_readsOption 49 = .ok (.return_, 1) := by decide +kernel
theorem dX12_readsOption_50 : decode cX12_readsOption 50 = .ok (.iload_n 1, 1) := by decide +kernel
theorem dX12_readsOption_51 : decode cX12_readsOption 51 = .ok (.bipush 99, 2) := by decide +kernel
theorem dX12_readsOption_53 : decode cX12_readsOption 53 = .ok (.if_icmp .ne 14, 3) := by decide +kernel
theorem dX12_readsOption_56 : decode cX12_readsOption 56 = .ok (.aload_n 0, 1) := by decide +kernel
theorem dX12_readsOption_57 : decode cX12_readsOption 57 = .ok (.getfield 191, 3) := by decide +kernel
theorem dX12_readsOption_60 : decode cX12_readsOption 60 = .ok (.ifCond .ne 7, 3) := by decide +kernel
theorem dX12_readsOption_63 : decode cX12_readsOption 63 = .ok (.iconst 1, 1) := by decide +kernel
theorem dX12_readsOption_64 : decode cX12_readsOption 64 = .ok (.goto 4, 3) := by decide +kernel
theorem dX12_readsOption_67 : decode cX12_readsOption 67 = .ok (.iconst 0, 1) := by decide +kernel
theorem dX12_readsOption_68 : decode cX12_readsOption 68 = .ok (.istore_n 2, 1) := by decide +kernel
theorem dX12_readsOption_69 : decode cX12_readsOption 69 = .ok (.aload_n 0, 1) := by decide +kernel
theorem dX12_readsOption_70 : decode cX12_readsOption 70 = .ok (.iload_n 2, 1) := by decide +kernel
theorem dX12_readsOption_71 : decode cX12_readsOption 71 = .ok (.ifCond .ne 20, 3) := by decide +kernel
theorem dX12_readsOption_74 : decode cX12_readsOption 74 = .ok (.iload_n 1, 1) := by decide +kernel
theorem dX12_readsOption_75 : decode cX12_readsOption 75 = .ok (.bipush 120, 2) := by decide +kernel
theorem dX12_readsOption_77 : decode cX12_readsOption 77 = .ok (.if_icmp .ne 10, 3) := by decide +kernel
theorem dX12_readsOption_80 : decode cX12_readsOption 80 = .ok (.aload_n 0, 1) := by decide +kernel
theorem dX12_readsOption_81 : decode cX12_readsOption 81 = .ok (.getfield 194, 3) := by decide +kernel
theorem dX12_readsOption_84 : decode cX12_readsOption 84 = .ok (.ifCond .eq 7, 3) := by decide +kernel
theorem dX12_readsOption_87 : decode cX12_readsOption 87 = .ok (.iconst 1, 1) := by decide +kernel
theorem dX12_readsOption_88 : decode cX12_readsOption 88 = .ok (.goto 4, 3) := by decide +kernel
theorem dX12_readsOption_91 : decode cX12_readsOption 91 = .ok (.iconst 0, 1) := by decide +kernel
theorem dX12_readsOption_92 : decode cX12_readsOption 92 = .ok (.putfield 174, 3) := by decide +kernel
theorem dX12_readsOption_95 : decode cX12_readsOption 95 = .ok (.aload_n 0, 1) := by decide +kernel
theorem dX12_readsOption_96 : decode cX12_readsOption 96 = .ok (.getfield 174, 3) := by decide +kernel
theorem dX12_readsOption_99 : decode cX12_readsOption 99 = .ok (.ifCond .ne 45, 3) := by decide +kernel
theorem dX12_readsOption_102 : decode cX12_readsOption 102 = .ok (.aload_n 0, 1) := by decide +kernel
theorem dX12_readsOption_103 : decode cX12_readsOption 103 = .ok (.dup, 1) := by decide +kernel
theorem dX12_readsOption_104 : decode cX12_readsOption 104 = .ok (.getfield 159, 3) := by decide +kernel
theorem dX12_readsOption_107 : decode cX12_readsOption 107 = .ok (.iconst 1, 1) := by decide +kernel
theorem dX12_readsOption_108 : decode cX12_readsOption 108 = .ok (.iadd, 1) := by decide +kernel
theorem dX12_readsOption_109 : decode cX12_readsOption 109 = .ok (.putfield 159, 3) := by decide +kernel
theorem dX12_readsOption_112 : decode cX12_readsOption 112 = .ok (.aload_n 0, 1) := by decide +kernel
theorem dX12_readsOption_113 : decode cX12_readsOption 113 = .ok (.aload_n 0, 1) := by decide +kernel
theorem dX12_readsOption_114 : decode cX12_readsOption 114 = .ok (.invokevirtual 178, 3) := by decide +kernel
theorem dX12_readsOption_117 : decode cX12_readsOption 117 = .ok (.bipush 49, 2) := by decide +kernel
theorem dX12_readsOption_119 : decode cX12_readsOption 119 = .ok (.iload_n 2, 1) := by decide +kernel
theorem dX12_readsOption_120 : decode cX12_readsOption 120 = .ok (.ifCond .eq 8, 3) := by decide +kernel
theorem dX12_readsOption_123 : decode cX12_readsOption 123 = .ok (.bipush 51, 2) := by decide +kernel
theorem dX12_readsOption_125 : decode cX12_readsOption 125 = .ok (.goto 5, 3) := by decide +kernel
theorem dX12_readsOption_128 : decode cX12_readsOption 128 = .ok (.bipush 57, 2) := by decide +kernel
theorem dX12_readsOption_130 : decode cX12_readsOption 130 = .ok (.invokestatic 72, 3) := by decide +kernel
theorem dX12_readsOption_133 : decode cX12_readsOption 133 = .ok (.ifCond .ne 7, 3) := by decide +kernel
theorem dX12_readsOption_136 : decode cX12_readsOption 136 = .ok (.iconst 1, 1) := by decide +kernel
theorem dX12_readsOption_137 : decode cX12_readsOption 137 = .ok (.goto 4, 3) := by decide +kernel
theorem dX12_readsOption_140 : decode cX12_readsOption 140 = .ok (.iconst 0, 1) := by decide +kernel
theorem dX12_readsOption_141 : decode cX12_readsOption 141 = .ok (.putfield 174, 3) := by decide +kernel
theorem dX12_readsOption_144 : decode cX12_readsOption 144 = .ok (.aload_n 0, 1) := by decide +kernel
theorem dX12_readsOption_145 : decode cX12_readsOption 145 = .ok (.getfield 174, 3) := by decide +kernel
theorem dX12_readsOption_148 : decode cX12_readsOption 148 = .ok (.ifCond .ne 57, 3) := by decide +kernel
theorem dX12_readsOption_151 : decode cX12_readsOption 151 = .ok (.aload_n 0, 1) := by decide +kernel
theorem dX12_readsOption_152 : decode cX12_readsOption 152 = .ok (.iload_n 2, 1) := by decide +kernel
theorem dX12_readsOption_153 : decode cX12_readsOption 153 = .ok (.ifCond .eq 13, 3) := by decide +kernel
theorem dX12_readsOption_156 : decode cX12_readsOption 156 = .ok (.aload_n 0, 1) := by decide +kernel
theorem dX12_readsOption_157 : decode cX12_readsOption 157 = .ok (.invokevirtual 178, 3) := by decide +kernel
theorem dX12_readsOption_160 : decode cX12_readsOption 160 = .ok (.bipush 48, 2) := by decide +kernel
theorem dX12_readsOption_162 : decode cX12_readsOption 162 = .ok (.isub, 1) := by decide +kernel
theorem dX12_readsOption_163 : decode cX12_readsOption 163 = .ok (.goto 7, 3) := by decide +kernel
theorem dX12_readsOption_166 : decode cX12_readsOption 166 = .ok (.aload_n 0, 1) := by decide +kernel
theorem dX12_readsOption_167 : decode cX12_readsOption 167 = .ok (.getfield 191, 3) := by decide +kernel
theorem dX12_readsOption_170 : decode cX12_readsOption 170 = .ok (.putfield 191, 3) := by decide +kernel
theorem dX12_readsOption_173 : decode cX12_readsOption 173 = .ok (.aload_n 0, 1) := by decide +kernel
theorem dX12_readsOption_174 : decode cX12_readsOption 174 = .ok (.iload_n 2, 1) := by decide +kernel
theorem dX12_readsOption_175 : decode cX12_readsOption 175 = .ok (.ifCond .eq 10, 3) := by decide +kernel
theorem dX12_readsOption_178 : decode cX12_readsOption 178 = .ok (.aload_n 0, 1) := by decide +kernel
theorem dX12_readsOption_179 : decode cX12_readsOption 179 = .ok (.getfield 194, 3) := by decide +kernel
theorem dX12_readsOption_182 : decode cX12_readsOption 182 = .ok (.goto 10, 3) := by decide +kernel
theorem dX12_readsOption_185 : decode cX12_readsOption 185 = .ok (.aload_n 0, 1) := by decide +kernel
theorem dX12_readsOption_186 : decode cX12_readsOption 186 = .ok (.invokevirtual 178, 3) := by decide +kernel
theorem dX12_readsOption_189 : decode cX12_readsOption 189 = .ok (.bipush 48, 2) := by decide +kernel
theorem dX12_readsOption_191 : decode cX12_readsOption 191 = .ok (.isub, 1) := by decide +kernel
theorem dX12_readsOption_192 : decode cX12_readsOption 192 = .ok (.putfield 194, 3) := by decide +kernel
theorem dX12_readsOption_195 : decode cX12_readsOption 195 = .ok (.aload_n 0, 1) := by decide +kernel
theorem dX12_readsOption_196 : decode cX12_readsOption 196 = .ok (.dup, 1) := by decide +kernel
theorem dX12_readsOption_197 : decode cX12_readsOption 197 = .ok (.getfield 159, 3) := by decide +kernel
theorem dX12_readsOption_200 : decode cX12_readsOption 200 = .ok (.iconst 1, 1) := by decide +kernel
theorem dX12_readsOption_201 : decode cX12_readsOption 201 = .ok (.iadd, 1) := by decide +kernel
theorem dX12_readsOption_202 : decode cX12_readsOption 202 = .ok (.putfield 159, 3) := by decide +kernel
theorem dX12_readsOption_205 : decode cX12_readsOption 205 = .ok (.return_, 1) := by decide +kernel
theorem dX12_readsPiece_0 : decode cX12_readsPiece 0 = .ok (.aload_n 0, 1) := by decide +kernel
theorem dX12_readsPiece_1 : decode cX12_readsPiece 1 = .ok (.aload_n 0, 1) := by decide +kernel
theorem dX12_readsPiece_2 : decode cX12_readsPiece 2 = .ok (.invokevirtual 178, 3) := by decide +kernel
theorem dX12_readsPiece_5 : decode cX12_readsPiece 5 = .ok (.bipush 124, 2) := by decide +kernel
theorem dX12_readsPiece_7 : decode cX12_readsPiece 7 = .ok (.if_icmp .ne 14, 3) := by decide +kernel
theorem dX12_readsPiece_10 : decode cX12_readsPiece 10 = .ok (.aload_n 0, 1) := by decide +kernel
theorem dX12_readsPiece_11 : decode cX12_readsPiece 11 = .ok (.getfield 7, 3) := by decide +kernel
theorem dX12_readsPiece_14 : decode cX12_readsPiece 14 = .ok (.iconst 4, 1) := by decide +kernel
theorem dX12_readsPiece_15 : decode cX12_readsPiece 15 = .ok (.iaload, 1) := by decide +kernel
theorem dX12_readsPiece_16 : decode cX12_readsPiece 16 = .ok (.bipush 8, 2) := by decide +kernel
theorem dX12_readsPiece_18 : decode cX12_readsPiece 18 = .ok (.if_icmp .ne 7, 3) := by decide +kernel
theorem dX12_readsPiece_21 : decode cX12_readsPiece 21 = .ok (.iconst 1, 1) := by decide +kernel
theorem dX12_readsPiece_22 : decode cX12_readsPiece 22 = .ok (.goto 4, 3) := by decide +kernel
theorem dX12_readsPiece_25 : decode cX12_readsPiece 25 = .ok (.iconst 0, 1) := by decide +kernel
theorem dX12_readsPiece_26 : decode cX12_readsPiece 26 = .ok (.putfield 174, 3) := by decide +kernel
theorem dX12_readsPiece_29 : decode cX12_readsPiece 29 = .ok (.aload_n 0, 1) := by decide +kernel
theorem dX12_readsPiece_30 : decode cX12_readsPiece 30 = .ok (.getfield 174, 3) := by decide +kernel
theorem dX12_readsPiece_33 : decode cX12_readsPiece 33 = .ok (.ifCond .eq 4, 3) := by decide +kernel
theorem dX12_readsPiece_36 : decode cX12_readsPiece 36 = .ok (.return_, 1) := by decide +kernel
theorem dX12_readsPiece_37 : decode cX12_readsPiece 37 = .ok (.aload_n 0, 1) := by decide +kernel
theorem dX12_readsPiece_38 : decode cX12_readsPiece 38 = .ok (.dup, 1) := by decide +kernel
theorem dX12_readsPiece_39 : decode cX12_readsPiece 39 = .ok (.getfield 159, 3) := by decide +kernel
theorem dX12_readsPiece_42 : decode cX12_readsPiece 42 = .ok (.iconst 1, 1) := by decide +kernel
theorem dX12_readsPiece_43 : decode cX12_readsPiece 43 = .ok (.iadd, 1) := by decide +kernel
theorem dX12_readsPiece_44 : decode cX12_readsPiece 44 = .ok (.putfield 159, 3) := by decide +kernel
theorem dX12_readsPiece_47 : decode cX12_readsPiece 47 = .ok (.aload_n 0, 1) := by decide +kernel
theorem dX12_readsPiece_48 : decode cX12_readsPiece 48 = .ok (.iconst 0, 1) := by decide +kernel
theorem dX12_readsPiece_49 : decode cX12_readsPiece 49 = .ok (.invokevirtual 197, 3) := by decide +kernel
theorem dX12_readsPiece_52 : decode cX12_readsPiece 52 = .ok (.aload_n 0, 1) := by decide +kernel
theorem dX12_readsPiece_53 : decode cX12_readsPiece 53 = .ok (.aload_n 0, 1) := by decide +kernel
theorem dX12_readsPiece_54 : decode cX12_readsPiece 54 = .ok (.getfield 174, 3) := by decide +kernel
theorem dX12_readsPiece_57 : decode cX12_readsPiece 57 = .ok (.ifCond .ne 13, 3) := by decide +kernel
theorem dX12_readsPiece_60 : decode cX12_readsPiece 60 = .ok (.aload_n 0, 1) := by decide +kernel
theorem dX12_readsPiece_61 : decode cX12_readsPiece 61 = .ok (.getfield 168, 3) := by decide +kernel
theorem dX12_readsPiece_64 : decode cX12_readsPiece 64 = .ok (.invokestatic 132, 3) := by decide +kernel
theorem dX12_readsPiece_67 : decode cX12_readsPiece 67 = .ok (.ifCond .ne 7, 3) := by decide +kernel
theorem dX12_readsPiece_70 : decode cX12_readsPiece 70 = .ok (.iconst 1, 1) := by decide +kernel
theorem dX12_readsPiece_71 : decode cX12_readsPiece 71 = .ok (.goto 4, 3) := by decide +kernel
theorem dX12_readsPiece_74 : decode cX12_readsPiece 74 = .ok (.iconst 0, 1) := by decide +kernel
theorem dX12_readsPiece_75 : decode cX12_readsPiece 75 = .ok (.putfield 174, 3) := by decide +kernel
theorem dX12_readsPiece_78 : decode cX12_readsPiece 78 = .ok (.aload_n 0, 1) := by decide +kernel
theorem dX12_readsPiece_79 : decode cX12_readsPiece 79 = .ok (.iconst 0, 1) := by decide +kernel
theorem dX12_readsPiece_80 : decode cX12_readsPiece 80 = .ok (.putfield 188, 3) := by decide +kernel
theorem dX12_readsPiece_83 : decode cX12_readsPiece 83 = .ok (.aload_n 0, 1) := by decide +kernel
theorem dX12_readsPiece_84 : decode cX12_readsPiece 84 = .ok (.iconst 0, 1) := by decide +kernel
theorem dX12_readsPiece_85 : decode cX12_readsPiece 85 = .ok (.putfield 191, 3) := by decide +kernel
theorem dX12_readsPiece_88 : decode cX12_readsPiece 88 = .ok (.aload_n 0, 1) := by decide +kernel
theorem dX12_readsPiece_89 : decode cX12_readsPiece 89 = .ok (.iconst 0, 1) := by decide +kernel
theorem dX12_readsPiece_90 : decode cX12_readsPiece 90 = .ok (.putfield 194, 3) := by decide +kernel
theorem dX12_readsPiece_93 : decode cX12_readsPiece 93 = .ok (.aload_n 0, 1) := by decide +kernel
theorem dX12_readsPiece_94 : decode cX12_readsPiece 94 = .ok (.getfield 174, 3) := by decide +kernel
theorem dX12_readsPiece_97 : decode cX12_readsPiece 97 = .ok (.ifCond .ne 30, 3) := by decide +kernel
theorem dX12_readsPiece_100 : decode cX12_readsPiece 100 = .ok (.aload_n 0, 1) := by decide +kernel
theorem dX12_readsPiece_101 : decode cX12_readsPiece 101 = .ok (.getfield 159, 3) := by decide +kernel
theorem dX12_readsPiece_104 : decode cX12_readsPiece 104 = .ok (.aload_n 0, 1) := by decide +kernel
theorem dX12_readsPiece_105 : decode cX12_readsPiece 105 = .ok (.getfield 156, 3) := by decide +kernel
theorem dX12_readsPiece_108 : decode cX12_readsPiece 108 = .ok (.if_icmp .ge 19, 3) := by decide +kernel
theorem dX12_readsPiece_111 : decode cX12_readsPiece 111 = .ok (.aload_n 0, 1) := by decide +kernel
theorem dX12_readsPiece_112 : decode cX12_readsPiece 112 = .ok (.invokevirtual 178, 3) := by decide +kernel
theorem dX12_readsPiece_115 : decode cX12_readsPiece 115 = .ok (.bipush 124, 2) := by decide +kernel
theorem dX12_readsPiece_117 : decode cX12_readsPiece 117 = .ok (.if_icmp .eq 10, 3) := by decide +kernel
theorem dX12_readsPiece_120 : decode cX12_readsPiece 120 = .ok (.aload_n 0, 1) := by decide +kernel
theorem dX12_readsPiece_121 : decode cX12_readsPiece 121 = .ok (.invokevirtual 201, 3) := by decide +kernel
theorem dX12_readsPiece_124 : decode cX12_readsPiece 124 = .ok (.goto (-31), 3) := by decide +kernel
theorem dX12_readsPiece_127 : decode cX12_readsPiece 127 = .ok (.aload_n 0, 1) := by decide +kernel
theorem dX12_readsPiece_128 : decode cX12_readsPiece 128 = .ok (.getfield 174, 3) := by decide +kernel
theorem dX12_readsPiece_131 : decode cX12_readsPiece 131 = .ok (.ifCond .ne 34, 3) := by decide +kernel
theorem dX12_readsPiece_134 : decode cX12_readsPiece 134 = .ok (.aload_n 0, 1) := by decide +kernel
theorem dX12_readsPiece_135 : decode cX12_readsPiece 135 = .ok (.aload_n 0, 1) := by decide +kernel
theorem dX12_readsPiece_136 : decode cX12_readsPiece 136 = .ok (.getfield 168, 3) := by decide +kernel
theorem dX12_readsPiece_139 : decode cX12_readsPiece 139 = .ok (.aload_n 0, 1) := by decide +kernel
theorem dX12_readsPiece_140 : decode cX12_readsPiece 140 = .ok (.getfield 188, 3) := by decide +kernel
theorem dX12_readsPiece_143 : decode cX12_readsPiece 143 = .ok (.aload_n 0, 1) := by decide +kernel
theorem dX12_readsPiece_144 : decode cX12_readsPiece 144 = .ok (.getfield 191, 3) := by decide +kernel
theorem dX12_readsPiece_147 : decode cX12_readsPiece 147 = .ok (.aload_n 0, 1) := by decide +kernel
theorem dX12_readsPiece_148 : decode cX12_readsPiece 148 = .ok (.getfield 194, 3) := by decide +kernel
theorem dX12_readsPiece_151 : decode cX12_readsPiece 151 = .ok (.ifCond .ne 7, 3) := by decide +kernel
theorem dX12_readsPiece_154 : decode cX12_readsPiece 154 = .ok (.iconst 1, 1) := by decide +kernel
theorem dX12_readsPiece_155 : decode cX12_readsPiece 155 = .ok (.goto 7, 3) := by decide +kernel
theorem dX12_readsPiece_158 : decode cX12_readsPiece 158 = .ok (.aload_n 0, 1) := by decide +kernel
theorem dX12_readsPiece_159 : decode cX12_readsPiece 159 = .ok (.getfield 194, 3) := by decide +kernel
theorem dX12_readsPiece_162 : decode cX12_readsPiece 162 = .ok (.invokevirtual 135, 3) := by decide +kernel
theorem dX12_readsPiece_165 : decode cX12_readsPiece 165 = .ok (.return_, 1) := by decide +kernel
theorem dX12_exchanges_0 : decode cX12_exchanges 0 = .ok (.iconst 0, 1) := by decide +kernel
theorem dX12_exchanges_1 : decode cX12_exchanges 1 = .ok (.istore_n 1, 1) := by decide +kernel
theorem dX12_exchanges_2 : decode cX12_exchanges 2 = .ok (.iload_n 1, 1) := by decide +kernel
theorem dX12_exchanges_3 : decode cX12_exchanges 3 = .ok (.bipush 73, 2) := by decide +kernel
theorem dX12_exchanges_5 : decode cX12_exchanges 5 = .ok (.if_icmp .ge 35, 3) := by decide +kernel
theorem dX12_exchanges_8 : decode cX12_exchanges 8 = .ok (.aload_n 0, 1) := by decide +kernel
theorem dX12_exchanges_9 : decode cX12_exchanges 9 = .ok (.getfield 7, 3) := by decide +kernel
theorem dX12_exchanges_12 : decode cX12_exchanges 12 = .ok (.iload_n 1, 1) := by decide +kernel
theorem dX12_exchanges_13 : decode cX12_exchanges 13 = .ok (.iaload, 1) := by decide +kernel
theorem dX12_exchanges_14 : decode cX12_exchanges 14 = .ok (.istore_n 2, 1) := by decide +kernel
theorem dX12_exchanges_15 : decode cX12_exchanges 15 = .ok (.aload_n 0, 1) := by decide +kernel
theorem dX12_exchanges_16 : decode cX12_exchanges 16 = .ok (.getfield 7, 3) := by decide +kernel
theorem dX12_exchanges_19 : decode cX12_exchanges 19 = .ok (.iload_n 1, 1) := by decide +kernel
theorem dX12_exchanges_20 : decode cX12_exchanges 20 = .ok (.aload_n 0, 1) := by decide +kernel
theorem dX12_exchanges_21 : decode cX12_exchanges 21 = .ok (.getfield 39, 3) := by decide +kernel
theorem dX12_exchanges_24 : decode cX12_exchanges 24 = .ok (.iload_n 1, 1) := by decide +kernel
theorem dX12_exchanges_25 : decode cX12_exchanges 25 = .ok (.iaload, 1) := by decide +kernel
theorem dX12_exchanges_26 : decode cX12_exchanges 26 = .ok (.iastore, 1) := by decide +kernel
theorem dX12_exchanges_27 : decode cX12_exchanges 27 = .ok (.aload_n 0, 1) := by decide +kernel
theorem dX12_exchanges_28 : decode cX12_exchanges 28 = .ok (.getfield 39, 3) := by decide +kernel
theorem dX12_exchanges_31 : decode cX12_exchanges 31 = .ok (.iload_n 1, 1) := by decide +kernel
theorem dX12_exchanges_32 : decode cX12_exchanges 32 = .ok (.iload_n 2, 1) := by decide +kernel
theorem dX12_exchanges_33 : decode cX12_exchanges 33 = .ok (.iastore, 1) := by decide +kernel
theorem dX12_exchanges_34 : decode cX12_exchanges 34 = .ok (.iinc 1 1, 3) := by decide +kernel
theorem dX12_exchanges_37 : decode cX12_exchanges 37 = .ok (.goto (-35), 3) := by decide +kernel
theorem dX12_exchanges_40 : decode cX12_exchanges 40 = .ok (.return_, 1) := by decide +kernel
theorem dX12_load_0 : decode cX12_load 0 = .ok (.iconst 0, 1) := by decide +kernel
theorem dX12_load_1 : decode cX12_load 1 = .ok (.istore_n 1, 1) := by decide +kernel
theorem dX12_load_2 : decode cX12_load 2 = .ok (.iload_n 1, 1) := by decide +kernel
theorem dX12_load_3 : decode cX12_load 3 = .ok (.bipush 73, 2) := by decide +kernel
theorem dX12_load_5 : decode cX12_load 5 = .ok (.if_icmp .ge 21, 3) := by decide +kernel
theorem dX12_load_8 : decode cX12_load 8 = .ok (.aload_n 0, 1) := by decide +kernel
theorem dX12_load_9 : decode cX12_load 9 = .ok (.getfield 39, 3) := by decide +kernel
theorem dX12_load_12 : decode cX12_load 12 = .ok (.iload_n 1, 1) := by decide +kernel
theorem dX12_load_13 : decode cX12_load 13 = .ok (.aload_n 0, 1) := by decide +kernel
theorem dX12_load_14 : decode cX12_load 14 = .ok (.getfield 7, 3) := by decide +kernel
theorem dX12_load_17 : decode cX12_load 17 = .ok (.iload_n 1, 1) := by decide +kernel
theorem dX12_load_18 : decode cX12_load 18 = .ok (.iaload, 1) := by decide +kernel
theorem dX12_load_19 : decode cX12_load 19 = .ok (.iastore, 1) := by decide +kernel
theorem dX12_load_20 : decode cX12_load 20 = .ok (.iinc 1 1, 3) := by decide +kernel
theorem dX12_load_23 : decode cX12_load 23 = .ok (.goto (-21), 3) := by decide +kernel
theorem dX12_load_26 : decode cX12_load 26 = .ok (.aload_n 0, 1) := by decide +kernel
theorem dX12_load_27 : decode cX12_load 27 = .ok (.iconst 0, 1) := by decide +kernel
theorem dX12_load_28 : decode cX12_load 28 = .ok (.putfield 159, 3) := by decide +kernel
theorem dX12_load_31 : decode cX12_load 31 = .ok (.aload_n 0, 1) := by decide +kernel
theorem dX12_load_32 : decode cX12_load 32 = .ok (.iconst 0, 1) := by decide +kernel
theorem dX12_load_33 : decode cX12_load 33 = .ok (.putfield 174, 3) := by decide +kernel
theorem dX12_load_36 : decode cX12_load 36 = .ok (.aload_n 0, 1) := by decide +kernel
theorem dX12_load_37 : decode cX12_load 37 = .ok (.iconst 1, 1) := by decide +kernel
theorem dX12_load_38 : decode cX12_load 38 = .ok (.invokevirtual 197, 3) := by decide +kernel
theorem dX12_load_41 : decode cX12_load 41 = .ok (.aload_n 0, 1) := by decide +kernel
theorem dX12_load_42 : decode cX12_load 42 = .ok (.getfield 7, 3) := by decide +kernel
theorem dX12_load_45 : decode cX12_load 45 = .ok (.iconst 4, 1) := by decide +kernel
theorem dX12_load_46 : decode cX12_load 46 = .ok (.iconst 0, 1) := by decide +kernel
theorem dX12_load_47 : decode cX12_load 47 = .ok (.iastore, 1) := by decide +kernel
theorem dX12_load_48 : decode cX12_load 48 = .ok (.aload_n 0, 1) := by decide +kernel
theorem dX12_load_49 : decode cX12_load 49 = .ok (.getfield 7, 3) := by decide +kernel
theorem dX12_load_52 : decode cX12_load 52 = .ok (.iconst 0, 1) := by decide +kernel
theorem dX12_load_53 : decode cX12_load 53 = .ok (.aload_n 0, 1) := by decide +kernel
theorem dX12_load_54 : decode cX12_load 54 = .ok (.getfield 171, 3) := by decide +kernel
theorem dX12_load_57 : decode cX12_load 57 = .ok (.iastore, 1) := by decide +kernel
theorem dX12_load_58 : decode cX12_load 58 = .ok (.aload_n 0, 1) := by decide +kernel
theorem dX12_load_59 : decode cX12_load 59 = .ok (.getfield 7, 3) := by decide +kernel
theorem dX12_load_62 : decode cX12_load 62 = .ok (.iconst 1, 1) := by decide +kernel
theorem dX12_load_63 : decode cX12_load 63 = .ok (.aload_n 0, 1) := by decide +kernel
theorem dX12_load_64 : decode cX12_load 64 = .ok (.getfield 162, 3) := by decide +kernel
theorem dX12_load_67 : decode cX12_load 67 = .ok (.iastore, 1) := by decide +kernel
theorem dX12_load_68 : decode cX12_load 68 = .ok (.iconst 0, 1) := by decide +kernel
theorem dX12_load_69 : decode cX12_load 69 = .ok (.istore_n 1, 1) := by decide +kernel
theorem dX12_load_70 : decode cX12_load 70 = .ok (.iload_n 1, 1) := by decide +kernel
theorem dX12_load_71 : decode cX12_load 71 = .ok (.bipush 36, 2) := by decide +kernel
theorem dX12_load_73 : decode cX12_load 73 = .ok (.if_icmp .ge 83, 3) := by decide +kernel
theorem dX12_load_76 : decode cX12_load 76 = .ok (.aload_n 0, 1) := by decide +kernel
theorem dX12_load_77 : decode cX12_load 77 = .ok (.getfield 171, 3) := by decide +kernel
theorem dX12_load_80 : decode cX12_load 80 = .ok (.ifCond .le 31, 3) := by decide +kernel
theorem dX12_load_83 : decode cX12_load 83 = .ok (.iload_n 1, 1) := by decide +kernel
theorem dX12_load_84 : decode cX12_load 84 = .ok (.aload_n 0, 1) := by decide +kernel
theorem dX12_load_85 : decode cX12_load 85 = .ok (.getfield 171, 3) := by decide +kernel
theorem dX12_load_88 : decode cX12_load 88 = .ok (.ifCond .le 10, 3) := by decide +kernel
theorem dX12_load_91 : decode cX12_load 91 = .ok (.aload_n 0, 1) := by decide +kernel
theorem dX12_load_92 : decode cX12_load 92 = .ok (.getfield 171, 3) := by decide +kernel
theorem dX12_load_95 : decode cX12_load 95 = .ok (.goto 4, 3) := by decide +kernel
theorem dX12_load_98 : decode cX12_load 98 = .ok (.iconst 1, 1) := by decide +kernel
theorem dX12_load_99 : decode cX12_load 99 = .ok (.idiv, 1) := by decide +kernel
theorem dX12_load_100 : decode cX12_load 100 = .ok (.aload_n 0, 1) := by decide +kernel
theorem dX12_load_101 : decode cX12_load 101 = .ok (.getfield 162, 3) := by decide +kernel
theorem dX12_load_104 : decode cX12_load 104 = .ok (.if_icmp .ge 7, 3) := by decide +kernel
theorem dX12_load_107 : decode cX12_load 107 = .ok (.iconst 1, 1) := by decide +kernel
theorem dX12_load_108 : decode cX12_load 108 = .ok (.goto 4, 3) := by decide +kernel
theorem dX12_load_111 : decode cX12_load 111 = .ok (.iconst 0, 1) := by decide +kernel
theorem dX12_load_112 : decode cX12_load 112 = .ok (.istore_n 2, 1) := by decide +kernel
theorem dX12_load_113 : decode cX12_load 113 = .ok (.aload_n 0, 1) := by decide +kernel
theorem dX12_load_114 : decode cX12_load 114 = .ok (.getfield 7, 3) := by decide +kernel
theorem dX12_load_117 : decode cX12_load 117 = .ok (.iconst 5, 1) := by decide +kernel
theorem dX12_load_118 : decode cX12_load 118 = .ok (.iload_n 1, 1) := by decide +kernel
theorem dX12_load_119 : decode cX12_load 119 = .ok (.iadd, 1) := by decide +kernel
theorem dX12_load_120 : decode cX12_load 120 = .ok (.iload_n 2, 1) := by decide +kernel
theorem dX12_load_121 : decode cX12_load 121 = .ok (.ifCond .eq 27, 3) := by decide +kernel
theorem dX12_load_124 : decode cX12_load 124 = .ok (.aload_n 0, 1) := by decide +kernel
theorem dX12_load_125 : decode cX12_load 125 = .ok (.getfield 42, 3) := by decide +kernel
theorem dX12_load_128 : decode cX12_load 128 = .ok (.bipush 6, 2) := by decide +kernel
theorem dX12_load_130 : decode cX12_load 130 = .ok (.iload_n 1, 1) := by decide +kernel
theorem dX12_load_131 : decode cX12_load 131 = .ok (.aload_n 0, 1) := by decide +kernel
theorem dX12_load_132 : decode cX12_load 132 = .ok (.getfield 171, 3) := by decide +kernel
theorem dX12_load_135 : decode cX12_load 135 = .ok (.idiv, 1) := by decide +kernel
theorem dX12_load_136 : decode cX12_load 136 = .ok (.imul, 1) := by decide +kernel
theorem dX12_load_137 : decode cX12_load 137 = .ok (.iload_n 1, 1) := by decide +kernel
theorem dX12_load_138 : decode cX12_load 138 = .ok (.aload_n 0, 1) := by decide +kernel
theorem dX12_load_139 : decode cX12_load 139 = .ok (.getfield 171, 3) := by decide +kernel
theorem dX12_load_142 : decode cX12_load 142 = .ok (.irem, 1) := by decide +kernel
theorem dX12_load_143 : decode cX12_load 143 = .ok (.iadd, 1) := by decide +kernel
theorem dX12_load_144 : decode cX12_load 144 = .ok (.iaload, 1) := by decide +kernel
theorem dX12_load_145 : decode cX12_load 145 = .ok (.goto 4, 3) := by decide +kernel
theorem dX12_load_148 : decode cX12_load 148 = .ok (.iconst 0, 1) := by decide +kernel
theorem dX12_load_149 : decode cX12_load 149 = .ok (.iastore, 1) := by decide +kernel
theorem dX12_load_150 : decode cX12_load 150 = .ok (.iinc 1 1, 3) := by decide +kernel
theorem dX12_load_153 : decode cX12_load 153 = .ok (.goto (-83), 3) := by decide +kernel
theorem dX12_load_156 : decode cX12_load 156 = .ok (.aload_n 0, 1) := by decide +kernel
theorem dX12_load_157 : decode cX12_load 157 = .ok (.getfield 174, 3) := by decide +kernel
theorem dX12_load_160 : decode cX12_load 160 = .ok (.ifCond .ne 21, 3) := by decide +kernel
theorem dX12_load_163 : decode cX12_load 163 = .ok (.aload_n 0, 1) := by decide +kernel
theorem dX12_load_164 : decode cX12_load 164 = .ok (.getfield 159, 3) := by decide +kernel
theorem dX12_load_167 : decode cX12_load 167 = .ok (.aload_n 0, 1) := by decide +kernel
theorem dX12_load_168 : decode cX12_load 168 = .ok (.getfield 156, 3) := by decide +kernel
theorem dX12_load_171 : decode cX12_load 171 = .ok (.if_icmp .ge 10, 3) := by decide +kernel
theorem dX12_load_174 : decode cX12_load 174 = .ok (.aload_n 0, 1) := by decide +kernel
theorem dX12_load_175 : decode cX12_load 175 = .ok (.invokevirtual 204, 3) := by decide +kernel
theorem dX12_load_178 : decode cX12_load 178 = .ok (.goto (-22), 3) := by decide +kernel
theorem dX12_load_181 : decode cX12_load 181 = .ok (.aload_n 0, 1) := by decide +kernel
theorem dX12_load_182 : decode cX12_load 182 = .ok (.invokevirtual 207, 3) := by decide +kernel
theorem dX12_load_185 : decode cX12_load 185 = .ok (.aload_n 0, 1) := by decide +kernel
theorem dX12_load_186 : decode cX12_load 186 = .ok (.getfield 174, 3) := by decide +kernel
theorem dX12_load_189 : decode cX12_load 189 = .ok (.ifCond .eq 11, 3) := by decide +kernel
theorem dX12_load_192 : decode cX12_load 192 = .ok (.bipush (-10), 2) := by decide +kernel
theorem dX12_load_194 : decode cX12_load 194 = .ok (.aload_n 0, 1) := by decide +kernel
theorem dX12_load_195 : decode cX12_load 195 = .ok (.getfield 159, 3) := by decide +kernel
theorem dX12_load_198 : decode cX12_load 198 = .ok (.isub, 1) := by decide +kernel
theorem dX12_load_199 : decode cX12_load 199 = .ok (.ireturn, 1) := by decide +kernel
theorem dX12_load_200 : decode cX12_load 200 = .ok (.aload_n 0, 1) := by decide +kernel
theorem dX12_load_201 : decode cX12_load 201 = .ok (.invokevirtual 123, 3) := by decide +kernel
theorem dX12_load_204 : decode cX12_load 204 = .ok (.aload_n 0, 1) := by decide +kernel
theorem dX12_load_205 : decode cX12_load 205 = .ok (.invokevirtual 207, 3) := by decide +kernel
theorem dX12_load_208 : decode cX12_load 208 = .ok (.aload_n 0, 1) := by decide +kernel
theorem dX12_load_209 : decode cX12_load 209 = .ok (.iconst 0, 1) := by decide +kernel
theorem dX12_load_210 : decode cX12_load 210 = .ok (.putfield 156, 3) := by decide +kernel
theorem dX12_load_213 : decode cX12_load 213 = .ok (.aload_n 0, 1) := by decide +kernel
theorem dX12_load_214 : decode cX12_load 214 = .ok (.getfield 7, 3) := by decide +kernel
theorem dX12_load_217 : decode cX12_load 217 = .ok (.iconst 4, 1) := by decide +kernel
theorem dX12_load_218 : decode cX12_load 218 = .ok (.iaload, 1) := by decide +kernel
theorem dX12_load_219 : decode cX12_load 219 = .ok (.ireturn, 1) := by decide +kernel
theorem dX12_all_0 : decode cX12_all 0 = .ok (.lconst 0, 1) := by decide +kernel
theorem dX12_all_1 : decode cX12_all 1 = .ok (.lstore_n 1, 1) := by decide +kernel
theorem dX12_all_2 : decode cX12_all 2 = .ok (.iconst 0, 1) := by decide +kernel
theorem dX12_all_3 : decode cX12_all 3 = .ok (.istore_n 3, 1) := by decide +kernel
theorem dX12_all_4 : decode cX12_all 4 = .ok (.iload_n 3, 1) := by decide +kernel
theorem dX12_all_5 : decode cX12_all 5 = .ok (.aload_n 0, 1) := by decide +kernel
theorem dX12_all_6 : decode cX12_all 6 = .ok (.invokevirtual 68, 3) := by decide +kernel
theorem dX12_all_9 : decode cX12_all 9 = .ok (.if_icmp .ge 27, 3) := by decide +kernel
theorem dX12_all_12 : decode cX12_all 12 = .ok (.lload_n 1, 1) := by decide +kernel
theorem dX12_all_13 : decode cX12_all 13 = .ok (.aload_n 0, 1) := by decide +kernel
theorem dX12_all_14 : decode cX12_all 14 = .ok (.iload_n 3, 1) := by decide +kernel
theorem dX12_all_15 : decode cX12_all 15 = .ok (.invokevirtual 76, 3) := by decide +kernel
theorem dX12_all_18 : decode cX12_all 18 = .ok (.ifCond .eq 9, 3) := by decide +kernel
theorem dX12_all_21 : decode cX12_all 21 = .ok (.lconst 1, 1) := by decide +kernel
theorem dX12_all_22 : decode cX12_all 22 = .ok (.iload_n 3, 1) := by decide +kernel
theorem dX12_all_23 : decode cX12_all 23 = .ok (.lshl, 1) := by decide +kernel
theorem dX12_all_24 : decode cX12_all 24 = .ok (.goto 4, 3) := by decide +kernel
theorem dX12_all_27 : decode cX12_all 27 = .ok (.lconst 0, 1) := by decide +kernel
theorem dX12_all_28 : decode cX12_all 28 = .ok (.lor, 1) := by decide +kernel
theorem dX12_all_29 : decode cX12_all 29 = .ok (.lstore_n 1, 1) := by decide +kernel
theorem dX12_all_30 : decode cX12_all 30 = .ok (.iinc 3 1, 3) := by decide +kernel
theorem dX12_all_33 : decode cX12_all 33 = .ok (.goto (-29), 3) := by decide +kernel
theorem dX12_all_36 : decode cX12_all 36 = .ok (.lload_n 1, 1) := by decide +kernel
theorem dX12_all_37 : decode cX12_all 37 = .ok (.lreturn, 1) := by decide +kernel
theorem dX12_beside_0 : decode cX12_beside 0 = .ok (.lconst 0, 1) := by decide +kernel
theorem dX12_beside_1 : decode cX12_beside 1 = .ok (.lstore_n 3, 1) := by decide +kernel
theorem dX12_beside_2 : decode cX12_beside 2 = .ok (.iconst 0, 1) := by decide +kernel
theorem dX12_beside_3 : decode cX12_beside 3 = .ok (.istore 5, 2) := by decide +kernel
theorem dX12_beside_5 : decode cX12_beside 5 = .ok (.iload 5, 2) := by decide +kernel
theorem dX12_beside_7 : decode cX12_beside 7 = .ok (.aload_n 0, 1) := by decide +kernel
theorem dX12_beside_8 : decode cX12_beside 8 = .ok (.invokevirtual 68, 3) := by decide +kernel
theorem dX12_beside_11 : decode cX12_beside 11 = .ok (.if_icmp .ge 138, 3) := by decide +kernel
theorem dX12_beside_14 : decode cX12_beside 14 = .ok (.lload_n 1, 1) := by decide +kernel
theorem dX12_beside_15 : decode cX12_beside 15 = .ok (.iload 5, 2) := by decide +kernel
theorem dX12_beside_17 : decode cX12_beside 17 = .ok (.lshr, 1) := by decide +kernel
theorem dX12_beside_18 : decode cX12_beside 18 = .ok (.lconst 1, 1) := by decide +kernel
theorem dX12_beside_19 : decode cX12_beside 19 = .ok (.land, 1) := by decide +kernel
theorem dX12_beside_20 : decode cX12_beside 20 = .ok (.lconst 1, 1) := by decide +kernel
theorem dX12_beside_21 : decode cX12_beside 21 = .ok (.lcmp, 1) := by decide +kernel
theorem dX12_beside_22 : decode cX12_beside 22 = .ok (.ifCond .ne 121, 3) := by decide +kernel
theorem dX12_beside_25 : decode cX12_beside 25 = .ok (.iload 5, 2) := by decide +kernel
theorem dX12_beside_27 : decode cX12_beside 27 = .ok (.aload_n 0, 1) := by decide +kernel
theorem dX12_beside_28 : decode cX12_beside 28 = .ok (.getfield 7, 3) := by decide +kernel
theorem dX12_beside_31 : decode cX12_beside 31 = .ok (.iconst 0, 1) := by decide +kernel
theorem dX12_beside_32 : decode cX12_beside 32 = .ok (.iaload, 1) := by decide +kernel
theorem dX12_beside_33 : decode cX12_beside 33 = .ok (.irem, 1) := by decide +kernel
theorem dX12_beside_34 : decode cX12_beside 34 = .ok (.istore 6, 2) := by decide +kernel
theorem dX12_beside_36 : decode cX12_beside 36 = .ok (.lload_n 3, 1) := by decide +kernel
theorem dX12_beside_37 : decode cX12_beside 37 = .ok (.iload 6, 2) := by decide +kernel
theorem dX12_beside_39 : decode cX12_beside 39 = .ok (.ifCond .le 12, 3) := by decide +kernel
theorem dX12_beside_42 : decode cX12_beside 42 = .ok (.lconst 1, 1) := by decide +kernel
theorem dX12_beside_43 : decode cX12_beside 43 = .ok (.iload 5, 2) := by decide +kernel
theorem dX12_beside_45 : decode cX12_beside 45 = .ok (.iconst 1, 1) := by decide +kernel
theorem dX12_beside_46 : decode cX12_beside 46 = .ok (.isub, 1) := by decide +kernel
theorem dX12_beside_47 : decode cX12_beside 47 = .ok (.lshl, 1) := by decide +kernel
theorem dX12_beside_48 : decode cX12_beside 48 = .ok (.goto 4, 3) := by decide +kernel
theorem dX12_beside_51 : decode cX12_beside 51 = .ok (.lconst 0, 1) := by decide +kernel
theorem dX12_beside_52 : decode cX12_beside 52 = .ok (.lor, 1) := by decide +kernel
theorem dX12_beside_53 : decode cX12_beside 53 = .ok (.lstore_n 3, 1) := by decide +kernel
theorem dX12_beside_54 : decode cX12_beside 54 = .ok (.lload_n 3, 1) := by decide +kernel
theorem dX12_beside_55 : decode cX12_beside 55 = .ok (.iload 6, 2) := by decide +kernel
theorem dX12_beside_57 : decode cX12_beside 57 = .ok (.iconst 1, 1) := by decide +kernel
theorem dX12_beside_58 : decode cX12_beside 58 = .ok (.iadd, 1) := by decide +kernel
theorem dX12_beside_59 : decode cX12_beside 59 = .ok (.aload_n 0, 1) := by decide +kernel
theorem dX12_beside_60 : decode cX12_beside 60 = .ok (.getfield 7, 3) := by decide +kernel
theorem dX12_beside_63 : decode cX12_beside 63 = .ok (.iconst 0, 1) := by decide +kernel
theorem dX12_beside_64 : decode cX12_beside 64 = .ok (.iaload, 1) := by decide +kernel
theorem dX12_beside_65 : decode cX12_beside 65 = .ok (.if_icmp .ge 12, 3) := by decide +kernel
theorem dX12_beside_68 : decode cX12_beside 68 = .ok (.lconst 1, 1) := by decide +kernel
theorem dX12_beside_69 : decode cX12_beside 69 = .ok (.iload 5, 2) := by decide +kernel
theorem dX12_beside_71 : decode cX12_beside 71 = .ok (.iconst 1, 1) := by decide +kernel
theorem dX12_beside_72 : decode cX12_beside 72 = .ok (.iadd, 1) := by decide +kernel
theorem dX12_beside_73 : decode cX12_beside 73 = .ok (.lshl, 1) := by decide +kernel
theorem dX12_beside_74 : decode cX12_beside 74 = .ok (.goto 4, 3) := by decide +kernel
theorem dX12_beside_77 : decode cX12_beside 77 = .ok (.lconst 0, 1) := by decide +kernel
theorem dX12_beside_78 : decode cX12_beside 78 = .ok (.lor, 1) := by decide +kernel
theorem dX12_beside_79 : decode cX12_beside 79 = .ok (.lstore_n 3, 1) := by decide +kernel
theorem dX12_beside_80 : decode cX12_beside 80 = .ok (.lload_n 3, 1) := by decide +kernel
theorem dX12_beside_81 : decode cX12_beside 81 = .ok (.iload 5, 2) := by decide +kernel
theorem dX12_beside_83 : decode cX12_beside 83 = .ok (.aload_n 0, 1) := by decide +kernel
theorem dX12_beside_84 : decode cX12_beside 84 = .ok (.getfield 7, 3) := by decide +kernel
theorem dX12_beside_87 : decode cX12_beside 87 = .ok (.iconst 0, 1) := by decide +kernel
theorem dX12_beside_88 : decode cX12_beside 88 = .ok (.iaload, 1) := by decide +kernel
theorem dX12_beside_89 : decode cX12_beside 89 = .ok (.if_icmp .lt 17, 3) := by decide +kernel
theorem dX12_beside_92 : decode cX12_beside 92 = .ok (.lconst 1, 1) := by decide +kernel
theorem dX12_beside_93 : decode cX12_beside 93 = .ok (.iload 5, 2) := by decide +kernel
theorem dX12_beside_95 : decode cX12_beside 95 = .ok (.aload_n 0, 1) := by decide +kernel
theorem dX12_beside_96 : decode cX12_beside 96 = .ok (.getfield 7, 3) := by decide +kernel
theorem dX12_beside_99 : decode cX12_beside 99 = .ok (.iconst 0, 1) := by decide +kernel
theorem dX12_beside_100 : decode cX12_beside 100 = .ok (.iaload, 1) := by decide +kernel
theorem dX12_beside_101 : decode cX12_beside 101 = .ok (.isub, 1) := by decide +kernel
theorem dX12_beside_102 : decode cX12_beside 102 = .ok (.lshl, 1) := by decide +kernel
theorem dX12_beside_103 : decode cX12_beside 103 = .ok (.goto 4, 3) := by decide +kernel
theorem dX12_beside_106 : decode cX12_beside 106 = .ok (.lconst 0, 1) := by decide +kernel
theorem dX12_beside_107 : decode cX12_beside 107 = .ok (.lor, 1) := by decide +kernel
theorem dX12_beside_108 : decode cX12_beside 108 = .ok (.lstore_n 3, 1) := by decide +kernel
theorem dX12_beside_109 : decode cX12_beside 109 = .ok (.lload_n 3, 1) := by decide +kernel
theorem dX12_beside_110 : decode cX12_beside 110 = .ok (.iload 5, 2) := by decide +kernel
theorem dX12_beside_112 : decode cX12_beside 112 = .ok (.aload_n 0, 1) := by decide +kernel
theorem dX12_beside_113 : decode cX12_beside 113 = .ok (.getfield 7, 3) := by decide +kernel
theorem dX12_beside_116 : decode cX12_beside 116 = .ok (.iconst 0, 1) := by decide +kernel
theorem dX12_beside_117 : decode cX12_beside 117 = .ok (.iaload, 1) := by decide +kernel
theorem dX12_beside_118 : decode cX12_beside 118 = .ok (.iadd, 1) := by decide +kernel
theorem dX12_beside_119 : decode cX12_beside 119 = .ok (.aload_n 0, 1) := by decide +kernel
theorem dX12_beside_120 : decode cX12_beside 120 = .ok (.invokevirtual 68, 3) := by decide +kernel
theorem dX12_beside_123 : decode cX12_beside 123 = .ok (.if_icmp .ge 17, 3) := by decide +kernel
theorem dX12_beside_126 : decode cX12_beside 126 = .ok (.lconst 1, 1) := by decide +kernel
theorem dX12_beside_127 : decode cX12_beside 127 = .ok (.iload 5, 2) := by decide +kernel
theorem dX12_beside_129 : decode cX12_beside 129 = .ok (.aload_n 0, 1) := by decide +kernel
theorem dX12_beside_130 : decode cX12_beside 130 = .ok (.getfield 7, 3) := by decide +kernel
theorem dX12_beside_133 : decode cX12_beside 133 = .ok (.iconst 0, 1) := by decide +kernel
theorem dX12_beside_134 : decode cX12_beside 134 = .ok (.iaload, 1) := by decide +kernel
theorem dX12_beside_135 : decode cX12_beside 135 = .ok (.iadd, 1) := by decide +kernel
theorem dX12_beside_136 : decode cX12_beside 136 = .ok (.lshl, 1) := by decide +kernel
theorem dX12_beside_137 : decode cX12_beside 137 = .ok (.goto 4, 3) := by decide +kernel
theorem dX12_beside_140 : decode cX12_beside 140 = .ok (.lconst 0, 1) := by decide +kernel
theorem dX12_beside_141 : decode cX12_beside 141 = .ok (.lor, 1) := by decide +kernel
theorem dX12_beside_142 : decode cX12_beside 142 = .ok (.lstore_n 3, 1) := by decide +kernel
theorem dX12_beside_143 : decode cX12_beside 143 = .ok (.iinc 5 1, 3) := by decide +kernel
theorem dX12_beside_146 : decode cX12_beside 146 = .ok (.goto (-141), 3) := by decide +kernel
theorem dX12_beside_149 : decode cX12_beside 149 = .ok (.lload_n 3, 1) := by decide +kernel
theorem dX12_beside_150 : decode cX12_beside 150 = .ok (.lreturn, 1) := by decide +kernel
theorem dX12_fits_0 : decode cX12_fits 0 = .ok (.aload_n 0, 1) := by decide +kernel
theorem dX12_fits_1 : decode cX12_fits 1 = .ok (.aload_n 0, 1) := by decide +kernel
theorem dX12_fits_2 : decode cX12_fits 2 = .ok (.getfield 23, 3) := by decide +kernel
theorem dX12_fits_5 : decode cX12_fits 5 = .ok (.iload_n 1, 1) := by decide +kernel
theorem dX12_fits_6 : decode cX12_fits 6 = .ok (.iaload, 1) := by decide +kernel
theorem dX12_fits_7 : decode cX12_fits 7 = .ok (.iconst 2, 1) := by decide +kernel
theorem dX12_fits_8 : decode cX12_fits 8 = .ok (.invokevirtual 95, 3) := by decide +kernel
theorem dX12_fits_11 : decode cX12_fits 11 = .ok (.istore_n 2, 1) := by decide +kernel
theorem dX12_fits_12 : decode cX12_fits 12 = .ok (.aload_n 0, 1) := by decide +kernel
theorem dX12_fits_13 : decode cX12_fits 13 = .ok (.getfield 32, 3) := by decide +kernel
theorem dX12_fits_16 : decode cX12_fits 16 = .ok (.iload_n 1, 1) := by decide +kernel
theorem dX12_fits_17 : decode cX12_fits 17 = .ok (.laload, 1) := by decide +kernel
theorem dX12_fits_18 : decode cX12_fits 18 = .ok (.aload_n 0, 1) := by decide +kernel
theorem dX12_fits_19 : decode cX12_fits 19 = .ok (.getfield 210, 3) := by decide +kernel
theorem dX12_fits_22 : decode cX12_fits 22 = .ok (.land, 1) := by decide +kernel
theorem dX12_fits_23 : decode cX12_fits 23 = .ok (.lconst 0, 1) := by decide +kernel
theorem dX12_fits_24 : decode cX12_fits 24 = .ok (.lcmp, 1) := by decide +kernel
theorem dX12_fits_25 : decode cX12_fits 25 = .ok (.ifCond .ne 21, 3) := by decide +kernel
theorem dX12_fits_28 : decode cX12_fits 28 = .ok (.aload_n 0, 1) := by decide +kernel
theorem dX12_fits_29 : decode cX12_fits 29 = .ok (.getfield 54, 3) := by decide +kernel
theorem dX12_fits_32 : decode cX12_fits 32 = .ok (.aload_n 0, 1) := by decide +kernel
theorem dX12_fits_33 : decode cX12_fits 33 = .ok (.getfield 23, 3) := by decide +kernel
theorem dX12_fits_36 : decode cX12_fits 36 = .ok (.iload_n 1, 1) := by decide +kernel
theorem dX12_fits_37 : decode cX12_fits 37 = .ok (.iaload, 1) := by decide +kernel
theorem dX12_fits_38 : decode cX12_fits 38 = .ok (.iaload, 1) := by decide +kernel
theorem dX12_fits_39 : decode cX12_fits 39 = .ok (.ifCond .le 7, 3) := by decide +kernel
theorem dX12_fits_42 : decode cX12_fits 42 = .ok (.iconst 1, 1) := by decide +kernel
theorem dX12_fits_43 : decode cX12_fits 43 = .ok (.goto 4, 3) := by decide +kernel
theorem dX12_fits_46 : decode cX12_fits 46 = .ok (.iconst 0, 1) := by decide +kernel
theorem dX12_fits_47 : decode cX12_fits 47 = .ok (.istore_n 3, 1) := by decide +kernel
theorem dX12_fits_48 : decode cX12_fits 48 = .ok (.iload_n 3, 1) := by decide +kernel
theorem dX12_fits_49 : decode cX12_fits 49 = .ok (.ifCond .eq 42, 3) := by decide +kernel
theorem dX12_fits_52 : decode cX12_fits 52 = .ok (.aload_n 0, 1) := by decide +kernel
theorem dX12_fits_53 : decode cX12_fits 53 = .ok (.getfield 7, 3) := by decide +kernel
theorem dX12_fits_56 : decode cX12_fits 56 = .ok (.iconst 3, 1) := by decide +kernel
theorem dX12_fits_57 : decode cX12_fits 57 = .ok (.iaload, 1) := by decide +kernel
theorem dX12_fits_58 : decode cX12_fits 58 = .ok (.ifCond .eq 29, 3) := by decide +kernel
theorem dX12_fits_61 : decode cX12_fits 61 = .ok (.iload_n 2, 1) := by decide +kernel
theorem dX12_fits_62 : decode cX12_fits 62 = .ok (.ifCond .eq 25, 3) := by decide +kernel
theorem dX12_fits_65 : decode cX12_fits 65 = .ok (.aload_n 0, 1) := by decide +kernel
theorem dX12_fits_66 : decode cX12_fits 66 = .ok (.aload_n 0, 1) := by decide +kernel
theorem dX12_fits_67 : decode cX12_fits 67 = .ok (.getfield 32, 3) := by decide +kernel
theorem dX12_fits_70 : decode cX12_fits 70 = .ok (.iload_n 1, 1) := by decide +kernel
theorem dX12_fits_71 : decode cX12_fits 71 = .ok (.laload, 1) := by decide +kernel
theorem dX12_fits_72 : decode cX12_fits 72 = .ok (.invokevirtual 214, 3) := by decide +kernel
theorem dX12_fits_75 : decode cX12_fits 75 = .ok (.aload_n 0, 1) := by decide +kernel
theorem dX12_fits_76 : decode cX12_fits 76 = .ok (.getfield 51, 3) := by decide +kernel
theorem dX12_fits_79 : decode cX12_fits 79 = .ok (.iload_n 2, 1) := by decide +kernel
theorem dX12_fits_80 : decode cX12_fits 80 = .ok (.laload, 1) := by decide +kernel
theorem dX12_fits_81 : decode cX12_fits 81 = .ok (.land, 1) := by decide +kernel
theorem dX12_fits_82 : decode cX12_fits 82 = .ok (.lconst 0, 1) := by decide +kernel
theorem dX12_fits_83 : decode cX12_fits 83 = .ok (.lcmp, 1) := by decide +kernel
theorem dX12_fits_84 : decode cX12_fits 84 = .ok (.ifCond .ne 7, 3) := by decide +kernel
theorem dX12_fits_87 : decode cX12_fits 87 = .ok (.iconst 1, 1) := by decide +kernel
theorem dX12_fits_88 : decode cX12_fits 88 = .ok (.goto 4, 3) := by decide +kernel
theorem dX12_fits_91 : decode cX12_fits 91 = .ok (.iconst 0, 1) := by decide +kernel
theorem dX12_fits_92 : decode cX12_fits 92 = .ok (.ireturn, 1) := by decide +kernel
