theorem dX0_init_0 : decode cX0_init 0 = .ok (.aload_n 0, 1) := by decide +kernel
theorem dX0_init_1 : decode cX0_init 1 = .ok (.iload_n 1, 1) := by decide +kernel
theorem dX0_init_2 : decode cX0_init 2 = .ok (.lload 5, 2) := by decide +kernel
theorem dX0_init_4 : decode cX0_init 4 = .ok (.invokestatic 3, 3) := by decide +kernel
theorem dX0_init_7 : decode cX0_init 7 = .ok (.invokespecial 9, 3) := by decide +kernel
theorem dX0_init_10 : decode cX0_init 10 = .ok (.aload_n 0, 1) := by decide +kernel
theorem dX0_init_11 : decode cX0_init 11 = .ok (.iload_n 2, 1) := by decide +kernel
theorem dX0_init_12 : decode cX0_init 12 = .ok (.putfield 15, 3) := by decide +kernel
theorem dX0_init_15 : decode cX0_init 15 = .ok (.aload_n 0, 1) := by decide +kernel
theorem dX0_init_16 : decode cX0_init 16 = .ok (.iload_n 3, 1) := by decide +kernel
theorem dX0_init_17 : decode cX0_init 17 = .ok (.putfield 21, 3) := by decide +kernel
theorem dX0_init_20 : decode cX0_init 20 = .ok (.aload_n 0, 1) := by decide +kernel
theorem dX0_init_21 : decode cX0_init 21 = .ok (.iload 4, 2) := by decide +kernel
theorem dX0_init_23 : decode cX0_init 23 = .ok (.putfield 24, 3) := by decide +kernel
theorem dX0_init_26 : decode cX0_init 26 = .ok (.aload_n 0, 1) := by decide +kernel
theorem dX0_init_27 : decode cX0_init 27 = .ok (.lload 5, 2) := by decide +kernel
theorem dX0_init_29 : decode cX0_init 29 = .ok (.putfield 27, 3) := by decide +kernel
theorem dX0_init_32 : decode cX0_init 32 = .ok (.aload_n 0, 1) := by decide +kernel
theorem dX0_init_33 : decode cX0_init 33 = .ok (.iload_n 2, 1) := by decide +kernel
theorem dX0_init_34 : decode cX0_init 34 = .ok (.iload_n 3, 1) := by decide +kernel
theorem dX0_init_35 : decode cX0_init 35 = .ok (.invokestatic 31, 3) := by decide +kernel
theorem dX0_init_38 : decode cX0_init 38 = .ok (.putfield 35, 3) := by decide +kernel
theorem dX0_init_41 : decode cX0_init 41 = .ok (.aload_n 0, 1) := by decide +kernel
theorem dX0_init_42 : decode cX0_init 42 = .ok (.aload_n 0, 1) := by decide +kernel
theorem dX0_init_43 : decode cX0_init 43 = .ok (.getfield 35, 3) := by decide +kernel
theorem dX0_init_46 : decode cX0_init 46 = .ok (.iload_n 3, 1) := by decide +kernel
theorem dX0_init_47 : decode cX0_init 47 = .ok (.iconst 1, 1) := by decide +kernel
theorem dX0_init_48 : decode cX0_init 48 = .ok (.isub, 1) := by decide +kernel
theorem dX0_init_49 : decode cX0_init 49 = .ok (.lshl, 1) := by decide +kernel
theorem dX0_init_50 : decode cX0_init 50 = .ok (.putfield 38, 3) := by decide +kernel
theorem dX0_init_53 : decode cX0_init 53 = .ok (.return_, 1) := by decide +kernel
theorem dX0_firstColumnOf_0 : decode cX0_firstColumnOf 0 = .ok (.lconst 0, 1) := by decide +kernel
theorem dX0_firstColumnOf_1 : decode cX0_firstColumnOf 1 = .ok (.lstore_n 2, 1) := by decide +kernel
theorem dX0_firstColumnOf_2 : decode cX0_firstColumnOf 2 = .ok (.iconst 0, 1) := by decide +kernel
theorem dX0_firstColumnOf_3 : decode cX0_firstColumnOf 3 = .ok (.istore 4, 2) := by decide +kernel
theorem dX0_firstColumnOf_5 : decode cX0_firstColumnOf 5 = .ok (.iload 4, 2) := by decide +kernel
theorem dX0_firstColumnOf_7 : decode cX0_firstColumnOf 7 = .ok (.iload_n 0, 1) := by decide +kernel
theorem dX0_firstColumnOf_8 : decode cX0_firstColumnOf 8 = .ok (.if_icmp .ge 18, 3) := by decide +kernel
theorem dX0_firstColumnOf_11 : decode cX0_firstColumnOf 11 = .ok (.lload_n 2, 1) := by decide +kernel
theorem dX0_firstColumnOf_12 : decode cX0_firstColumnOf 12 = .ok (.lconst 1, 1) := by decide +kernel
theorem dX0_firstColumnOf_13 : decode cX0_firstColumnOf 13 = .ok (.iload 4, 2) := by decide +kernel
theorem dX0_firstColumnOf_15 : decode cX0_firstColumnOf 15 = .ok (.iload_n 1, 1) := by decide +kernel
theorem dX0_firstColumnOf_16 : decode cX0_firstColumnOf 16 = .ok (.imul, 1) := by decide +kernel
theorem dX0_firstColumnOf_17 : decode cX0_firstColumnOf 17 = .ok (.lshl, 1) := by decide +kernel
theorem dX0_firstColumnOf_18 : decode cX0_firstColumnOf 18 = .ok (.lor, 1) := by decide +kernel
theorem dX0_firstColumnOf_19 : decode cX0_firstColumnOf 19 = .ok (.lstore_n 2, 1) := by decide +kernel
theorem dX0_firstColumnOf_20 : decode cX0_firstColumnOf 20 = .ok (.iinc 4 1, 3) := by decide +kernel
theorem dX0_firstColumnOf_23 : decode cX0_firstColumnOf 23 = .ok (.goto (-18), 3) := by decide +kernel
theorem dX0_firstColumnOf_26 : decode cX0_firstColumnOf 26 = .ok (.lload_n 2, 1) := by decide +kernel
theorem dX0_firstColumnOf_27 : decode cX0_firstColumnOf 27 = .ok (.lreturn, 1) := by decide +kernel
theorem dX0_kind_0 : decode cX0_kind 0 = .ok (.iconst 2, 1) := by decide +kernel
theorem dX0_kind_1 : decode cX0_kind 1 = .ok (.ireturn, 1) := by decide +kernel
theorem dX0_changed_0 : decode cX0_changed 0 = .ok (.new 16, 3) := by decide +kernel
theorem dX0_changed_3 : decode cX0_changed 3 = .ok (.dup, 1) := by decide +kernel
theorem dX0_changed_4 : decode cX0_changed 4 = .ok (.aload_n 0, 1) := by decide +kernel
theorem dX0_changed_5 : decode cX0_changed 5 = .ok (.getfield 41, 3) := by decide +kernel
theorem dX0_changed_8 : decode cX0_changed 8 = .ok (.aload_n 0, 1) := by decide +kernel
theorem dX0_changed_9 : decode cX0_changed 9 = .ok (.getfield 15, 3) := by decide +kernel
theorem dX0_changed_12 : decode cX0_changed 12 = .ok (.aload_n 0, 1) := by decide +kernel
theorem dX0_changed_13 : decode cX0_changed 13 = .ok (.getfield 21, 3) := by decide +kernel
theorem dX0_changed_16 : decode cX0_changed 16 = .ok (.iload_n 1, 1) := by decide +kernel
theorem dX0_changed_17 : decode cX0_changed 17 = .ok (.lload_n 2, 1) := by decide +kernel
theorem dX0_changed_18 : decode cX0_changed 18 = .ok (.invokespecial 44, 3) := by decide +kernel
theorem dX0_changed_21 : decode cX0_changed 21 = .ok (.areturn, 1) := by decide +kernel
theorem dX0_unitAt_0 : decode cX0_unitAt 0 = .ok (.aload_n 0, 1) := by decide +kernel
theorem dX0_unitAt_1 : decode cX0_unitAt 1 = .ok (.getfield 27, 3) := by decide +kernel
theorem dX0_unitAt_4 : decode cX0_unitAt 4 = .ok (.lconst 1, 1) := by decide +kernel
theorem dX0_unitAt_5 : decode cX0_unitAt 5 = .ok (.iload_n 1, 1) := by decide +kernel
theorem dX0_unitAt_6 : decode cX0_unitAt 6 = .ok (.lshl, 1) := by decide +kernel
theorem dX0_unitAt_7 : decode cX0_unitAt 7 = .ok (.land, 1) := by decide +kernel
theorem dX0_unitAt_8 : decode cX0_unitAt 8 = .ok (.lreturn, 1) := by decide +kernel
theorem dX0_withoutRow_0 : decode cX0_withoutRow 0 = .ok (.lconst 1, 1) := by decide +kernel
theorem dX0_withoutRow_1 : decode cX0_withoutRow 1 = .ok (.aload_n 0, 1) := by decide +kernel
theorem dX0_withoutRow_2 : decode cX0_withoutRow 2 = .ok (.getfield 21, 3) := by decide +kernel
theorem dX0_withoutRow_5 : decode cX0_withoutRow 5 = .ok (.lshl, 1) := by decide +kernel
theorem dX0_withoutRow_6 : decode cX0_withoutRow 6 = .ok (.lconst 1, 1) := by decide +kernel
theorem dX0_withoutRow_7 : decode cX0_withoutRow 7 = .ok (.lsub, 1) := by decide +kernel
theorem dX0_withoutRow_8 : decode cX0_withoutRow 8 = .ok (.iload_n 1, 1) := by decide +kernel
theorem dX0_withoutRow_9 : decode cX0_withoutRow 9 = .ok (.aload_n 0, 1) := by decide +kernel
theorem dX0_withoutRow_10 : decode cX0_withoutRow 10 = .ok (.getfield 21, 3) := by decide +kernel
theorem dX0_withoutRow_13 : decode cX0_withoutRow 13 = .ok (.imul, 1) := by decide +kernel
theorem dX0_withoutRow_14 : decode cX0_withoutRow 14 = .ok (.lshl, 1) := by decide +kernel
theorem dX0_withoutRow_15 : decode cX0_withoutRow 15 = .ok (.lstore_n 2, 1) := by decide +kernel
theorem dX0_withoutRow_16 : decode cX0_withoutRow 16 = .ok (.aload_n 0, 1) := by decide +kernel
theorem dX0_withoutRow_17 : decode cX0_withoutRow 17 = .ok (.aload_n 0, 1) := by decide +kernel
theorem dX0_withoutRow_18 : decode cX0_withoutRow 18 = .ok (.getfield 24, 3) := by decide +kernel
theorem dX0_withoutRow_21 : decode cX0_withoutRow 21 = .ok (.iconst 1, 1) := by decide +kernel
theorem dX0_withoutRow_22 : decode cX0_withoutRow 22 = .ok (.iload_n 1, 1) := by decide +kernel
theorem dX0_withoutRow_23 : decode cX0_withoutRow 23 = .ok (.ishl, 1) := by decide +kernel
theorem dX0_withoutRow_24 : decode cX0_withoutRow 24 = .ok (.ior, 1) := by decide +kernel
theorem dX0_withoutRow_25 : decode cX0_withoutRow 25 = .ok (.aload_n 0, 1) := by decide +kernel
theorem dX0_withoutRow_26 : decode cX0_withoutRow 26 = .ok (.getfield 27, 3) := by decide +kernel
theorem dX0_withoutRow_29 : decode cX0_withoutRow 29 = .ok (.lload_n 2, 1) := by decide +kernel
theorem dX0_withoutRow_30 : decode cX0_withoutRow 30 = .ok (.ldc2_w 47, 3) := by decide +kernel
theorem dX0_withoutRow_33 : decode cX0_withoutRow 33 = .ok (.lxor, 1) := by decide +kernel
theorem dX0_withoutRow_34 : decode cX0_withoutRow 34 = .ok (.land, 1) := by decide +kernel
theorem dX0_withoutRow_35 : decode cX0_withoutRow 35 = .ok (.invokevirtual 49, 3) := by decide +kernel
theorem dX0_withoutRow_38 : decode cX0_withoutRow 38 = .ok (.areturn, 1) := by decide +kernel
theorem dX0_refusalOfRow_0 : decode cX0_refusalOfRow 0 = .ok (.iload_n 1, 1) := by decide +kernel
theorem dX0_refusalOfRow_1 : decode cX0_refusalOfRow 1 = .ok (.iconst 0, 1) := by decide +kernel
theorem dX0_refusalOfRow_2 : decode cX0_refusalOfRow 2 = .ok (.aload_n 0, 1) := by decide +kernel
theorem dX0_refusalOfRow_3 : decode cX0_refusalOfRow 3 = .ok (.getfield 15, 3) := by decide +kernel
theorem dX0_refusalOfRow_6 : decode cX0_refusalOfRow 6 = .ok (.iconst 1, 1) := by decide +kernel
theorem dX0_refusalOfRow_7 : decode cX0_refusalOfRow 7 = .ok (.isub, 1) := by decide +kernel
theorem dX0_refusalOfRow_8 : decode cX0_refusalOfRow 8 = .ok (.invokestatic 53, 3) := by decide +kernel
theorem dX0_refusalOfRow_11 : decode cX0_refusalOfRow 11 = .ok (.ifCond .ne 6, 3) := by decide +kernel
theorem dX0_refusalOfRow_14 : decode cX0_refusalOfRow 14 = .ok (.bipush (-13), 2) := by decide +kernel
theorem dX0_refusalOfRow_16 : decode cX0_refusalOfRow 16 = .ok (.ireturn, 1) := by decide +kernel
theorem dX0_refusalOfRow_17 : decode cX0_refusalOfRow 17 = .ok (.aload_n 0, 1) := by decide +kernel
theorem dX0_refusalOfRow_18 : decode cX0_refusalOfRow 18 = .ok (.getfield 24, 3) := by decide +kernel
theorem dX0_refusalOfRow_21 : decode cX0_refusalOfRow 21 = .ok (.iconst 1, 1) := by decide +kernel
theorem dX0_refusalOfRow_22 : decode cX0_refusalOfRow 22 = .ok (.iload_n 1, 1) := by decide +kernel
theorem dX0_refusalOfRow_23 : decode cX0_refusalOfRow 23 = .ok (.ishl, 1) := by decide +kernel
theorem dX0_refusalOfRow_24 : decode cX0_refusalOfRow 24 = .ok (.iand, 1) := by decide +kernel
theorem dX0_refusalOfRow_25 : decode cX0_refusalOfRow 25 = .ok (.ifCond .eq 8, 3) := by decide +kernel
theorem dX0_refusalOfRow_28 : decode cX0_refusalOfRow 28 = .ok (.bipush (-11), 2) := by decide +kernel
theorem dX0_refusalOfRow_30 : decode cX0_refusalOfRow 30 = .ok (.goto 4, 3) := by decide +kernel
theorem dX0_refusalOfRow_33 : decode cX0_refusalOfRow 33 = .ok (.iconst 0, 1) := by decide +kernel
theorem dX0_refusalOfRow_34 : decode cX0_refusalOfRow 34 = .ok (.ireturn, 1) := by decide +kernel
theorem dX0_squareAt_0 : decode cX0_squareAt 0 = .ok (.aload_n 0, 1) := by decide +kernel
theorem dX0_squareAt_1 : decode cX0_squareAt 1 = .ok (.iload_n 1, 1) := by decide +kernel
theorem dX0_squareAt_2 : decode cX0_squareAt 2 = .ok (.invokevirtual 57, 3) := by decide +kernel
theorem dX0_squareAt_5 : decode cX0_squareAt 5 = .ok (.istore_n 3, 1) := by decide +kernel
theorem dX0_squareAt_6 : decode cX0_squareAt 6 = .ok (.iload_n 3, 1) := by decide +kernel
theorem dX0_squareAt_7 : decode cX0_squareAt 7 = .ok (.ifCond .ge 5, 3) := by decide +kernel
theorem dX0_squareAt_10 : decode cX0_squareAt 10 = .ok (.iload_n 3, 1) := by decide +kernel
theorem dX0_squareAt_11 : decode cX0_squareAt 11 = .ok (.ireturn, 1) := by decide +kernel
theorem dX0_squareAt_12 : decode cX0_squareAt 12 = .ok (.iload_n 2, 1) := by decide +kernel
theorem dX0_squareAt_13 : decode cX0_squareAt 13 = .ok (.iconst 0, 1) := by decide +kernel
theorem dX0_squareAt_14 : decode cX0_squareAt 14 = .ok (.aload_n 0, 1) := by decide +kernel
theorem dX0_squareAt_15 : decode cX0_squareAt 15 = .ok (.getfield 21, 3) := by decide +kernel
theorem dX0_squareAt_18 : decode cX0_squareAt 18 = .ok (.iconst 1, 1) := by decide +kernel
theorem dX0_squareAt_19 : decode cX0_squareAt 19 = .ok (.isub, 1) := by decide +kernel
theorem dX0_squareAt_20 : decode cX0_squareAt 20 = .ok (.invokestatic 53, 3) := by decide +kernel
theorem dX0_squareAt_23 : decode cX0_squareAt 23 = .ok (.ifCond .ne 6, 3) := by decide +kernel
theorem dX0_squareAt_26 : decode cX0_squareAt 26 = .ok (.bipush (-13), 2) := by decide +kernel
theorem dX0_squareAt_28 : decode cX0_squareAt 28 = .ok (.ireturn, 1) := by decide +kernel
theorem dX0_squareAt_29 : decode cX0_squareAt 29 = .ok (.aload_n 0, 1) := by decide +kernel
theorem dX0_squareAt_30 : decode cX0_squareAt 30 = .ok (.getfield 27, 3) := by decide +kernel
theorem dX0_squareAt_33 : decode cX0_squareAt 33 = .ok (.lconst 1, 1) := by decide +kernel
theorem dX0_squareAt_34 : decode cX0_squareAt 34 = .ok (.iload_n 1, 1) := by decide +kernel
theorem dX0_squareAt_35 : decode cX0_squareAt 35 = .ok (.aload_n 0, 1) := by decide +kernel
theorem dX0_squareAt_36 : decode cX0_squareAt 36 = .ok (.getfield 21, 3) := by decide +kernel
theorem dX0_squareAt_39 : decode cX0_squareAt 39 = .ok (.imul, 1) := by decide +kernel
theorem dX0_squareAt_40 : decode cX0_squareAt 40 = .ok (.iload_n 2, 1) := by decide +kernel
theorem dX0_squareAt_41 : decode cX0_squareAt 41 = .ok (.iadd, 1) := by decide +kernel
theorem dX0_squareAt_42 : decode cX0_squareAt 42 = .ok (.lshl, 1) := by decide +kernel
theorem dX0_squareAt_43 : decode cX0_squareAt 43 = .ok (.land, 1) := by decide +kernel
theorem dX0_squareAt_44 : decode cX0_squareAt 44 = .ok (.lconst 0, 1) := by decide +kernel
theorem dX0_squareAt_45 : decode cX0_squareAt 45 = .ok (.lcmp, 1) := by decide +kernel
theorem dX0_squareAt_46 : decode cX0_squareAt 46 = .ok (.ifCond .eq 10, 3) := by decide +kernel
theorem dX0_squareAt_49 : decode cX0_squareAt 49 = .ok (.aload_n 0, 1) := by decide +kernel
theorem dX0_squareAt_50 : decode cX0_squareAt 50 = .ok (.getfield 41, 3) := by decide +kernel
theorem dX0_squareAt_53 : decode cX0_squareAt 53 = .ok (.goto 4, 3) := by decide +kernel
theorem dX0_squareAt_56 : decode cX0_squareAt 56 = .ok (.iconst 0, 1) := by decide +kernel
theorem dX0_squareAt_57 : decode cX0_squareAt 57 = .ok (.ireturn, 1) := by decide +kernel
theorem dX0_without_0 : decode cX0_without 0 = .ok (.aload_n 0, 1) := by decide +kernel
theorem dX0_without_1 : decode cX0_without 1 = .ok (.aload_n 0, 1) := by decide +kernel
theorem dX0_without_2 : decode cX0_without 2 = .ok (.getfield 24, 3) := by decide +kernel
theorem dX0_without_5 : decode cX0_without 5 = .ok (.aload_n 0, 1) := by decide +kernel
theorem dX0_without_6 : decode cX0_without 6 = .ok (.getfield 27, 3) := by decide +kernel
theorem dX0_without_9 : decode cX0_without 9 = .ok (.lload_n 2, 1) := by decide +kernel
theorem dX0_without_10 : decode cX0_without 10 = .ok (.ldc2_w 47, 3) := by decide +kernel
theorem dX0_without_13 : decode cX0_without 13 = .ok (.lxor, 1) := by decide +kernel
theorem dX0_without_14 : decode cX0_without 14 = .ok (.land, 1) := by decide +kernel
theorem dX0_without_15 : decode cX0_without 15 = .ok (.invokevirtual 49, 3) := by decide +kernel
theorem dX0_without_18 : decode cX0_without 18 = .ok (.areturn, 1) := by decide +kernel
theorem dX0_pieces_0 : decode cX0_pieces 0 = .ok (.aload_n 0, 1) := by decide +kernel
theorem dX0_pieces_1 : decode cX0_pieces 1 = .ok (.aload_n 0, 1) := by decide +kernel
theorem dX0_pieces_2 : decode cX0_pieces 2 = .ok (.getfield 27, 3) := by decide +kernel
theorem dX0_pieces_5 : decode cX0_pieces 5 = .ok (.invokevirtual 61, 3) := by decide +kernel
theorem dX0_pieces_8 : decode cX0_pieces 8 = .ok (.ireturn, 1) := by decide +kernel
theorem dX0_piecesOf_0 : decode cX0_piecesOf 0 = .ok (.iconst 0, 1) := by decide +kernel
theorem dX0_piecesOf_1 : decode cX0_piecesOf 1 = .ok (.istore_n 3, 1) := by decide +kernel
theorem dX0_piecesOf_2 : decode cX0_piecesOf 2 = .ok (.lload_n 1, 1) := by decide +kernel
theorem dX0_piecesOf_3 : decode cX0_piecesOf 3 = .ok (.lstore 4, 2) := by decide +kernel
theorem dX0_piecesOf_5 : decode cX0_piecesOf 5 = .ok (.iconst 0, 1) := by decide +kernel
theorem dX0_piecesOf_6 : decode cX0_piecesOf 6 = .ok (.istore 6, 2) := by decide +kernel
theorem dX0_piecesOf_8 : decode cX0_piecesOf 8 = .ok (.iload 6, 2) := by decide +kernel
theorem dX0_piecesOf_10 : decode cX0_piecesOf 10 = .ok (.bipush 64, 2) := by decide +kernel
theorem dX0_piecesOf_12 : decode cX0_piecesOf 12 = .ok (.if_icmp .ge 34, 3) := by decide +kernel
theorem dX0_piecesOf_15 : decode cX0_piecesOf 15 = .ok (.lload 4, 2) := by decide +kernel
theorem dX0_piecesOf_17 : decode cX0_piecesOf 17 = .ok (.lconst 0, 1) := by decide +kernel
theorem dX0_piecesOf_18 : decode cX0_piecesOf 18 = .ok (.lcmp, 1) := by decide +kernel
theorem dX0_piecesOf_19 : decode cX0_piecesOf 19 = .ok (.ifCond .eq 27, 3) := by decide +kernel
theorem dX0_piecesOf_22 : decode cX0_piecesOf 22 = .ok (.lload 4, 2) := by decide +kernel
theorem dX0_piecesOf_24 : decode cX0_piecesOf 24 = .ok (.aload_n 0, 1) := by decide +kernel
theorem dX0_piecesOf_25 : decode cX0_piecesOf 25 = .ok (.lload 4, 2) := by decide +kernel
theorem dX0_piecesOf_27 : decode cX0_piecesOf 27 = .ok (.invokevirtual 64, 3) := by decide +kernel
theorem dX0_piecesOf_30 : decode cX0_piecesOf 30 = .ok (.ldc2_w 47, 3) := by decide +kernel
theorem dX0_piecesOf_33 : decode cX0_piecesOf 33 = .ok (.lxor, 1) := by decide +kernel
theorem dX0_piecesOf_34 : decode cX0_piecesOf 34 = .ok (.land, 1) := by decide +kernel
theorem dX0_piecesOf_35 : decode cX0_piecesOf 35 = .ok (.lstore 4, 2) := by decide +kernel
theorem dX0_piecesOf_37 : decode cX0_piecesOf 37 = .ok (.iinc 3 1, 3) := by decide +kernel
theorem dX0_piecesOf_40 : decode cX0_piecesOf 40 = .ok (.iinc 6 1, 3) := by decide +kernel
theorem dX0_piecesOf_43 : decode cX0_piecesOf 43 = .ok (.goto (-35), 3) := by decide +kernel
theorem dX0_piecesOf_46 : decode cX0_piecesOf 46 = .ok (.iload_n 3, 1) := by decide +kernel
theorem dX0_piecesOf_47 : decode cX0_piecesOf 47 = .ok (.ireturn, 1) := by decide +kernel
theorem dX0_firstPieceOf_0 : decode cX0_firstPieceOf 0 = .ok (.lload_n 1, 1) := by decide +kernel
theorem dX0_firstPieceOf_1 : decode cX0_firstPieceOf 1 = .ok (.lload_n 1, 1) := by decide +kernel
theorem dX0_firstPieceOf_2 : decode cX0_firstPieceOf 2 = .ok (.lneg, 1) := by decide +kernel
theorem dX0_firstPieceOf_3 : decode cX0_firstPieceOf 3 = .ok (.land, 1) := by decide +kernel
theorem dX0_firstPieceOf_4 : decode cX0_firstPieceOf 4 = .ok (.lstore_n 3, 1) := by decide +kernel
theorem dX0_firstPieceOf_5 : decode cX0_firstPieceOf 5 = .ok (.iconst 0, 1) := by decide +kernel
theorem dX0_firstPieceOf_6 : decode cX0_firstPieceOf 6 = .ok (.istore 5, 2) := by decide +kernel
theorem dX0_firstPieceOf_8 : decode cX0_firstPieceOf 8 = .ok (.iload 5, 2) := by decide +kernel
theorem dX0_firstPieceOf_10 : decode cX0_firstPieceOf 10 = .ok (.bipush 64, 2) := by decide +kernel
theorem dX0_firstPieceOf_12 : decode cX0_firstPieceOf 12 = .ok (.if_icmp .ge 70, 3) := by decide +kernel
theorem dX0_firstPieceOf_15 : decode cX0_firstPieceOf 15 = .ok (.lload_n 3, 1) := by decide +kernel
theorem dX0_firstPieceOf_16 : decode cX0_firstPieceOf 16 = .ok (.aload_n 0, 1) := by decide +kernel
theorem dX0_firstPieceOf_17 : decode cX0_firstPieceOf 17 = .ok (.getfield 38, 3) := by decide +kernel
theorem dX0_firstPieceOf_20 : decode cX0_firstPieceOf 20 = .ok (.ldc2_w 47, 3) := by decide +kernel
theorem dX0_firstPieceOf_23 : decode cX0_firstPieceOf 23 = .ok (.lxor, 1) := by decide +kernel
theorem dX0_firstPieceOf_24 : decode cX0_firstPieceOf 24 = .ok (.land, 1) := by decide +kernel
theorem dX0_firstPieceOf_25 : decode cX0_firstPieceOf 25 = .ok (.iconst 1, 1) := by decide +kernel
theorem dX0_firstPieceOf_26 : decode cX0_firstPieceOf 26 = .ok (.lshl, 1) := by decide +kernel
theorem dX0_firstPieceOf_27 : decode cX0_firstPieceOf 27 = .ok (.lload_n 3, 1) := by decide +kernel
theorem dX0_firstPieceOf_28 : decode cX0_firstPieceOf 28 = .ok (.aload_n 0, 1) := by decide +kernel
theorem dX0_firstPieceOf_29 : decode cX0_firstPieceOf 29 = .ok (.getfield 35, 3) := by decide +kernel
theorem dX0_firstPieceOf_32 : decode cX0_firstPieceOf 32 = .ok (.ldc2_w 47, 3) := by decide +kernel
theorem dX0_firstPieceOf_35 : decode cX0_firstPieceOf 35 = .ok (.lxor, 1) := by decide +kernel
theorem dX0_firstPieceOf_36 : decode cX0_firstPieceOf 36 = .ok (.land, 1) := by decide +kernel
theorem dX0_firstPieceOf_37 : decode cX0_firstPieceOf 37 = .ok (.iconst 1, 1) := by decide +kernel
theorem dX0_firstPieceOf_38 : decode cX0_firstPieceOf 38 = .ok (.lushr, 1) := by decide +kernel
theorem dX0_firstPieceOf_39 : decode cX0_firstPieceOf 39 = .ok (.lor, 1) := by decide +kernel
theorem dX0_firstPieceOf_40 : decode cX0_firstPieceOf 40 = .ok (.lstore 6, 2) := by decide +kernel
theorem dX0_firstPieceOf_42 : decode cX0_firstPieceOf 42 = .ok (.lload_n 3, 1) := by decide +kernel
theorem dX0_firstPieceOf_43 : decode cX0_firstPieceOf 43 = .ok (.lload 6, 2) := by decide +kernel
theorem dX0_firstPieceOf_45 : decode cX0_firstPieceOf 45 = .ok (.lor, 1) := by decide +kernel
theorem dX0_firstPieceOf_46 : decode cX0_firstPieceOf 46 = .ok (.lload_n 3, 1) := by decide +kernel
theorem dX0_firstPieceOf_47 : decode cX0_firstPieceOf 47 = .ok (.aload_n 0, 1) := by decide +kernel
theorem dX0_firstPieceOf_48 : decode cX0_firstPieceOf 48 = .ok (.getfield 21, 3) := by decide +kernel
theorem dX0_firstPieceOf_51 : decode cX0_firstPieceOf 51 = .ok (.lshl, 1) := by decide +kernel
theorem dX0_firstPieceOf_52 : decode cX0_firstPieceOf 52 = .ok (.lor, 1) := by decide +kernel
theorem dX0_firstPieceOf_53 : decode cX0_firstPieceOf 53 = .ok (.lload_n 3, 1) := by decide +kernel
theorem dX0_firstPieceOf_54 : decode cX0_firstPieceOf 54 = .ok (.aload_n 0, 1) := by decide +kernel
theorem dX0_firstPieceOf_55 : decode cX0_firstPieceOf 55 = .ok (.getfield 21, 3) := by decide +kernel
theorem dX0_firstPieceOf_58 : decode cX0_firstPieceOf 58 = .ok (.lushr, 1) := by decide +kernel
theorem dX0_firstPieceOf_59 : decode cX0_firstPieceOf 59 = .ok (.lor, 1) := by decide +kernel
theorem dX0_firstPieceOf_60 : decode cX0_firstPieceOf 60 = .ok (.lload_n 1, 1) := by decide +kernel
theorem dX0_firstPieceOf_61 : decode cX0_firstPieceOf 61 = .ok (.land, 1) := by decide +kernel
theorem dX0_firstPieceOf_62 : decode cX0_firstPieceOf 62 = .ok (.lstore 8, 2) := by decide +kernel
theorem dX0_firstPieceOf_64 : decode cX0_firstPieceOf 64 = .ok (.lload 8, 2) := by decide +kernel
theorem dX0_firstPieceOf_66 : decode cX0_firstPieceOf 66 = .ok (.lload_n 3, 1) := by decide +kernel
theorem dX0_firstPieceOf_67 : decode cX0_firstPieceOf 67 = .ok (.lcmp, 1) := by decide +kernel
theorem dX0_firstPieceOf_68 : decode cX0_firstPieceOf 68 = .ok (.ifCond .ne 5, 3) := by decide +kernel
theorem dX0_firstPieceOf_71 : decode cX0_firstPieceOf 71 = .ok (.lload_n 3, 1) := by decide +kernel
theorem dX0_firstPieceOf_72 : decode cX0_firstPieceOf 72 = .ok (.lreturn, 1) := by decide +kernel
theorem dX0_firstPieceOf_73 : decode cX0_firstPieceOf 73 = .ok (.lload 8, 2) := by decide +kernel
theorem dX0_firstPieceOf_75 : decode cX0_firstPieceOf 75 = .ok (.lstore_n 3, 1) := by decide +kernel
theorem dX0_firstPieceOf_76 : decode cX0_firstPieceOf 76 = .ok (.iinc 5 1, 3) := by decide +kernel
theorem dX0_firstPieceOf_79 : decode cX0_firstPieceOf 79 = .ok (.goto (-71), 3) := by decide +kernel
theorem dX0_firstPieceOf_82 : decode cX0_firstPieceOf 82 = .ok (.lload_n 3, 1) := by decide +kernel
theorem dX0_firstPieceOf_83 : decode cX0_firstPieceOf 83 = .ok (.lreturn, 1) := by decide +kernel
theorem dX0_tearing_0 : decode cX0_tearing 0 = .ok (.iload_n 1, 1) := by decide +kernel
theorem dX0_tearing_1 : decode cX0_tearing 1 = .ok (.iconst 1, 1) := by decide +kernel
theorem dX0_tearing_2 : decode cX0_tearing 2 = .ok (.aload_n 0, 1) := by decide +kernel
theorem dX0_tearing_3 : decode cX0_tearing 3 = .ok (.invokevirtual 68, 3) := by decide +kernel
theorem dX0_tearing_6 : decode cX0_tearing 6 = .ok (.invokestatic 72, 3) := by decide +kernel
theorem dX0_tearing_9 : decode cX0_tearing 9 = .ok (.idiv, 1) := by decide +kernel
theorem dX0_tearing_10 : decode cX0_tearing 10 = .ok (.istore_n 2, 1) := by decide +kernel
theorem dX0_tearing_11 : decode cX0_tearing 11 = .ok (.iload_n 2, 1) := by decide +kernel
theorem dX0_tearing_12 : decode cX0_tearing 12 = .ok (.iconst 2, 1) := by decide +kernel
theorem dX0_tearing_13 : decode cX0_tearing 13 = .ok (.if_icmp .le 9, 3) := by decide +kernel
theorem dX0_tearing_16 : decode cX0_tearing 16 = .ok (.aload_n 0, 1) := by decide +kernel
theorem dX0_tearing_17 : decode cX0_tearing 17 = .ok (.iload_n 2, 1) := by decide +kernel
theorem dX0_tearing_18 : decode cX0_tearing 18 = .ok (.invokevirtual 78, 3) := by decide +kernel
theorem dX0_tearing_21 : decode cX0_tearing 21 = .ok (.lreturn, 1) := by decide +kernel
theorem dX0_tearing_22 : decode cX0_tearing 22 = .ok (.aload_n 0, 1) := by decide +kernel
theorem dX0_tearing_23 : decode cX0_tearing 23 = .ok (.invokevirtual 82, 3) := by decide +kernel
theorem dX0_tearing_26 : decode cX0_tearing 26 = .ok (.aload_n 0, 1) := by decide +kernel
theorem dX0_tearing_27 : decode cX0_tearing 27 = .ok (.iload_n 2, 1) := by decide +kernel
theorem dX0_tearing_28 : decode cX0_tearing 28 = .ok (.invokevirtual 85, 3) := by decide +kernel
theorem dX0_tearing_31 : decode cX0_tearing 31 = .ok (.isub, 1) := by decide +kernel
theorem dX0_tearing_32 : decode cX0_tearing 32 = .ok (.istore_n 3, 1) := by decide +kernel
theorem dX0_tearing_33 : decode cX0_tearing 33 = .ok (.iload_n 2, 1) := by decide +kernel
theorem dX0_tearing_34 : decode cX0_tearing 34 = .ok (.iconst 2, 1) := by decide +kernel
theorem dX0_tearing_35 : decode cX0_tearing 35 = .ok (.if_icmp .ne 9, 3) := by decide +kernel
theorem dX0_tearing_38 : decode cX0_tearing 38 = .ok (.aload_n 0, 1) := by decide +kernel
theorem dX0_tearing_39 : decode cX0_tearing 39 = .ok (.iload_n 3, 1) := by decide +kernel
theorem dX0_tearing_40 : decode cX0_tearing 40 = .ok (.invokevirtual 88, 3) := by decide +kernel
theorem dX0_tearing_43 : decode cX0_tearing 43 = .ok (.lreturn, 1) := by decide +kernel
theorem dX0_tearing_44 : decode cX0_tearing 44 = .ok (.iload_n 2, 1) := by decide +kernel
theorem dX0_tearing_45 : decode cX0_tearing 45 = .ok (.iconst 1, 1) := by decide +kernel
theorem dX0_tearing_46 : decode cX0_tearing 46 = .ok (.if_icmp .ne 13, 3) := by decide +kernel
theorem dX0_tearing_49 : decode cX0_tearing 49 = .ok (.aload_n 0, 1) := by decide +kernel
theorem dX0_tearing_50 : decode cX0_tearing 50 = .ok (.lconst 0, 1) := by decide +kernel
theorem dX0_tearing_51 : decode cX0_tearing 51 = .ok (.iconst 0, 1) := by decide +kernel
theorem dX0_tearing_52 : decode cX0_tearing 52 = .ok (.iload_n 3, 1) := by decide +kernel
theorem dX0_tearing_53 : decode cX0_tearing 53 = .ok (.invokevirtual 91, 3) := by decide +kernel
theorem dX0_tearing_56 : decode cX0_tearing 56 = .ok (.goto 4, 3) := by decide +kernel
theorem dX0_tearing_59 : decode cX0_tearing 59 = .ok (.lconst 0, 1) := by decide +kernel
theorem dX0_tearing_60 : decode cX0_tearing 60 = .ok (.lreturn, 1) := by decide +kernel
theorem dX0_piecesThatGo_0 : decode cX0_piecesThatGo 0 = .ok (.iconst 0, 1) := by decide +kernel
theorem dX0_piecesThatGo_1 : decode cX0_piecesThatGo 1 = .ok (.istore_n 2, 1) := by decide +kernel
theorem dX0_piecesThatGo_2 : decode cX0_piecesThatGo 2 = .ok (.iconst 0, 1) := by decide +kernel
theorem dX0_piecesThatGo_3 : decode cX0_piecesThatGo 3 = .ok (.istore_n 3, 1) := by decide +kernel
theorem dX0_piecesThatGo_4 : decode cX0_piecesThatGo 4 = .ok (.aload_n 0, 1) := by decide +kernel
theorem dX0_piecesThatGo_5 : decode cX0_piecesThatGo 5 = .ok (.getfield 27, 3) := by decide +kernel
theorem dX0_piecesThatGo_8 : decode cX0_piecesThatGo 8 = .ok (.lstore 4, 2) := by decide +kernel
theorem dX0_piecesThatGo_10 : decode cX0_piecesThatGo 10 = .ok (.iconst 0, 1) := by decide +kernel
theorem dX0_piecesThatGo_11 : decode cX0_piecesThatGo 11 = .ok (.istore 6, 2) := by decide +kernel
theorem dX0_piecesThatGo_13 : decode cX0_piecesThatGo 13 = .ok (.iload 6, 2) := by decide +kernel
theorem dX0_piecesThatGo_15 : decode cX0_piecesThatGo 15 = .ok (.bipush 64, 2) := by decide +kernel
theorem dX0_piecesThatGo_17 : decode cX0_piecesThatGo 17 = .ok (.if_icmp .ge 78, 3) := by decide +kernel
theorem dX0_piecesThatGo_20 : decode cX0_piecesThatGo 20 = .ok (.lload 4, 2) := by decide +kernel
theorem dX0_piecesThatGo_22 : decode cX0_piecesThatGo 22 = .ok (.lconst 0, 1) := by decide +kernel
theorem dX0_piecesThatGo_23 : decode cX0_piecesThatGo 23 = .ok (.lcmp, 1) := by decide +kernel
theorem dX0_piecesThatGo_24 : decode cX0_piecesThatGo 24 = .ok (.ifCond .eq 71, 3) := by decide +kernel
theorem dX0_piecesThatGo_27 : decode cX0_piecesThatGo 27 = .ok (.aload_n 0, 1) := by decide +kernel
theorem dX0_piecesThatGo_28 : decode cX0_piecesThatGo 28 = .ok (.lload 4, 2) := by decide +kernel
theorem dX0_piecesThatGo_30 : decode cX0_piecesThatGo 30 = .ok (.invokevirtual 64, 3) := by decide +kernel
theorem dX0_piecesThatGo_33 : decode cX0_piecesThatGo 33 = .ok (.lstore 7, 2) := by decide +kernel
theorem dX0_piecesThatGo_35 : decode cX0_piecesThatGo 35 = .ok (.lload 7, 2) := by decide +kernel
theorem dX0_piecesThatGo_37 : decode cX0_piecesThatGo 37 = .ok (.invokestatic 3, 3) := by decide +kernel
theorem dX0_piecesThatGo_40 : decode cX0_piecesThatGo 40 = .ok (.istore 9, 2) := by decide +kernel
theorem dX0_piecesThatGo_42 : decode cX0_piecesThatGo 42 = .ok (.iload_n 2, 1) := by decide +kernel
theorem dX0_piecesThatGo_43 : decode cX0_piecesThatGo 43 = .ok (.iload 9, 2) := by decide +kernel
theorem dX0_piecesThatGo_45 : decode cX0_piecesThatGo 45 = .ok (.aload_n 0, 1) := by decide +kernel
theorem dX0_piecesThatGo_46 : decode cX0_piecesThatGo 46 = .ok (.invokevirtual 68, 3) := by decide +kernel
theorem dX0_piecesThatGo_49 : decode cX0_piecesThatGo 49 = .ok (.if_icmp .ne 7, 3) := by decide +kernel
theorem dX0_piecesThatGo_52 : decode cX0_piecesThatGo 52 = .ok (.iconst 1, 1) := by decide +kernel
theorem dX0_piecesThatGo_53 : decode cX0_piecesThatGo 53 = .ok (.goto 4, 3) := by decide +kernel
theorem dX0_piecesThatGo_56 : decode cX0_piecesThatGo 56 = .ok (.iconst 0, 1) := by decide +kernel
theorem dX0_piecesThatGo_57 : decode cX0_piecesThatGo 57 = .ok (.iadd, 1) := by decide +kernel
theorem dX0_piecesThatGo_58 : decode cX0_piecesThatGo 58 = .ok (.istore_n 2, 1) := by decide +kernel
theorem dX0_piecesThatGo_59 : decode cX0_piecesThatGo 59 = .ok (.iload_n 3, 1) := by decide +kernel
theorem dX0_piecesThatGo_60 : decode cX0_piecesThatGo 60 = .ok (.iload 9, 2) := by decide +kernel
theorem dX0_piecesThatGo_62 : decode cX0_piecesThatGo 62 = .ok (.iconst 2, 1) := by decide +kernel
theorem dX0_piecesThatGo_63 : decode cX0_piecesThatGo 63 = .ok (.aload_n 0, 1) := by decide +kernel
theorem dX0_piecesThatGo_64 : decode cX0_piecesThatGo 64 = .ok (.invokevirtual 68, 3) := by decide +kernel
theorem dX0_piecesThatGo_67 : decode cX0_piecesThatGo 67 = .ok (.imul, 1) := by decide +kernel
theorem dX0_piecesThatGo_68 : decode cX0_piecesThatGo 68 = .ok (.if_icmp .ne 7, 3) := by decide +kernel
theorem dX0_piecesThatGo_71 : decode cX0_piecesThatGo 71 = .ok (.iconst 1, 1) := by decide +kernel
theorem dX0_piecesThatGo_72 : decode cX0_piecesThatGo 72 = .ok (.goto 4, 3) := by decide +kernel
theorem dX0_piecesThatGo_75 : decode cX0_piecesThatGo 75 = .ok (.iconst 0, 1) := by decide +kernel
theorem dX0_piecesThatGo_76 : decode cX0_piecesThatGo 76 = .ok (.iadd, 1) := by decide +kernel
theorem dX0_piecesThatGo_77 : decode cX0_piecesThatGo 77 = .ok (.istore_n 3, 1) := by decide +kernel
theorem dX0_piecesThatGo_78 : decode cX0_piecesThatGo 78 = .ok (.lload 4, 2) := by decide +kernel
theorem dX0_piecesThatGo_80 : decode cX0_piecesThatGo 80 = .ok (.lload 7, 2) := by decide +kernel
theorem dX0_piecesThatGo_82 : decode cX0_piecesThatGo 82 = .ok (.ldc2_w 47, 3) := by decide +kernel
theorem dX0_piecesThatGo_85 : decode cX0_piecesThatGo 85 = .ok (.lxor, 1) := by decide +kernel
theorem dX0_piecesThatGo_86 : decode cX0_piecesThatGo 86 = .ok (.land, 1) := by decide +kernel
theorem dX0_piecesThatGo_87 : decode cX0_piecesThatGo 87 = .ok (.lstore 4, 2) := by decide +kernel
theorem dX0_piecesThatGo_89 : decode cX0_piecesThatGo 89 = .ok (.iinc 6 1, 3) := by decide +kernel
theorem dX0_piecesThatGo_92 : decode cX0_piecesThatGo 92 = .ok (.goto (-79), 3) := by decide +kernel
theorem dX0_piecesThatGo_95 : decode cX0_piecesThatGo 95 = .ok (.iload_n 1, 1) := by decide +kernel
theorem dX0_piecesThatGo_96 : decode cX0_piecesThatGo 96 = .ok (.iconst 2, 1) := by decide +kernel
theorem dX0_piecesThatGo_97 : decode cX0_piecesThatGo 97 = .ok (.if_icmp .ne 15, 3) := by decide +kernel
theorem dX0_piecesThatGo_100 : decode cX0_piecesThatGo 100 = .ok (.iload_n 2, 1) := by decide +kernel
theorem dX0_piecesThatGo_101 : decode cX0_piecesThatGo 101 = .ok (.ifCond .ne 11, 3) := by decide +kernel
theorem dX0_piecesThatGo_104 : decode cX0_piecesThatGo 104 = .ok (.iload_n 3, 1) := by decide +kernel
theorem dX0_piecesThatGo_105 : decode cX0_piecesThatGo 105 = .ok (.ifCond .le 7, 3) := by decide +kernel
theorem dX0_piecesThatGo_108 : decode cX0_piecesThatGo 108 = .ok (.iconst 1, 1) := by decide +kernel
theorem dX0_piecesThatGo_109 : decode cX0_piecesThatGo 109 = .ok (.goto 8, 3) := by decide +kernel
theorem dX0_piecesThatGo_112 : decode cX0_piecesThatGo 112 = .ok (.iload_n 2, 1) := by decide +kernel
theorem dX0_piecesThatGo_113 : decode cX0_piecesThatGo 113 = .ok (.iload_n 1, 1) := by decide +kernel
theorem dX0_piecesThatGo_114 : decode cX0_piecesThatGo 114 = .ok (.invokestatic 95, 3) := by decide +kernel
theorem dX0_piecesThatGo_117 : decode cX0_piecesThatGo 117 = .ok (.ireturn, 1) := by decide +kernel
theorem dX0_lastUnits_0 : decode cX0_lastUnits 0 = .ok (.lconst 0, 1) := by decide +kernel
theorem dX0_lastUnits_1 : decode cX0_lastUnits 1 = .ok (.lstore_n 2, 1) := by decide +kernel
theorem dX0_lastUnits_2 : decode cX0_lastUnits 2 = .ok (.iload_n 1, 1) := by decide +kernel
theorem dX0_lastUnits_3 : decode cX0_lastUnits 3 = .ok (.istore 4, 2) := by decide +kernel
theorem dX0_lastUnits_5 : decode cX0_lastUnits 5 = .ok (.bipush 63, 2) := by decide +kernel
theorem dX0_lastUnits_7 : decode cX0_lastUnits 7 = .ok (.istore 5, 2) := by decide +kernel
theorem dX0_lastUnits_9 : decode cX0_lastUnits 9 = .ok (.iload 5, 2) := by decide +kernel
theorem dX0_lastUnits_11 : decode cX0_lastUnits 11 = .ok (.ifCond .lt 37, 3) := by decide +kernel
theorem dX0_lastUnits_14 : decode cX0_lastUnits 14 = .ok (.iload 4, 2) := by decide +kernel
theorem dX0_lastUnits_16 : decode cX0_lastUnits 16 = .ok (.ifCond .le 32, 3) := by decide +kernel
theorem dX0_lastUnits_19 : decode cX0_lastUnits 19 = .ok (.aload_n 0, 1) := by decide +kernel
theorem dX0_lastUnits_20 : decode cX0_lastUnits 20 = .ok (.iload 5, 2) := by decide +kernel
theorem dX0_lastUnits_22 : decode cX0_lastUnits 22 = .ok (.invokevirtual 98, 3) := by decide +kernel
theorem dX0_lastUnits_25 : decode cX0_lastUnits 25 = .ok (.lstore 6, 2) := by decide +kernel
theorem dX0_lastUnits_27 : decode cX0_lastUnits 27 = .ok (.lload 6, 2) := by decide +kernel
theorem dX0_lastUnits_29 : decode cX0_lastUnits 29 = .ok (.lconst 0, 1) := by decide +kernel
theorem dX0_lastUnits_30 : decode cX0_lastUnits 30 = .ok (.lcmp, 1) := by decide +kernel
theorem dX0_lastUnits_31 : decode cX0_lastUnits 31 = .ok (.ifCond .eq 11, 3) := by decide +kernel
theorem dX0_lastUnits_34 : decode cX0_lastUnits 34 = .ok (.lload_n 2, 1) := by decide +kernel
theorem dX0_lastUnits_35 : decode cX0_lastUnits 35 = .ok (.lload 6, 2) := by decide +kernel
theorem dX0_lastUnits_37 : decode cX0_lastUnits 37 = .ok (.lor, 1) := by decide +kernel
theorem dX0_lastUnits_38 : decode cX0_lastUnits 38 = .ok (.lstore_n 2, 1) := by decide +kernel
theorem dX0_lastUnits_39 : decode cX0_lastUnits 39 = .ok (.iinc 4 (-1), 3) := by decide +kernel
theorem dX0_lastUnits_42 : decode cX0_lastUnits 42 = .ok (.iinc 5 (-1), 3) := by decide +kernel
theorem dX0_lastUnits_45 : decode cX0_lastUnits 45 = .ok (.goto (-36), 3) := by decide +kernel
theorem dX0_lastUnits_48 : decode cX0_lastUnits 48 = .ok (.lload_n 2, 1) := by decide +kernel
theorem dX0_lastUnits_49 : decode cX0_lastUnits 49 = .ok (.lreturn, 1) := by decide +kernel
theorem dX0_gentlestOne_0 : decode cX0_gentlestOne 0 = .ok (.lconst 0, 1) := by decide +kernel
theorem dX0_gentlestOne_1 : decode cX0_gentlestOne 1 = .ok (.lstore 5, 2) := by decide +kernel
theorem dX0_gentlestOne_3 : decode cX0_gentlestOne 3 = .ok (.bipush 65, 2) := by decide +kernel
theorem dX0_gentlestOne_5 : decode cX0_gentlestOne 5 = .ok (.istore 7, 2) := by decide +kernel
theorem dX0_gentlestOne_7 : decode cX0_gentlestOne 7 = .ok (.iload_n 3, 1) := by decide +kernel
theorem dX0_gentlestOne_8 : decode cX0_gentlestOne 8 = .ok (.istore 8, 2) := by decide +kernel
theorem dX0_gentlestOne_10 : decode cX0_gentlestOne 10 = .ok (.iload 8, 2) := by decide +kernel
theorem dX0_gentlestOne_12 : decode cX0_gentlestOne 12 = .ok (.bipush 64, 2) := by decide +kernel
theorem dX0_gentlestOne_14 : decode cX0_gentlestOne 14 = .ok (.if_icmp .ge 72, 3) := by decide +kernel
theorem dX0_gentlestOne_17 : decode cX0_gentlestOne 17 = .ok (.iload 7, 2) := by decide +kernel
theorem dX0_gentlestOne_19 : decode cX0_gentlestOne 19 = .ok (.iload 4, 2) := by decide +kernel
theorem dX0_gentlestOne_21 : decode cX0_gentlestOne 21 = .ok (.if_icmp .le 65, 3) := by decide +kernel
theorem dX0_gentlestOne_24 : decode cX0_gentlestOne 24 = .ok (.aload_n 0, 1) := by decide +kernel
theorem dX0_gentlestOne_25 : decode cX0_gentlestOne 25 = .ok (.iload 8, 2) := by decide +kernel
theorem dX0_gentlestOne_27 : decode cX0_gentlestOne 27 = .ok (.invokevirtual 98, 3) := by decide +kernel
theorem dX0_gentlestOne_30 : decode cX0_gentlestOne 30 = .ok (.lstore 9, 2) := by decide +kernel
theorem dX0_gentlestOne_32 : decode cX0_gentlestOne 32 = .ok (.lload 9, 2) := by decide +kernel
theorem dX0_gentlestOne_34 : decode cX0_gentlestOne 34 = .ok (.lconst 0, 1) := by decide +kernel
theorem dX0_gentlestOne_35 : decode cX0_gentlestOne 35 = .ok (.lcmp, 1) := by decide +kernel
theorem dX0_gentlestOne_36 : decode cX0_gentlestOne 36 = .ok (.ifCond .ne 8, 3) := by decide +kernel
theorem dX0_gentlestOne_39 : decode cX0_gentlestOne 39 = .ok (.bipush 65, 2) := by decide +kernel
theorem dX0_gentlestOne_41 : decode cX0_gentlestOne 41 = .ok (.goto 20, 3) := by decide +kernel
theorem dX0_gentlestOne_44 : decode cX0_gentlestOne 44 = .ok (.aload_n 0, 1) := by decide +kernel
theorem dX0_gentlestOne_45 : decode cX0_gentlestOne 45 = .ok (.aload_n 0, 1) := by decide +kernel
theorem dX0_gentlestOne_46 : decode cX0_gentlestOne 46 = .ok (.getfield 27, 3) := by decide +kernel
theorem dX0_gentlestOne_49 : decode cX0_gentlestOne 49 = .ok (.lload_n 1, 1) := by decide +kernel
theorem dX0_gentlestOne_50 : decode cX0_gentlestOne 50 = .ok (.lload 9, 2) := by decide +kernel
theorem dX0_gentlestOne_52 : decode cX0_gentlestOne 52 = .ok (.lor, 1) := by decide +kernel
theorem dX0_gentlestOne_53 : decode cX0_gentlestOne 53 = .ok (.ldc2_w 47, 3) := by decide +kernel
theorem dX0_gentlestOne_56 : decode cX0_gentlestOne 56 = .ok (.lxor, 1) := by decide +kernel
theorem dX0_gentlestOne_57 : decode cX0_gentlestOne 57 = .ok (.land, 1) := by decide +kernel
theorem dX0_gentlestOne_58 : decode cX0_gentlestOne 58 = .ok (.invokevirtual 61, 3) := by decide +kernel
theorem dX0_gentlestOne_61 : decode cX0_gentlestOne 61 = .ok (.istore 11, 2) := by decide +kernel
theorem dX0_gentlestOne_63 : decode cX0_gentlestOne 63 = .ok (.iload 11, 2) := by decide +kernel
theorem dX0_gentlestOne_65 : decode cX0_gentlestOne 65 = .ok (.iload 7, 2) := by decide +kernel
theorem dX0_gentlestOne_67 : decode cX0_gentlestOne 67 = .ok (.if_icmp .ge 13, 3) := by decide +kernel
theorem dX0_gentlestOne_70 : decode cX0_gentlestOne 70 = .ok (.iload 11, 2) := by decide +kernel
theorem dX0_gentlestOne_72 : decode cX0_gentlestOne 72 = .ok (.istore 7, 2) := by decide +kernel
theorem dX0_gentlestOne_74 : decode cX0_gentlestOne 74 = .ok (.lload_n 1, 1) := by decide +kernel
theorem dX0_gentlestOne_75 : decode cX0_gentlestOne 75 = .ok (.lload 9, 2) := by decide +kernel
theorem dX0_gentlestOne_77 : decode cX0_gentlestOne 77 = .ok (.lor, 1) := by decide +kernel
theorem dX0_gentlestOne_78 : decode cX0_gentlestOne 78 = .ok (.lstore 5, 2) := by decide +kernel
theorem dX0_gentlestOne_80 : decode cX0_gentlestOne 80 = .ok (.iinc 8 1, 3) := by decide +kernel
theorem dX0_gentlestOne_83 : decode cX0_gentlestOne 83 = .ok (.goto (-73), 3) := by decide +kernel
theorem dX0_gentlestOne_86 : decode cX0_gentlestOne 86 = .ok (.lload 5, 2) := by decide +kernel
theorem dX0_gentlestOne_88 : decode cX0_gentlestOne 88 = .ok (.lreturn, 1) := by decide +kernel
theorem dX0_gentlestTwo_0 : decode cX0_gentlestTwo 0 = .ok (.lconst 0, 1) := by decide +kernel
theorem dX0_gentlestTwo_1 : decode cX0_gentlestTwo 1 = .ok (.lstore_n 2, 1) := by decide +kernel
theorem dX0_gentlestTwo_2 : decode cX0_gentlestTwo 2 = .ok (.bipush 65, 2) := by decide +kernel
theorem dX0_gentlestTwo_4 : decode cX0_gentlestTwo 4 = .ok (.istore 4, 2) := by decide +kernel
theorem dX0_gentlestTwo_6 : decode cX0_gentlestTwo 6 = .ok (.iconst 0, 1) := by decide +kernel
theorem dX0_gentlestTwo_7 : decode cX0_gentlestTwo 7 = .ok (.istore 5, 2) := by decide +kernel
theorem dX0_gentlestTwo_9 : decode cX0_gentlestTwo 9 = .ok (.iload 5, 2) := by decide +kernel
theorem dX0_gentlestTwo_11 : decode cX0_gentlestTwo 11 = .ok (.bipush 64, 2) := by decide +kernel
theorem dX0_gentlestTwo_13 : decode cX0_gentlestTwo 13 = .ok (.if_icmp .ge 90, 3) := by decide +kernel
theorem dX0_gentlestTwo_16 : decode cX0_gentlestTwo 16 = .ok (.iload 4, 2) := by decide +kernel
theorem dX0_gentlestTwo_18 : decode cX0_gentlestTwo 18 = .ok (.iload_n 1, 1) := by decide +kernel
theorem dX0_gentlestTwo_19 : decode cX0_gentlestTwo 19 = .ok (.if_icmp .le 84, 3) := by decide +kernel
theorem dX0_gentlestTwo_22 : decode cX0_gentlestTwo 22 = .ok (.aload_n 0, 1) := by decide +kernel
theorem dX0_gentlestTwo_23 : decode cX0_gentlestTwo 23 = .ok (.iload 5, 2) := by decide +kernel
theorem dX0_gentlestTwo_25 : decode cX0_gentlestTwo 25 = .ok (.invokevirtual 98, 3) := by decide +kernel
theorem dX0_gentlestTwo_28 : decode cX0_gentlestTwo 28 = .ok (.lstore 6, 2) := by decide +kernel
theorem dX0_gentlestTwo_30 : decode cX0_gentlestTwo 30 = .ok (.lload 6, 2) := by decide +kernel
theorem dX0_gentlestTwo_32 : decode cX0_gentlestTwo 32 = .ok (.lconst 0, 1) := by decide +kernel
theorem dX0_gentlestTwo_33 : decode cX0_gentlestTwo 33 = .ok (.lcmp, 1) := by decide +kernel
theorem dX0_gentlestTwo_34 : decode cX0_gentlestTwo 34 = .ok (.ifCond .ne 7, 3) := by decide +kernel
theorem dX0_gentlestTwo_37 : decode cX0_gentlestTwo 37 = .ok (.lconst 0, 1) := by decide +kernel
theorem dX0_gentlestTwo_38 : decode cX0_gentlestTwo 38 = .ok (.goto 14, 3) := by decide +kernel
theorem dX0_gentlestTwo_41 : decode cX0_gentlestTwo 41 = .ok (.aload_n 0, 1) := by decide +kernel
theorem dX0_gentlestTwo_42 : decode cX0_gentlestTwo 42 = .ok (.lload 6, 2) := by decide +kernel
theorem dX0_gentlestTwo_44 : decode cX0_gentlestTwo 44 = .ok (.iload 5, 2) := by decide +kernel
theorem dX0_gentlestTwo_46 : decode cX0_gentlestTwo 46 = .ok (.iconst 1, 1) := by decide +kernel
theorem dX0_gentlestTwo_47 : decode cX0_gentlestTwo 47 = .ok (.iadd, 1) := by decide +kernel
theorem dX0_gentlestTwo_48 : decode cX0_gentlestTwo 48 = .ok (.iload_n 1, 1) := by decide +kernel
theorem dX0_gentlestTwo_49 : decode cX0_gentlestTwo 49 = .ok (.invokevirtual 91, 3) := by decide +kernel
theorem dX0_gentlestTwo_52 : decode cX0_gentlestTwo 52 = .ok (.lstore 8, 2) := by decide +kernel
theorem dX0_gentlestTwo_54 : decode cX0_gentlestTwo 54 = .ok (.lload 8, 2) := by decide +kernel
theorem dX0_gentlestTwo_56 : decode cX0_gentlestTwo 56 = .ok (.lconst 0, 1) := by decide +kernel
theorem dX0_gentlestTwo_57 : decode cX0_gentlestTwo 57 = .ok (.lcmp, 1) := by decide +kernel
theorem dX0_gentlestTwo_58 : decode cX0_gentlestTwo 58 = .ok (.ifCond .ne 8, 3) := by decide +kernel
theorem dX0_gentlestTwo_61 : decode cX0_gentlestTwo 61 = .ok (.bipush 65, 2) := by decide +kernel
theorem dX0_gentlestTwo_63 : decode cX0_gentlestTwo 63 = .ok (.goto 18, 3) := by decide +kernel
theorem dX0_gentlestTwo_66 : decode cX0_gentlestTwo 66 = .ok (.aload_n 0, 1) := by decide +kernel
theorem dX0_gentlestTwo_67 : decode cX0_gentlestTwo 67 = .ok (.aload_n 0, 1) := by decide +kernel
theorem dX0_gentlestTwo_68 : decode cX0_gentlestTwo 68 = .ok (.getfield 27, 3) := by decide +kernel
theorem dX0_gentlestTwo_71 : decode cX0_gentlestTwo 71 = .ok (.lload 8, 2) := by decide +kernel
theorem dX0_gentlestTwo_73 : decode cX0_gentlestTwo 73 = .ok (.ldc2_w 47, 3) := by decide +kernel
theorem dX0_gentlestTwo_76 : decode cX0_gentlestTwo 76 = .ok (.lxor, 1) := by decide +kernel
theorem dX0_gentlestTwo_77 : decode cX0_gentlestTwo 77 = .ok (.land, 1) := by decide +kernel
theorem dX0_gentlestTwo_78 : decode cX0_gentlestTwo 78 = .ok (.invokevirtual 61, 3) := by decide +kernel
theorem dX0_gentlestTwo_81 : decode cX0_gentlestTwo 81 = .ok (.istore 10, 2) := by decide +kernel
theorem dX0_gentlestTwo_83 : decode cX0_gentlestTwo 83 = .ok (.iload 10, 2) := by decide +kernel
theorem dX0_gentlestTwo_85 : decode cX0_gentlestTwo 85 = .ok (.iload 4, 2) := by decide +kernel
theorem dX0_gentlestTwo_87 : decode cX0_gentlestTwo 87 = .ok (.if_icmp .ge 10, 3) := by decide +kernel
theorem dX0_gentlestTwo_90 : decode cX0_gentlestTwo 90 = .ok (.iload 10, 2) := by decide +kernel
theorem dX0_gentlestTwo_92 : decode cX0_gentlestTwo 92 = .ok (.istore 4, 2) := by decide +kernel
theorem dX0_gentlestTwo_94 : decode cX0_gentlestTwo 94 = .ok (.lload 8, 2) := by decide +kernel
theorem dX0_gentlestTwo_96 : decode cX0_gentlestTwo 96 = .ok (.lstore_n 2, 1) := by decide +kernel
theorem dX0_gentlestTwo_97 : decode cX0_gentlestTwo 97 = .ok (.iinc 5 1, 3) := by decide +kernel
theorem dX0_gentlestTwo_100 : decode cX0_gentlestTwo 100 = .ok (.goto (-91), 3) := by decide +kernel
theorem dX0_gentlestTwo_103 : decode cX0_gentlestTwo 103 = .ok (.lload_n 2, 1) := by decide +kernel
theorem dX0_gentlestTwo_104 : decode cX0_gentlestTwo 104 = .ok (.lreturn, 1) := by decide +kernel
theorem dX1_init_0 : decode cX1_init 0 = .ok (.aload_n 0, 1) := by decide +kernel
theorem dX1_init_1 : decode cX1_init 1 = .ok (.invokespecial 3, 3) := by decide +kernel
theorem dX1_init_4 : decode cX1_init 4 = .ok (.aload_n 0, 1) := by decide +kernel
theorem dX1_init_5 : decode cX1_init 5 = .ok (.bipush 11, 2) := by decide +kernel
theorem dX1_init_7 : decode cX1_init 7 = .ok (.sipush 3000, 3) := by decide +kernel
theorem dX1_init_10 : decode cX1_init 10 = .ok (.multianewarray 11 2, 4) := by decide +kernel
theorem dX1_init_14 : decode cX1_init 14 = .ok (.putfield 13, 3) := by decide +kernel
theorem dX1_init_17 : decode cX1_init 17 = .ok (.aload_n 0, 1) := by decide +kernel
theorem dX1_init_18 : decode cX1_init 18 = .ok (.iconst 0, 1) := by decide +kernel
theorem dX1_init_19 : decode cX1_init 19 = .ok (.putfield 16, 3) := by decide +kernel
theorem dX1_init_22 : decode cX1_init 22 = .ok (.return_, 1) := by decide +kernel
theorem dX1_reckon_0 : decode cX1_reckon 0 = .ok (.aload_n 0, 1) := by decide +kernel
theorem dX1_reckon_1 : decode cX1_reckon 1 = .ok (.iconst 0, 1) := by decide +kernel
theorem dX1_reckon_2 : decode cX1_reckon 2 = .ok (.iload_n 2, 1) := by decide +kernel
theorem dX1_reckon_3 : decode cX1_reckon 3 = .ok (.sipush 2999, 3) := by decide +kernel
theorem dX1_reckon_6 : decode cX1_reckon 6 = .ok (.invokestatic 20, 3) := by decide +kernel
theorem dX1_reckon_9 : decode cX1_reckon 9 = .ok (.invokestatic 26, 3) := by decide +kernel
theorem dX1_reckon_12 : decode cX1_reckon 12 = .ok (.putfield 16, 3) := by decide +kernel
theorem dX1_reckon_15 : decode cX1_reckon 15 = .ok (.aload_n 0, 1) := by decide +kernel
theorem dX1_reckon_16 : decode cX1_reckon 16 = .ok (.getfield 13, 3) := by decide +kernel
theorem dX1_reckon_19 : decode cX1_reckon 19 = .ok (.bipush 10, 2) := by decide +kernel
theorem dX1_reckon_21 : decode cX1_reckon 21 = .ok (.aaload, 1) := by decide +kernel
theorem dX1_reckon_22 : decode cX1_reckon 22 = .ok (.astore_n 3, 1) := by decide +kernel
theorem dX1_reckon_23 : decode cX1_reckon 23 = .ok (.iconst 1, 1) := by decide +kernel
theorem dX1_reckon_24 : decode cX1_reckon 24 = .ok (.istore 4, 2) := by decide +kernel
theorem dX1_reckon_26 : decode cX1_reckon 26 = .ok (.iload 4, 2) := by decide +kernel
theorem dX1_reckon_28 : decode cX1_reckon 28 = .ok (.aload_n 0, 1) := by decide +kernel
theorem dX1_reckon_29 : decode cX1_reckon 29 = .ok (.getfield 16, 3) := by decide +kernel
theorem dX1_reckon_32 : decode cX1_reckon 32 = .ok (.if_icmp .gt 15, 3) := by decide +kernel
theorem dX1_reckon_35 : decode cX1_reckon 35 = .ok (.aload_n 3, 1) := by decide +kernel
theorem dX1_reckon_36 : decode cX1_reckon 36 = .ok (.iload 4, 2) := by decide +kernel
theorem dX1_reckon_38 : decode cX1_reckon 38 = .ok (.ldc 29, 2) := by decide +kernel
theorem dX1_reckon_40 : decode cX1_reckon 40 = .ok (.iastore, 1) := by decide +kernel
theorem dX1_reckon_41 : decode cX1_reckon 41 = .ok (.iinc 4 1, 3) := by decide +kernel
theorem dX1_reckon_44 : decode cX1_reckon 44 = .ok (.goto (-18), 3) := by decide +kernel
theorem dX1_reckon_47 : decode cX1_reckon 47 = .ok (.aload_n 3, 1) := by decide +kernel
theorem dX1_reckon_48 : decode cX1_reckon 48 = .ok (.iconst 0, 1) := by decide +kernel
theorem dX1_reckon_49 : decode cX1_reckon 49 = .ok (.iconst 0, 1) := by decide +kernel
theorem dX1_reckon_50 : decode cX1_reckon 50 = .ok (.iastore, 1) := by decide +kernel
theorem dX1_reckon_51 : decode cX1_reckon 51 = .ok (.bipush 9, 2) := by decide +kernel
theorem dX1_reckon_53 : decode cX1_reckon 53 = .ok (.istore 4, 2) := by decide +kernel
theorem dX1_reckon_55 : decode cX1_reckon 55 = .ok (.iload 4, 2) := by decide +kernel
theorem dX1_reckon_57 : decode cX1_reckon 57 = .ok (.ifCond .lt 100, 3) := by decide +kernel
theorem dX1_reckon_60 : decode cX1_reckon 60 = .ok (.aload_n 0, 1) := by decide +kernel
theorem dX1_reckon_61 : decode cX1_reckon 61 = .ok (.getfield 13, 3) := by decide +kernel
theorem dX1_reckon_64 : decode cX1_reckon 64 = .ok (.iload 4, 2) := by decide +kernel
theorem dX1_reckon_66 : decode cX1_reckon 66 = .ok (.iconst 1, 1) := by decide +kernel
theorem dX1_reckon_67 : decode cX1_reckon 67 = .ok (.iadd, 1) := by decide +kernel
theorem dX1_reckon_68 : decode cX1_reckon 68 = .ok (.aaload, 1) := by decide +kernel
theorem dX1_reckon_69 : decode cX1_reckon 69 = .ok (.astore 5, 2) := by decide +kernel
theorem dX1_reckon_71 : decode cX1_reckon 71 = .ok (.aload_n 0, 1) := by decide +kernel
theorem dX1_reckon_72 : decode cX1_reckon 72 = .ok (.getfield 13, 3) := by decide +kernel
theorem dX1_reckon_75 : decode cX1_reckon 75 = .ok (.iload 4, 2) := by decide +kernel
theorem dX1_reckon_77 : decode cX1_reckon 77 = .ok (.aaload, 1) := by decide +kernel
theorem dX1_reckon_78 : decode cX1_reckon 78 = .ok (.astore 6, 2) := by decide +kernel
theorem dX1_reckon_80 : decode cX1_reckon 80 = .ok (.iconst 0, 1) := by decide +kernel
theorem dX1_reckon_81 : decode cX1_reckon 81 = .ok (.istore 7, 2) := by decide +kernel
theorem dX1_reckon_83 : decode cX1_reckon 83 = .ok (.iload 7, 2) := by decide +kernel
theorem dX1_reckon_85 : decode cX1_reckon 85 = .ok (.aload_n 0, 1) := by decide +kernel
theorem dX1_reckon_86 : decode cX1_reckon 86 = .ok (.getfield 16, 3) := by decide +kernel
theorem dX1_reckon_89 : decode cX1_reckon 89 = .ok (.if_icmp .gt 19, 3) := by decide +kernel
theorem dX1_reckon_92 : decode cX1_reckon 92 = .ok (.aload 6, 2) := by decide +kernel
theorem dX1_reckon_94 : decode cX1_reckon 94 = .ok (.iload 7, 2) := by decide +kernel
theorem dX1_reckon_96 : decode cX1_reckon 96 = .ok (.aload 5, 2) := by decide +kernel
theorem dX1_reckon_98 : decode cX1_reckon 98 = .ok (.iload 7, 2) := by decide +kernel
theorem dX1_reckon_100 : decode cX1_reckon 100 = .ok (.iaload, 1) := by decide +kernel
theorem dX1_reckon_101 : decode cX1_reckon 101 = .ok (.iastore, 1) := by decide +kernel
theorem dX1_reckon_102 : decode cX1_reckon 102 = .ok (.iinc 7 1, 3) := by decide +kernel
theorem dX1_reckon_105 : decode cX1_reckon 105 = .ok (.goto (-22), 3) := by decide +kernel
theorem dX1_reckon_108 : decode cX1_reckon 108 = .ok (.aload_n 1, 1) := by decide +kernel
theorem dX1_reckon_109 : decode cX1_reckon 109 = .ok (.iload 4, 2) := by decide +kernel
theorem dX1_reckon_111 : decode cX1_reckon 111 = .ok (.aaload, 1) := by decide +kernel
theorem dX1_reckon_112 : decode cX1_reckon 112 = .ok (.astore 7, 2) := by decide +kernel
theorem dX1_reckon_114 : decode cX1_reckon 114 = .ok (.aload 7, 2) := by decide +kernel
theorem dX1_reckon_116 : decode cX1_reckon 116 = .ok (.instanceof 30, 3) := by decide +kernel
theorem dX1_reckon_119 : decode cX1_reckon 119 = .ok (.ifCond .eq 19, 3) := by decide +kernel
theorem dX1_reckon_122 : decode cX1_reckon 122 = .ok (.aload_n 0, 1) := by decide +kernel
theorem dX1_reckon_123 : decode cX1_reckon 123 = .ok (.aload 6, 2) := by decide +kernel
theorem dX1_reckon_125 : decode cX1_reckon 125 = .ok (.aload 5, 2) := by decide +kernel
theorem dX1_reckon_127 : decode cX1_reckon 127 = .ok (.aload 7, 2) := by decide +kernel
theorem dX1_reckon_129 : decode cX1_reckon 129 = .ok (.checkcast 30, 3) := by decide +kernel
theorem dX1_reckon_132 : decode cX1_reckon 132 = .ok (.invokevirtual 32, 3) := by decide +kernel
theorem dX1_reckon_135 : decode cX1_reckon 135 = .ok (.goto 16, 3) := by decide +kernel
theorem dX1_reckon_138 : decode cX1_reckon 138 = .ok (.aload 7, 2) := by decide +kernel
theorem dX1_reckon_140 : decode cX1_reckon 140 = .ok (.ifnull 11, 3) := by decide +kernel
theorem dX1_reckon_143 : decode cX1_reckon 143 = .ok (.aload_n 0, 1) := by decide +kernel
theorem dX1_reckon_144 : decode cX1_reckon 144 = .ok (.aload 6, 2) := by decide +kernel
theorem dX1_reckon_146 : decode cX1_reckon 146 = .ok (.aload 7, 2) := by decide +kernel
theorem dX1_reckon_148 : decode cX1_reckon 148 = .ok (.invokevirtual 36, 3) := by decide +kernel
theorem dX1_reckon_151 : decode cX1_reckon 151 = .ok (.iinc 4 (-1), 3) := by decide +kernel
theorem dX1_reckon_154 : decode cX1_reckon 154 = .ok (.goto (-99), 3) := by decide +kernel
theorem dX1_reckon_157 : decode cX1_reckon 157 = .ok (.return_, 1) := by decide +kernel
theorem dX1_addAlike_0 : decode cX1_addAlike 0 = .ok (.aload_n 2, 1) := by decide +kernel
theorem dX1_addAlike_1 : decode cX1_addAlike 1 = .ok (.getfield 40, 3) := by decide +kernel
theorem dX1_addAlike_4 : decode cX1_addAlike 4 = .ok (.istore_n 3, 1) := by decide +kernel
theorem dX1_addAlike_5 : decode cX1_addAlike 5 = .ok (.aload_n 2, 1) := by decide +kernel
theorem dX1_addAlike_6 : decode cX1_addAlike 6 = .ok (.invokevirtual 45, 3) := by decide +kernel
theorem dX1_addAlike_9 : decode cX1_addAlike 9 = .ok (.istore 4, 2) := by decide +kernel
theorem dX1_addAlike_11 : decode cX1_addAlike 11 = .ok (.iconst 0, 1) := by decide +kernel
theorem dX1_addAlike_12 : decode cX1_addAlike 12 = .ok (.istore 5, 2) := by decide +kernel
theorem dX1_addAlike_14 : decode cX1_addAlike 14 = .ok (.iload 5, 2) := by decide +kernel
theorem dX1_addAlike_16 : decode cX1_addAlike 16 = .ok (.bipush 64, 2) := by decide +kernel
theorem dX1_addAlike_18 : decode cX1_addAlike 18 = .ok (.if_icmp .ge 47, 3) := by decide +kernel
theorem dX1_addAlike_21 : decode cX1_addAlike 21 = .ok (.iload_n 3, 1) := by decide +kernel
theorem dX1_addAlike_22 : decode cX1_addAlike 22 = .ok (.ifCond .le 43, 3) := by decide +kernel
theorem dX1_addAlike_25 : decode cX1_addAlike 25 = .ok (.iload 4, 2) := by decide +kernel
theorem dX1_addAlike_27 : decode cX1_addAlike 27 = .ok (.iload_n 3, 1) := by decide +kernel
theorem dX1_addAlike_28 : decode cX1_addAlike 28 = .ok (.invokestatic 20, 3) := by decide +kernel
theorem dX1_addAlike_31 : decode cX1_addAlike 31 = .ok (.istore 6, 2) := by decide +kernel
theorem dX1_addAlike_33 : decode cX1_addAlike 33 = .ok (.aload_n 0, 1) := by decide +kernel
theorem dX1_addAlike_34 : decode cX1_addAlike 34 = .ok (.aload_n 1, 1) := by decide +kernel
theorem dX1_addAlike_35 : decode cX1_addAlike 35 = .ok (.aload_n 1, 1) := by decide +kernel
theorem dX1_addAlike_36 : decode cX1_addAlike 36 = .ok (.iload 6, 2) := by decide +kernel
theorem dX1_addAlike_38 : decode cX1_addAlike 38 = .ok (.aload_n 2, 1) := by decide +kernel
theorem dX1_addAlike_39 : decode cX1_addAlike 39 = .ok (.getfield 49, 3) := by decide +kernel
theorem dX1_addAlike_42 : decode cX1_addAlike 42 = .ok (.imul, 1) := by decide +kernel
theorem dX1_addAlike_43 : decode cX1_addAlike 43 = .ok (.iload 6, 2) := by decide +kernel
theorem dX1_addAlike_45 : decode cX1_addAlike 45 = .ok (.invokevirtual 52, 3) := by decide +kernel
theorem dX1_addAlike_48 : decode cX1_addAlike 48 = .ok (.iload_n 3, 1) := by decide +kernel
theorem dX1_addAlike_49 : decode cX1_addAlike 49 = .ok (.iload 6, 2) := by decide +kernel
theorem dX1_addAlike_51 : decode cX1_addAlike 51 = .ok (.isub, 1) := by decide +kernel
theorem dX1_addAlike_52 : decode cX1_addAlike 52 = .ok (.istore_n 3, 1) := by decide +kernel
theorem dX1_addAlike_53 : decode cX1_addAlike 53 = .ok (.iload 4, 2) := by decide +kernel
theorem dX1_addAlike_55 : decode cX1_addAlike 55 = .ok (.iconst 2, 1) := by decide +kernel
theorem dX1_addAlike_56 : decode cX1_addAlike 56 = .ok (.imul, 1) := by decide +kernel
theorem dX1_addAlike_57 : decode cX1_addAlike 57 = .ok (.istore 4, 2) := by decide +kernel
theorem dX1_addAlike_59 : decode cX1_addAlike 59 = .ok (.iinc 5 1, 3) := by decide +kernel
theorem dX1_addAlike_62 : decode cX1_addAlike 62 = .ok (.goto (-48), 3) := by decide +kernel
theorem dX1_addAlike_65 : decode cX1_addAlike 65 = .ok (.return_, 1) := by decide +kernel
theorem dX1_addStrip_0 : decode cX1_addStrip 0 = .ok (.iconst 1, 1) := by decide +kernel
theorem dX1_addStrip_1 : decode cX1_addStrip 1 = .ok (.istore 4, 2) := by decide +kernel
theorem dX1_addStrip_3 : decode cX1_addStrip 3 = .ok (.iload 4, 2) := by decide +kernel
theorem dX1_addStrip_5 : decode cX1_addStrip 5 = .ok (.aload_n 3, 1) := by decide +kernel
theorem dX1_addStrip_6 : decode cX1_addStrip 6 = .ok (.getfield 56, 3) := by decide +kernel
theorem dX1_addStrip_9 : decode cX1_addStrip 9 = .ok (.if_icmp .gt 23, 3) := by decide +kernel
theorem dX1_addStrip_12 : decode cX1_addStrip 12 = .ok (.aload_n 0, 1) := by decide +kernel
theorem dX1_addStrip_13 : decode cX1_addStrip 13 = .ok (.aload_n 1, 1) := by decide +kernel
theorem dX1_addStrip_14 : decode cX1_addStrip 14 = .ok (.aload_n 2, 1) := by decide +kernel
theorem dX1_addStrip_15 : decode cX1_addStrip 15 = .ok (.aload_n 3, 1) := by decide +kernel
theorem dX1_addStrip_16 : decode cX1_addStrip 16 = .ok (.iload 4, 2) := by decide +kernel
theorem dX1_addStrip_18 : decode cX1_addStrip 18 = .ok (.invokevirtual 57, 3) := by decide +kernel
theorem dX1_addStrip_21 : decode cX1_addStrip 21 = .ok (.iload 4, 2) := by decide +kernel
theorem dX1_addStrip_23 : decode cX1_addStrip 23 = .ok (.invokevirtual 52, 3) := by decide +kernel
theorem dX1_addStrip_26 : decode cX1_addStrip 26 = .ok (.iinc 4 1, 3) := by decide +kernel
theorem dX1_addStrip_29 : decode cX1_addStrip 29 = .ok (.goto (-26), 3) := by decide +kernel
theorem dX1_addStrip_32 : decode cX1_addStrip 32 = .ok (.return_, 1) := by decide +kernel
theorem dX1_offer_0 : decode cX1_offer 0 = .ok (.aload_n 0, 1) := by decide +kernel
theorem dX1_offer_1 : decode cX1_offer 1 = .ok (.getfield 16, 3) := by decide +kernel
theorem dX1_offer_4 : decode cX1_offer 4 = .ok (.istore 5, 2) := by decide +kernel
theorem dX1_offer_6 : decode cX1_offer 6 = .ok (.iload 5, 2) := by decide +kernel
theorem dX1_offer_8 : decode cX1_offer 8 = .ok (.iload_n 3, 1) := by decide +kernel
theorem dX1_offer_9 : decode cX1_offer 9 = .ok (.if_icmp .lt 35, 3) := by decide +kernel
theorem dX1_offer_12 : decode cX1_offer 12 = .ok (.aload_n 2, 1) := by decide +kernel
theorem dX1_offer_13 : decode cX1_offer 13 = .ok (.iload 5, 2) := by decide +kernel
theorem dX1_offer_15 : decode cX1_offer 15 = .ok (.iload_n 3, 1) := by decide +kernel
theorem dX1_offer_16 : decode cX1_offer 16 = .ok (.isub, 1) := by decide +kernel
theorem dX1_offer_17 : decode cX1_offer 17 = .ok (.iaload, 1) := by decide +kernel
theorem dX1_offer_18 : decode cX1_offer 18 = .ok (.iload 4, 2) := by decide +kernel
theorem dX1_offer_20 : decode cX1_offer 20 = .ok (.iadd, 1) := by decide +kernel
theorem dX1_offer_21 : decode cX1_offer 21 = .ok (.istore 6, 2) := by decide +kernel
theorem dX1_offer_23 : decode cX1_offer 23 = .ok (.iload 6, 2) := by decide +kernel
theorem dX1_offer_25 : decode cX1_offer 25 = .ok (.aload_n 1, 1) := by decide +kernel
theorem dX1_offer_26 : decode cX1_offer 26 = .ok (.iload 5, 2) := by decide +kernel
theorem dX1_offer_28 : decode cX1_offer 28 = .ok (.iaload, 1) := by decide +kernel
theorem dX1_offer_29 : decode cX1_offer 29 = .ok (.if_icmp .ge 9, 3) := by decide +kernel
theorem dX1_offer_32 : decode cX1_offer 32 = .ok (.aload_n 1, 1) := by decide +kernel
theorem dX1_offer_33 : decode cX1_offer 33 = .ok (.iload 5, 2) := by decide +kernel
theorem dX1_offer_35 : decode cX1_offer 35 = .ok (.iload 6, 2) := by decide +kernel
theorem dX1_offer_37 : decode cX1_offer 37 = .ok (.iastore, 1) := by decide +kernel
theorem dX1_offer_38 : decode cX1_offer 38 = .ok (.iinc 5 (-1), 3) := by decide +kernel
theorem dX1_offer_41 : decode cX1_offer 41 = .ok (.goto (-35), 3) := by decide +kernel
theorem dX1_offer_44 : decode cX1_offer 44 = .ok (.return_, 1) := by decide +kernel
theorem dX1_stampsFor_0 : decode cX1_stampsFor 0 = .ok (.iload_n 1, 1) := by decide +kernel
theorem dX1_stampsFor_1 : decode cX1_stampsFor 1 = .ok (.iconst 0, 1) := by decide +kernel
theorem dX1_stampsFor_2 : decode cX1_stampsFor 2 = .ok (.aload_n 0, 1) := by decide +kernel
theorem dX1_stampsFor_3 : decode cX1_stampsFor 3 = .ok (.getfield 16, 3) := by decide +kernel
theorem dX1_stampsFor_6 : decode cX1_stampsFor 6 = .ok (.invokestatic 61, 3) := by decide +kernel
theorem dX1_stampsFor_9 : decode cX1_stampsFor 9 = .ok (.ifCond .eq 27, 3) := by decide +kernel
theorem dX1_stampsFor_12 : decode cX1_stampsFor 12 = .ok (.aload_n 0, 1) := by decide +kernel
theorem dX1_stampsFor_13 : decode cX1_stampsFor 13 = .ok (.getfield 13, 3) := by decide +kernel
theorem dX1_stampsFor_16 : decode cX1_stampsFor 16 = .ok (.iconst 0, 1) := by decide +kernel
theorem dX1_stampsFor_17 : decode cX1_stampsFor 17 = .ok (.aaload, 1) := by decide +kernel
theorem dX1_stampsFor_18 : decode cX1_stampsFor 18 = .ok (.iload_n 1, 1) := by decide +kernel
theorem dX1_stampsFor_19 : decode cX1_stampsFor 19 = .ok (.iaload, 1) := by decide +kernel
theorem dX1_stampsFor_20 : decode cX1_stampsFor 20 = .ok (.ldc 29, 2) := by decide +kernel
theorem dX1_stampsFor_22 : decode cX1_stampsFor 22 = .ok (.if_icmp .ge 14, 3) := by decide +kernel
theorem dX1_stampsFor_25 : decode cX1_stampsFor 25 = .ok (.aload_n 0, 1) := by decide +kernel
theorem dX1_stampsFor_26 : decode cX1_stampsFor 26 = .ok (.getfield 13, 3) := by decide +kernel
theorem dX1_stampsFor_29 : decode cX1_stampsFor 29 = .ok (.iconst 0, 1) := by decide +kernel
theorem dX1_stampsFor_30 : decode cX1_stampsFor 30 = .ok (.aaload, 1) := by decide +kernel
theorem dX1_stampsFor_31 : decode cX1_stampsFor 31 = .ok (.iload_n 1, 1) := by decide +kernel
theorem dX1_stampsFor_32 : decode cX1_stampsFor 32 = .ok (.iaload, 1) := by decide +kernel
theorem dX1_stampsFor_33 : decode cX1_stampsFor 33 = .ok (.goto 4, 3) := by decide +kernel
theorem dX1_stampsFor_36 : decode cX1_stampsFor 36 = .ok (.iconst (-1), 1) := by decide +kernel
theorem dX1_stampsFor_37 : decode cX1_stampsFor 37 = .ok (.ireturn, 1) := by decide +kernel
theorem dX1_firstSum_0 : decode cX1_firstSum 0 = .ok (.iconst 0, 1) := by decide +kernel
theorem dX1_firstSum_1 : decode cX1_firstSum 1 = .ok (.iload_n 1, 1) := by decide +kernel
theorem dX1_firstSum_2 : decode cX1_firstSum 2 = .ok (.invokestatic 26, 3) := by decide +kernel
theorem dX1_firstSum_5 : decode cX1_firstSum 5 = .ok (.istore_n 2, 1) := by decide +kernel
theorem dX1_firstSum_6 : decode cX1_firstSum 6 = .ok (.iload_n 2, 1) := by decide +kernel
theorem dX1_firstSum_7 : decode cX1_firstSum 7 = .ok (.aload_n 0, 1) := by decide +kernel
theorem dX1_firstSum_8 : decode cX1_firstSum 8 = .ok (.getfield 16, 3) := by decide +kernel
theorem dX1_firstSum_11 : decode cX1_firstSum 11 = .ok (.if_icmp .gt 24, 3) := by decide +kernel
theorem dX1_firstSum_14 : decode cX1_firstSum 14 = .ok (.aload_n 0, 1) := by decide +kernel
theorem dX1_firstSum_15 : decode cX1_firstSum 15 = .ok (.getfield 13, 3) := by decide +kernel
theorem dX1_firstSum_18 : decode cX1_firstSum 18 = .ok (.iconst 0, 1) := by decide +kernel
theorem dX1_firstSum_19 : decode cX1_firstSum 19 = .ok (.aaload, 1) := by decide +kernel
theorem dX1_firstSum_20 : decode cX1_firstSum 20 = .ok (.iload_n 2, 1) := by decide +kernel
theorem dX1_firstSum_21 : decode cX1_firstSum 21 = .ok (.iaload, 1) := by decide +kernel
theorem dX1_firstSum_22 : decode cX1_firstSum 22 = .ok (.ldc 29, 2) := by decide +kernel
theorem dX1_firstSum_24 : decode cX1_firstSum 24 = .ok (.if_icmp .ge 5, 3) := by decide +kernel
theorem dX1_firstSum_27 : decode cX1_firstSum 27 = .ok (.iload_n 2, 1) := by decide +kernel
theorem dX1_firstSum_28 : decode cX1_firstSum 28 = .ok (.ireturn, 1) := by decide +kernel
theorem dX1_firstSum_29 : decode cX1_firstSum 29 = .ok (.iinc 2 1, 3) := by decide +kernel
theorem dX1_firstSum_32 : decode cX1_firstSum 32 = .ok (.goto (-26), 3) := by decide +kernel
theorem dX1_firstSum_35 : decode cX1_firstSum 35 = .ok (.iconst (-1), 1) := by decide +kernel
theorem dX1_firstSum_36 : decode cX1_firstSum 36 = .ok (.ireturn, 1) := by decide +kernel
theorem dX1_countsFor_0 : decode cX1_countsFor 0 = .ok (.bipush 10, 2) := by decide +kernel
theorem dX1_countsFor_2 : decode cX1_countsFor 2 = .ok (.newarray .int, 2) := by decide +kernel
theorem dX1_countsFor_4 : decode cX1_countsFor 4 = .ok (.astore_n 3, 1) := by decide +kernel
theorem dX1_countsFor_5 : decode cX1_countsFor 5 = .ok (.iload_n 2, 1) := by decide +kernel
theorem dX1_countsFor_6 : decode cX1_countsFor 6 = .ok (.istore 4, 2) := by decide +kernel
theorem dX1_countsFor_8 : decode cX1_countsFor 8 = .ok (.iconst 0, 1) := by decide +kernel
theorem dX1_countsFor_9 : decode cX1_countsFor 9 = .ok (.istore 5, 2) := by decide +kernel
theorem dX1_countsFor_11 : decode cX1_countsFor 11 = .ok (.iload 5, 2) := by decide +kernel
theorem dX1_countsFor_13 : decode cX1_countsFor 13 = .ok (.bipush 10, 2) := by decide +kernel
theorem dX1_countsFor_15 : decode cX1_countsFor 15 = .ok (.if_icmp .ge 61, 3) := by decide +kernel
theorem dX1_countsFor_18 : decode cX1_countsFor 18 = .ok (.aload_n 1, 1) := by decide +kernel
theorem dX1_countsFor_19 : decode cX1_countsFor 19 = .ok (.iload 5, 2) := by decide +kernel
theorem dX1_countsFor_21 : decode cX1_countsFor 21 = .ok (.aaload, 1) := by decide +kernel
theorem dX1_countsFor_22 : decode cX1_countsFor 22 = .ok (.astore 6, 2) := by decide +kernel
theorem dX1_countsFor_24 : decode cX1_countsFor 24 = .ok (.aload 6, 2) := by decide +kernel
theorem dX1_countsFor_26 : decode cX1_countsFor 26 = .ok (.ifnull 44, 3) := by decide +kernel
theorem dX1_countsFor_29 : decode cX1_countsFor 29 = .ok (.iload 4, 2) := by decide +kernel
theorem dX1_countsFor_31 : decode cX1_countsFor 31 = .ok (.iconst 0, 1) := by decide +kernel
theorem dX1_countsFor_32 : decode cX1_countsFor 32 = .ok (.aload_n 0, 1) := by decide +kernel
theorem dX1_countsFor_33 : decode cX1_countsFor 33 = .ok (.getfield 16, 3) := by decide +kernel
theorem dX1_countsFor_36 : decode cX1_countsFor 36 = .ok (.invokestatic 61, 3) := by decide +kernel
theorem dX1_countsFor_39 : decode cX1_countsFor 39 = .ok (.ifCond .eq 31, 3) := by decide +kernel
theorem dX1_countsFor_42 : decode cX1_countsFor 42 = .ok (.aload_n 3, 1) := by decide +kernel
theorem dX1_countsFor_43 : decode cX1_countsFor 43 = .ok (.iload 5, 2) := by decide +kernel
theorem dX1_countsFor_45 : decode cX1_countsFor 45 = .ok (.aload_n 0, 1) := by decide +kernel
theorem dX1_countsFor_46 : decode cX1_countsFor 46 = .ok (.aload 6, 2) := by decide +kernel
theorem dX1_countsFor_48 : decode cX1_countsFor 48 = .ok (.iload 5, 2) := by decide +kernel
theorem dX1_countsFor_50 : decode cX1_countsFor 50 = .ok (.iload 4, 2) := by decide +kernel
theorem dX1_countsFor_52 : decode cX1_countsFor 52 = .ok (.invokevirtual 65, 3) := by decide +kernel
theorem dX1_countsFor_55 : decode cX1_countsFor 55 = .ok (.iastore, 1) := by decide +kernel
theorem dX1_countsFor_56 : decode cX1_countsFor 56 = .ok (.iload 4, 2) := by decide +kernel
theorem dX1_countsFor_58 : decode cX1_countsFor 58 = .ok (.aload 6, 2) := by decide +kernel
theorem dX1_countsFor_60 : decode cX1_countsFor 60 = .ok (.aload_n 3, 1) := by decide +kernel
theorem dX1_countsFor_61 : decode cX1_countsFor 61 = .ok (.iload 5, 2) := by decide +kernel
theorem dX1_countsFor_63 : decode cX1_countsFor 63 = .ok (.iaload, 1) := by decide +kernel
theorem dX1_countsFor_64 : decode cX1_countsFor 64 = .ok (.invokevirtual 69, 3) := by decide +kernel
theorem dX1_countsFor_67 : decode cX1_countsFor 67 = .ok (.isub, 1) := by decide +kernel
theorem dX1_countsFor_68 : decode cX1_countsFor 68 = .ok (.istore 4, 2) := by decide +kernel
theorem dX1_countsFor_70 : decode cX1_countsFor 70 = .ok (.iinc 5 1, 3) := by decide +kernel
theorem dX1_countsFor_73 : decode cX1_countsFor 73 = .ok (.goto (-62), 3) := by decide +kernel
theorem dX1_countsFor_76 : decode cX1_countsFor 76 = .ok (.aload_n 3, 1) := by decide +kernel
theorem dX1_countsFor_77 : decode cX1_countsFor 77 = .ok (.areturn, 1) := by decide +kernel
theorem dX1_mostFrom_0 : decode cX1_mostFrom 0 = .ok (.iconst 1, 1) := by decide +kernel
theorem dX1_mostFrom_1 : decode cX1_mostFrom 1 = .ok (.aload_n 1, 1) := by decide +kernel
theorem dX1_mostFrom_2 : decode cX1_mostFrom 2 = .ok (.invokevirtual 45, 3) := by decide +kernel
theorem dX1_mostFrom_5 : decode cX1_mostFrom 5 = .ok (.invokestatic 26, 3) := by decide +kernel
theorem dX1_mostFrom_8 : decode cX1_mostFrom 8 = .ok (.istore 4, 2) := by decide +kernel
theorem dX1_mostFrom_10 : decode cX1_mostFrom 10 = .ok (.aload_n 1, 1) := by decide +kernel
theorem dX1_mostFrom_11 : decode cX1_mostFrom 11 = .ok (.getfield 40, 3) := by decide +kernel
theorem dX1_mostFrom_14 : decode cX1_mostFrom 14 = .ok (.istore 5, 2) := by decide +kernel
theorem dX1_mostFrom_16 : decode cX1_mostFrom 16 = .ok (.iload 5, 2) := by decide +kernel
theorem dX1_mostFrom_18 : decode cX1_mostFrom 18 = .ok (.ifCond .le 57, 3) := by decide +kernel
theorem dX1_mostFrom_21 : decode cX1_mostFrom 21 = .ok (.aload_n 1, 1) := by decide +kernel
theorem dX1_mostFrom_22 : decode cX1_mostFrom 22 = .ok (.iload 5, 2) := by decide +kernel
theorem dX1_mostFrom_24 : decode cX1_mostFrom 24 = .ok (.invokevirtual 69, 3) := by decide +kernel
theorem dX1_mostFrom_27 : decode cX1_mostFrom 27 = .ok (.istore 6, 2) := by decide +kernel
theorem dX1_mostFrom_29 : decode cX1_mostFrom 29 = .ok (.iload 6, 2) := by decide +kernel
theorem dX1_mostFrom_31 : decode cX1_mostFrom 31 = .ok (.iload_n 3, 1) := by decide +kernel
theorem dX1_mostFrom_32 : decode cX1_mostFrom 32 = .ok (.if_icmp .gt 33, 3) := by decide +kernel
theorem dX1_mostFrom_35 : decode cX1_mostFrom 35 = .ok (.aload_n 0, 1) := by decide +kernel
theorem dX1_mostFrom_36 : decode cX1_mostFrom 36 = .ok (.getfield 13, 3) := by decide +kernel
theorem dX1_mostFrom_39 : decode cX1_mostFrom 39 = .ok (.iload_n 2, 1) := by decide +kernel
theorem dX1_mostFrom_40 : decode cX1_mostFrom 40 = .ok (.iconst 1, 1) := by decide +kernel
theorem dX1_mostFrom_41 : decode cX1_mostFrom 41 = .ok (.iadd, 1) := by decide +kernel
theorem dX1_mostFrom_42 : decode cX1_mostFrom 42 = .ok (.aaload, 1) := by decide +kernel
theorem dX1_mostFrom_43 : decode cX1_mostFrom 43 = .ok (.iload_n 3, 1) := by decide +kernel
theorem dX1_mostFrom_44 : decode cX1_mostFrom 44 = .ok (.iload 6, 2) := by decide +kernel
theorem dX1_mostFrom_46 : decode cX1_mostFrom 46 = .ok (.isub, 1) := by decide +kernel
theorem dX1_mostFrom_47 : decode cX1_mostFrom 47 = .ok (.iaload, 1) := by decide +kernel
theorem dX1_mostFrom_48 : decode cX1_mostFrom 48 = .ok (.iload 5, 2) := by decide +kernel
theorem dX1_mostFrom_50 : decode cX1_mostFrom 50 = .ok (.iadd, 1) := by decide +kernel
theorem dX1_mostFrom_51 : decode cX1_mostFrom 51 = .ok (.aload_n 0, 1) := by decide +kernel
theorem dX1_mostFrom_52 : decode cX1_mostFrom 52 = .ok (.getfield 13, 3) := by decide +kernel
theorem dX1_mostFrom_55 : decode cX1_mostFrom 55 = .ok (.iload_n 2, 1) := by decide +kernel
theorem dX1_mostFrom_56 : decode cX1_mostFrom 56 = .ok (.aaload, 1) := by decide +kernel
theorem dX1_mostFrom_57 : decode cX1_mostFrom 57 = .ok (.iload_n 3, 1) := by decide +kernel
theorem dX1_mostFrom_58 : decode cX1_mostFrom 58 = .ok (.iaload, 1) := by decide +kernel
theorem dX1_mostFrom_59 : decode cX1_mostFrom 59 = .ok (.if_icmp .ne 6, 3) := by decide +kernel
theorem dX1_mostFrom_62 : decode cX1_mostFrom 62 = .ok (.iload 5, 2) := by decide +kernel
theorem dX1_mostFrom_64 : decode cX1_mostFrom 64 = .ok (.ireturn, 1) := by decide +kernel
theorem dX1_mostFrom_65 : decode cX1_mostFrom 65 = .ok (.iload 5, 2) := by decide +kernel
theorem dX1_mostFrom_67 : decode cX1_mostFrom 67 = .ok (.iload 4, 2) := by decide +kernel
theorem dX1_mostFrom_69 : decode cX1_mostFrom 69 = .ok (.isub, 1) := by decide +kernel
theorem dX1_mostFrom_70 : decode cX1_mostFrom 70 = .ok (.istore 5, 2) := by decide +kernel
theorem dX1_mostFrom_72 : decode cX1_mostFrom 72 = .ok (.goto (-56), 3) := by decide +kernel
theorem dX1_mostFrom_75 : decode cX1_mostFrom 75 = .ok (.iconst 0, 1) := by decide +kernel
theorem dX1_mostFrom_76 : decode cX1_mostFrom 76 = .ok (.ireturn, 1) := by decide +kernel
theorem dX2_init_0 : decode cX2_init 0 = .ok (.aload_n 0, 1) := by decide +kernel
theorem dX2_init_1 : decode cX2_init 1 = .ok (.invokespecial 1, 3) := by decide +kernel
theorem dX2_init_4 : decode cX2_init 4 = .ok (.aload_n 0, 1) := by decide +kernel
theorem dX2_init_5 : decode cX2_init 5 = .ok (.iload_n 1, 1) := by decide +kernel
theorem dX2_init_6 : decode cX2_init 6 = .ok (.putfield 7, 3) := by decide +kernel
theorem dX2_init_9 : decode cX2_init 9 = .ok (.aload_n 0, 1) := by decide +kernel
theorem dX2_init_10 : decode cX2_init 10 = .ok (.aload_n 2, 1) := by decide +kernel
theorem dX2_init_11 : decode cX2_init 11 = .ok (.putfield 13, 3) := by decide +kernel
theorem dX2_init_14 : decode cX2_init 14 = .ok (.return_, 1) := by decide +kernel
theorem dX3_init_0 : decode cX3_init 0 = .ok (.aload_n 0, 1) := by decide +kernel
theorem dX3_init_1 : decode cX3_init 1 = .ok (.iload_n 2, 1) := by decide +kernel
theorem dX3_init_2 : decode cX3_init 2 = .ok (.iload_n 3, 1) := by decide +kernel
theorem dX3_init_3 : decode cX3_init 3 = .ok (.invokespecial 3, 3) := by decide +kernel
theorem dX3_init_6 : decode cX3_init 6 = .ok (.aload_n 0, 1) := by decide +kernel
theorem dX3_init_7 : decode cX3_init 7 = .ok (.iload_n 1, 1) := by decide +kernel
theorem dX3_init_8 : decode cX3_init 8 = .ok (.putfield 9, 3) := by decide +kernel
theorem dX3_init_11 : decode cX3_init 11 = .ok (.return_, 1) := by decide +kernel
theorem dX3_kind_0 : decode cX3_kind 0 = .ok (.iconst 4, 1) := by decide +kernel
theorem dX3_kind_1 : decode cX3_kind 1 = .ok (.ireturn, 1) := by decide +kernel
theorem dX3_without_0 : decode cX3_without 0 = .ok (.new 10, 3) := by decide +kernel
theorem dX3_without_3 : decode cX3_without 3 = .ok (.dup, 1) := by decide +kernel
theorem dX3_without_4 : decode cX3_without 4 = .ok (.aload_n 0, 1) := by decide +kernel
theorem dX3_without_5 : decode cX3_without 5 = .ok (.getfield 9, 3) := by decide +kernel
theorem dX3_without_8 : decode cX3_without 8 = .ok (.aload_n 0, 1) := by decide +kernel
theorem dX3_without_9 : decode cX3_without 9 = .ok (.getfield 15, 3) := by decide +kernel
theorem dX3_without_12 : decode cX3_without 12 = .ok (.aload_n 0, 1) := by decide +kernel
theorem dX3_without_13 : decode cX3_without 13 = .ok (.getfield 18, 3) := by decide +kernel
theorem dX3_without_16 : decode cX3_without 16 = .ok (.iload_n 1, 1) := by decide +kernel
theorem dX3_without_17 : decode cX3_without 17 = .ok (.isub, 1) := by decide +kernel
theorem dX3_without_18 : decode cX3_without 18 = .ok (.invokespecial 21, 3) := by decide +kernel
theorem dX3_without_21 : decode cX3_without 21 = .ok (.areturn, 1) := by decide +kernel
theorem dX4_init_0 : decode cX4_init 0 = .ok (.aload_n 0, 1) := by decide +kernel
theorem dX4_init_1 : decode cX4_init 1 = .ok (.iload_n 1, 1) := by decide +kernel
theorem dX4_init_2 : decode cX4_init 2 = .ok (.iload_n 2, 1) := by decide +kernel
theorem dX4_init_3 : decode cX4_init 3 = .ok (.iload_n 3, 1) := by decide +kernel
theorem dX4_init_4 : decode cX4_init 4 = .ok (.iload 4, 2) := by decide +kernel
theorem dX4_init_6 : decode cX4_init 6 = .ok (.lload 5, 2) := by decide +kernel
theorem dX4_init_8 : decode cX4_init 8 = .ok (.invokespecial 3, 3) := by decide +kernel
theorem dX4_init_11 : decode cX4_init 11 = .ok (.return_, 1) := by decide +kernel
theorem dX4_kind_0 : decode cX4_kind 0 = .ok (.iconst 3, 1) := by decide +kernel
theorem dX4_kind_1 : decode cX4_kind 1 = .ok (.ireturn, 1) := by decide +kernel
theorem dX4_together_0 : decode cX4_together 0 = .ok (.iconst 2, 1) := by decide +kernel
theorem dX4_together_1 : decode cX4_together 1 = .ok (.ireturn, 1) := by decide +kernel
theorem dX4_changed_0 : decode cX4_changed 0 = .ok (.new 9, 3) := by decide +kernel
theorem dX4_changed_3 : decode cX4_changed 3 = .ok (.dup, 1) := by decide +kernel
theorem dX4_changed_4 : decode cX4_changed 4 = .ok (.aload_n 0, 1) := by decide +kernel
theorem dX4_changed_5 : decode cX4_changed 5 = .ok (.getfield 11, 3) := by decide +kernel
theorem dX4_changed_8 : decode cX4_changed 8 = .ok (.aload_n 0, 1) := by decide +kernel
theorem dX4_changed_9 : decode cX4_changed 9 = .ok (.getfield 15, 3) := by decide +kernel
theorem dX4_changed_12 : decode cX4_changed 12 = .ok (.aload_n 0, 1) := by decide +kernel
theorem dX4_changed_13 : decode cX4_changed 13 = .ok (.getfield 18, 3) := by decide +kernel
theorem dX4_changed_16 : decode cX4_changed 16 = .ok (.iload_n 1, 1) := by decide +kernel
theorem dX4_changed_17 : decode cX4_changed 17 = .ok (.lload_n 2, 1) := by decide +kernel
theorem dX4_changed_18 : decode cX4_changed 18 = .ok (.invokespecial 21, 3) := by decide +kernel
theorem dX4_changed_21 : decode cX4_changed 21 = .ok (.areturn, 1) := by decide +kernel
theorem dX4_unitAt_0 : decode cX4_unitAt 0 = .ok (.iload_n 1, 1) := by decide +kernel
theorem dX4_unitAt_1 : decode cX4_unitAt 1 = .ok (.iconst 2, 1) := by decide +kernel
theorem dX4_unitAt_2 : decode cX4_unitAt 2 = .ok (.irem, 1) := by decide +kernel
theorem dX4_unitAt_3 : decode cX4_unitAt 3 = .ok (.ifCond .ne 16, 3) := by decide +kernel
theorem dX4_unitAt_6 : decode cX4_unitAt 6 = .ok (.aload_n 0, 1) := by decide +kernel
theorem dX4_unitAt_7 : decode cX4_unitAt 7 = .ok (.getfield 22, 3) := by decide +kernel
theorem dX4_unitAt_10 : decode cX4_unitAt 10 = .ok (.ldc2_w 26, 3) := by decide +kernel
theorem dX4_unitAt_13 : decode cX4_unitAt 13 = .ok (.iload_n 1, 1) := by decide +kernel
theorem dX4_unitAt_14 : decode cX4_unitAt 14 = .ok (.lshl, 1) := by decide +kernel
theorem dX4_unitAt_15 : decode cX4_unitAt 15 = .ok (.land, 1) := by decide +kernel
theorem dX4_unitAt_16 : decode cX4_unitAt 16 = .ok (.goto 4, 3) := by decide +kernel
theorem dX4_unitAt_19 : decode cX4_unitAt 19 = .ok (.lconst 0, 1) := by decide +kernel
theorem dX4_unitAt_20 : decode cX4_unitAt 20 = .ok (.lreturn, 1) := by decide +kernel
theorem dX4_pairAt_0 : decode cX4_pairAt 0 = .ok (.aload_n 0, 1) := by decide +kernel
theorem dX4_pairAt_1 : decode cX4_pairAt 1 = .ok (.iload_n 1, 1) := by decide +kernel
theorem dX4_pairAt_2 : decode cX4_pairAt 2 = .ok (.invokevirtual 28, 3) := by decide +kernel
theorem dX4_pairAt_5 : decode cX4_pairAt 5 = .ok (.istore_n 3, 1) := by decide +kernel
theorem dX4_pairAt_6 : decode cX4_pairAt 6 = .ok (.iload_n 3, 1) := by decide +kernel
theorem dX4_pairAt_7 : decode cX4_pairAt 7 = .ok (.ifCond .ge 5, 3) := by decide +kernel
theorem dX4_pairAt_10 : decode cX4_pairAt 10 = .ok (.iload_n 3, 1) := by decide +kernel
theorem dX4_pairAt_11 : decode cX4_pairAt 11 = .ok (.ireturn, 1) := by decide +kernel
theorem dX4_pairAt_12 : decode cX4_pairAt 12 = .ok (.iload_n 2, 1) := by decide +kernel
theorem dX4_pairAt_13 : decode cX4_pairAt 13 = .ok (.iconst 0, 1) := by decide +kernel
theorem dX4_pairAt_14 : decode cX4_pairAt 14 = .ok (.aload_n 0, 1) := by decide +kernel
theorem dX4_pairAt_15 : decode cX4_pairAt 15 = .ok (.getfield 18, 3) := by decide +kernel
theorem dX4_pairAt_18 : decode cX4_pairAt 18 = .ok (.iconst 2, 1) := by decide +kernel
theorem dX4_pairAt_19 : decode cX4_pairAt 19 = .ok (.idiv, 1) := by decide +kernel
theorem dX4_pairAt_20 : decode cX4_pairAt 20 = .ok (.iconst 1, 1) := by decide +kernel
theorem dX4_pairAt_21 : decode cX4_pairAt 21 = .ok (.isub, 1) := by decide +kernel
theorem dX4_pairAt_22 : decode cX4_pairAt 22 = .ok (.invokestatic 32, 3) := by decide +kernel
theorem dX4_pairAt_25 : decode cX4_pairAt 25 = .ok (.ifCond .ne 6, 3) := by decide +kernel
theorem dX4_pairAt_28 : decode cX4_pairAt 28 = .ok (.bipush (-13), 2) := by decide +kernel
theorem dX4_pairAt_30 : decode cX4_pairAt 30 = .ok (.ireturn, 1) := by decide +kernel
theorem dX4_pairAt_31 : decode cX4_pairAt 31 = .ok (.aload_n 0, 1) := by decide +kernel
theorem dX4_pairAt_32 : decode cX4_pairAt 32 = .ok (.iload_n 1, 1) := by decide +kernel
theorem dX4_pairAt_33 : decode cX4_pairAt 33 = .ok (.iconst 2, 1) := by decide +kernel
theorem dX4_pairAt_34 : decode cX4_pairAt 34 = .ok (.iload_n 2, 1) := by decide +kernel
theorem dX4_pairAt_35 : decode cX4_pairAt 35 = .ok (.imul, 1) := by decide +kernel
theorem dX4_pairAt_36 : decode cX4_pairAt 36 = .ok (.invokevirtual 36, 3) := by decide +kernel
theorem dX4_pairAt_39 : decode cX4_pairAt 39 = .ok (.aload_n 0, 1) := by decide +kernel
theorem dX4_pairAt_40 : decode cX4_pairAt 40 = .ok (.iload_n 1, 1) := by decide +kernel
theorem dX4_pairAt_41 : decode cX4_pairAt 41 = .ok (.iconst 2, 1) := by decide +kernel
theorem dX4_pairAt_42 : decode cX4_pairAt 42 = .ok (.iload_n 2, 1) := by decide +kernel
theorem dX4_pairAt_43 : decode cX4_pairAt 43 = .ok (.imul, 1) := by decide +kernel
theorem dX4_pairAt_44 : decode cX4_pairAt 44 = .ok (.iconst 1, 1) := by decide +kernel
theorem dX4_pairAt_45 : decode cX4_pairAt 45 = .ok (.iadd, 1) := by decide +kernel
theorem dX4_pairAt_46 : decode cX4_pairAt 46 = .ok (.invokevirtual 36, 3) := by decide +kernel
theorem dX4_pairAt_49 : decode cX4_pairAt 49 = .ok (.iadd, 1) := by decide +kernel
theorem dX4_pairAt_50 : decode cX4_pairAt 50 = .ok (.ireturn, 1) := by decide +kernel
theorem dX5_init_0 : decode cX5_init 0 = .ok (.aload_n 0, 1) := by decide +kernel
theorem dX5_init_1 : decode cX5_init 1 = .ok (.invokespecial 3, 3) := by decide +kernel
theorem dX5_init_4 : decode cX5_init 4 = .ok (.aload_n 0, 1) := by decide +kernel
theorem dX5_init_5 : decode cX5_init 5 = .ok (.iload_n 1, 1) := by decide +kernel
theorem dX5_init_6 : decode cX5_init 6 = .ok (.putfield 9, 3) := by decide +kernel
theorem dX5_init_9 : decode cX5_init 9 = .ok (.aload_n 0, 1) := by decide +kernel
theorem dX5_init_10 : decode cX5_init 10 = .ok (.aload_n 2, 1) := by decide +kernel
theorem dX5_init_11 : decode cX5_init 11 = .ok (.putfield 15, 3) := by decide +kernel
theorem dX5_init_14 : decode cX5_init 14 = .ok (.aload_n 0, 1) := by decide +kernel
theorem dX5_init_15 : decode cX5_init 15 = .ok (.aload_n 3, 1) := by decide +kernel
theorem dX5_init_16 : decode cX5_init 16 = .ok (.putfield 19, 3) := by decide +kernel
theorem dX5_init_19 : decode cX5_init 19 = .ok (.aload_n 0, 1) := by decide +kernel
theorem dX5_init_20 : decode cX5_init 20 = .ok (.aload 4, 2) := by decide +kernel
theorem dX5_init_22 : decode cX5_init 22 = .ok (.putfield 23, 3) := by decide +kernel
theorem dX5_init_25 : decode cX5_init 25 = .ok (.return_, 1) := by decide +kernel
theorem dX5_tearings_0 : decode cX5_tearings 0 = .ok (.bipush 10, 2) := by decide +kernel
theorem dX5_tearings_2 : decode cX5_tearings 2 = .ok (.newarray .long, 2) := by decide +kernel
theorem dX5_tearings_4 : decode cX5_tearings 4 = .ok (.astore_n 2, 1) := by decide +kernel
theorem dX5_tearings_5 : decode cX5_tearings 5 = .ok (.iconst 0, 1) := by decide +kernel
theorem dX5_tearings_6 : decode cX5_tearings 6 = .ok (.istore_n 3, 1) := by decide +kernel
theorem dX5_tearings_7 : decode cX5_tearings 7 = .ok (.iload_n 3, 1) := by decide +kernel
theorem dX5_tearings_8 : decode cX5_tearings 8 = .ok (.bipush 10, 2) := by decide +kernel
theorem dX5_tearings_10 : decode cX5_tearings 10 = .ok (.if_icmp .ge 27, 3) := by decide +kernel
theorem dX5_tearings_13 : decode cX5_tearings 13 = .ok (.aload_n 0, 1) := by decide +kernel
theorem dX5_tearings_14 : decode cX5_tearings 14 = .ok (.iload_n 3, 1) := by decide +kernel
theorem dX5_tearings_15 : decode cX5_tearings 15 = .ok (.aaload, 1) := by decide +kernel
theorem dX5_tearings_16 : decode cX5_tearings 16 = .ok (.ifnull 15, 3) := by decide +kernel
theorem dX5_tearings_19 : decode cX5_tearings 19 = .ok (.aload_n 2, 1) := by decide +kernel
theorem dX5_tearings_20 : decode cX5_tearings 20 = .ok (.iload_n 3, 1) := by decide +kernel
theorem dX5_tearings_21 : decode cX5_tearings 21 = .ok (.aload_n 0, 1) := by decide +kernel
theorem dX5_tearings_22 : decode cX5_tearings 22 = .ok (.iload_n 3, 1) := by decide +kernel
theorem dX5_tearings_23 : decode cX5_tearings 23 = .ok (.aaload, 1) := by decide +kernel
theorem dX5_tearings_24 : decode cX5_tearings 24 = .ok (.aload_n 1, 1) := by decide +kernel
theorem dX5_tearings_25 : decode cX5_tearings 25 = .ok (.iload_n 3, 1) := by decide +kernel
theorem dX5_tearings_26 : decode cX5_tearings 26 = .ok (.iaload, 1) := by decide +kernel
theorem dX5_tearings_27 : decode cX5_tearings 27 = .ok (.invokevirtual 27, 3) := by decide +kernel
theorem dX5_tearings_30 : decode cX5_tearings 30 = .ok (.lastore, 1) := by decide +kernel
theorem dX5_tearings_31 : decode cX5_tearings 31 = .ok (.iinc 3 1, 3) := by decide +kernel
theorem dX5_tearings_34 : decode cX5_tearings 34 = .ok (.goto (-27), 3) := by decide +kernel
theorem dX5_tearings_37 : decode cX5_tearings 37 = .ok (.aload_n 2, 1) := by decide +kernel
theorem dX5_tearings_38 : decode cX5_tearings 38 = .ok (.areturn, 1) := by decide +kernel
theorem dX5_rest_0 : decode cX5_rest 0 = .ok (.bipush 10, 2) := by decide +kernel
theorem dX5_rest_2 : decode cX5_rest 2 = .ok (.anewarray 28, 3) := by decide +kernel
theorem dX5_rest_5 : decode cX5_rest 5 = .ok (.astore_n 1, 1) := by decide +kernel
theorem dX5_rest_6 : decode cX5_rest 6 = .ok (.iconst 0, 1) := by decide +kernel
theorem dX5_rest_7 : decode cX5_rest 7 = .ok (.istore_n 2, 1) := by decide +kernel
theorem dX5_rest_8 : decode cX5_rest 8 = .ok (.iload_n 2, 1) := by decide +kernel
theorem dX5_rest_9 : decode cX5_rest 9 = .ok (.bipush 10, 2) := by decide +kernel
theorem dX5_rest_11 : decode cX5_rest 11 = .ok (.if_icmp .ge 52, 3) := by decide +kernel
theorem dX5_rest_14 : decode cX5_rest 14 = .ok (.aload_n 0, 1) := by decide +kernel
theorem dX5_rest_15 : decode cX5_rest 15 = .ok (.getfield 15, 3) := by decide +kernel
theorem dX5_rest_18 : decode cX5_rest 18 = .ok (.iload_n 2, 1) := by decide +kernel
theorem dX5_rest_19 : decode cX5_rest 19 = .ok (.aaload, 1) := by decide +kernel
theorem dX5_rest_20 : decode cX5_rest 20 = .ok (.astore_n 3, 1) := by decide +kernel
theorem dX5_rest_21 : decode cX5_rest 21 = .ok (.aload_n 1, 1) := by decide +kernel
theorem dX5_rest_22 : decode cX5_rest 22 = .ok (.iload_n 2, 1) := by decide +kernel
theorem dX5_rest_23 : decode cX5_rest 23 = .ok (.aload_n 3, 1) := by decide +kernel
theorem dX5_rest_24 : decode cX5_rest 24 = .ok (.ifnull 12, 3) := by decide +kernel
theorem dX5_rest_27 : decode cX5_rest 27 = .ok (.aload_n 0, 1) := by decide +kernel
theorem dX5_rest_28 : decode cX5_rest 28 = .ok (.getfield 19, 3) := by decide +kernel
theorem dX5_rest_31 : decode cX5_rest 31 = .ok (.iload_n 2, 1) := by decide +kernel
theorem dX5_rest_32 : decode cX5_rest 32 = .ok (.iaload, 1) := by decide +kernel
theorem dX5_rest_33 : decode cX5_rest 33 = .ok (.ifCond .ne 7, 3) := by decide +kernel
theorem dX5_rest_36 : decode cX5_rest 36 = .ok (.aload_n 3, 1) := by decide +kernel
theorem dX5_rest_37 : decode cX5_rest 37 = .ok (.goto 19, 3) := by decide +kernel
theorem dX5_rest_40 : decode cX5_rest 40 = .ok (.aload_n 3, 1) := by decide +kernel
theorem dX5_rest_41 : decode cX5_rest 41 = .ok (.aload_n 0, 1) := by decide +kernel
theorem dX5_rest_42 : decode cX5_rest 42 = .ok (.getfield 19, 3) := by decide +kernel
theorem dX5_rest_45 : decode cX5_rest 45 = .ok (.iload_n 2, 1) := by decide +kernel
theorem dX5_rest_46 : decode cX5_rest 46 = .ok (.iaload, 1) := by decide +kernel
theorem dX5_rest_47 : decode cX5_rest 47 = .ok (.aload_n 0, 1) := by decide +kernel
theorem dX5_rest_48 : decode cX5_rest 48 = .ok (.getfield 23, 3) := by decide +kernel
theorem dX5_rest_51 : decode cX5_rest 51 = .ok (.iload_n 2, 1) := by decide +kernel
theorem dX5_rest_52 : decode cX5_rest 52 = .ok (.laload, 1) := by decide +kernel
theorem dX5_rest_53 : decode cX5_rest 53 = .ok (.invokevirtual 33, 3) := by decide +kernel
theorem dX5_rest_56 : decode cX5_rest 56 = .ok (.aastore, 1) := by decide +kernel
theorem dX5_rest_57 : decode cX5_rest 57 = .ok (.iinc 2 1, 3) := by decide +kernel
theorem dX5_rest_60 : decode cX5_rest 60 = .ok (.goto (-52), 3) := by decide +kernel
theorem dX5_rest_63 : decode cX5_rest 63 = .ok (.aload_n 1, 1) := by decide +kernel
theorem dX5_rest_64 : decode cX5_rest 64 = .ok (.areturn, 1) := by decide +kernel
theorem dX5_stamps_0 : decode cX5_stamps 0 = .ok (.iconst 0, 1) := by decide +kernel
theorem dX5_stamps_1 : decode cX5_stamps 1 = .ok (.istore_n 1, 1) := by decide +kernel
theorem dX5_stamps_2 : decode cX5_stamps 2 = .ok (.aload_n 0, 1) := by decide +kernel
theorem dX5_stamps_3 : decode cX5_stamps 3 = .ok (.getfield 19, 3) := by decide +kernel
theorem dX5_stamps_6 : decode cX5_stamps 6 = .ok (.astore_n 2, 1) := by decide +kernel
theorem dX5_stamps_7 : decode cX5_stamps 7 = .ok (.aload_n 2, 1) := by decide +kernel
theorem dX5_stamps_8 : decode cX5_stamps 8 = .ok (.arraylength, 1) := by decide +kernel
theorem dX5_stamps_9 : decode cX5_stamps 9 = .ok (.istore_n 3, 1) := by decide +kernel
theorem dX5_stamps_10 : decode cX5_stamps 10 = .ok (.iconst 0, 1) := by decide +kernel
theorem dX5_stamps_11 : decode cX5_stamps 11 = .ok (.istore 4, 2) := by decide +kernel
theorem dX5_stamps_13 : decode cX5_stamps 13 = .ok (.iload 4, 2) := by decide +kernel
theorem dX5_stamps_15 : decode cX5_stamps 15 = .ok (.iload_n 3, 1) := by decide +kernel
theorem dX5_stamps_16 : decode cX5_stamps 16 = .ok (.if_icmp .ge 20, 3) := by decide +kernel
theorem dX5_stamps_19 : decode cX5_stamps 19 = .ok (.aload_n 2, 1) := by decide +kernel
theorem dX5_stamps_20 : decode cX5_stamps 20 = .ok (.iload 4, 2) := by decide +kernel
theorem dX5_stamps_22 : decode cX5_stamps 22 = .ok (.iaload, 1) := by decide +kernel
theorem dX5_stamps_23 : decode cX5_stamps 23 = .ok (.istore 5, 2) := by decide +kernel
theorem dX5_stamps_25 : decode cX5_stamps 25 = .ok (.iload_n 1, 1) := by decide +kernel
theorem dX5_stamps_26 : decode cX5_stamps 26 = .ok (.iload 5, 2) := by decide +kernel
theorem dX5_stamps_28 : decode cX5_stamps 28 = .ok (.iadd, 1) := by decide +kernel
theorem dX5_stamps_29 : decode cX5_stamps 29 = .ok (.istore_n 1, 1) := by decide +kernel
theorem dX5_stamps_30 : decode cX5_stamps 30 = .ok (.iinc 4 1, 3) := by decide +kernel
theorem dX5_stamps_33 : decode cX5_stamps 33 = .ok (.goto (-20), 3) := by decide +kernel
theorem dX5_stamps_36 : decode cX5_stamps 36 = .ok (.iload_n 1, 1) := by decide +kernel
theorem dX5_stamps_37 : decode cX5_stamps 37 = .ok (.ireturn, 1) := by decide +kernel
theorem dX5_stampsOf_0 : decode cX5_stampsOf 0 = .ok (.iconst 0, 1) := by decide +kernel
theorem dX5_stampsOf_1 : decode cX5_stampsOf 1 = .ok (.istore_n 2, 1) := by decide +kernel
theorem dX5_stampsOf_2 : decode cX5_stampsOf 2 = .ok (.iconst 0, 1) := by decide +kernel
theorem dX5_stampsOf_3 : decode cX5_stampsOf 3 = .ok (.istore_n 3, 1) := by decide +kernel
theorem dX5_stampsOf_4 : decode cX5_stampsOf 4 = .ok (.iload_n 3, 1) := by decide +kernel
theorem dX5_stampsOf_5 : decode cX5_stampsOf 5 = .ok (.bipush 10, 2) := by decide +kernel
theorem dX5_stampsOf_7 : decode cX5_stampsOf 7 = .ok (.if_icmp .ge 37, 3) := by decide +kernel
theorem dX5_stampsOf_10 : decode cX5_stampsOf 10 = .ok (.aload_n 0, 1) := by decide +kernel
theorem dX5_stampsOf_11 : decode cX5_stampsOf 11 = .ok (.getfield 15, 3) := by decide +kernel
theorem dX5_stampsOf_14 : decode cX5_stampsOf 14 = .ok (.iload_n 3, 1) := by decide +kernel
theorem dX5_stampsOf_15 : decode cX5_stampsOf 15 = .ok (.aaload, 1) := by decide +kernel
theorem dX5_stampsOf_16 : decode cX5_stampsOf 16 = .ok (.ifnull 22, 3) := by decide +kernel
theorem dX5_stampsOf_19 : decode cX5_stampsOf 19 = .ok (.iload_n 2, 1) := by decide +kernel
theorem dX5_stampsOf_20 : decode cX5_stampsOf 20 = .ok (.aload_n 0, 1) := by decide +kernel
theorem dX5_stampsOf_21 : decode cX5_stampsOf 21 = .ok (.getfield 15, 3) := by decide +kernel
theorem dX5_stampsOf_24 : decode cX5_stampsOf 24 = .ok (.iload_n 3, 1) := by decide +kernel
theorem dX5_stampsOf_25 : decode cX5_stampsOf 25 = .ok (.aaload, 1) := by decide +kernel
theorem dX5_stampsOf_26 : decode cX5_stampsOf 26 = .ok (.iload_n 1, 1) := by decide +kernel
theorem dX5_stampsOf_27 : decode cX5_stampsOf 27 = .ok (.aload_n 0, 1) := by decide +kernel
theorem dX5_stampsOf_28 : decode cX5_stampsOf 28 = .ok (.getfield 19, 3) := by decide +kernel
theorem dX5_stampsOf_31 : decode cX5_stampsOf 31 = .ok (.iload_n 3, 1) := by decide +kernel
theorem dX5_stampsOf_32 : decode cX5_stampsOf 32 = .ok (.iaload, 1) := by decide +kernel
theorem dX5_stampsOf_33 : decode cX5_stampsOf 33 = .ok (.invokevirtual 37, 3) := by decide +kernel
theorem dX5_stampsOf_36 : decode cX5_stampsOf 36 = .ok (.iadd, 1) := by decide +kernel
theorem dX5_stampsOf_37 : decode cX5_stampsOf 37 = .ok (.istore_n 2, 1) := by decide +kernel
theorem dX5_stampsOf_38 : decode cX5_stampsOf 38 = .ok (.iinc 3 1, 3) := by decide +kernel
theorem dX5_stampsOf_41 : decode cX5_stampsOf 41 = .ok (.goto (-37), 3) := by decide +kernel
theorem dX5_stampsOf_44 : decode cX5_stampsOf 44 = .ok (.iload_n 2, 1) := by decide +kernel
theorem dX5_stampsOf_45 : decode cX5_stampsOf 45 = .ok (.ireturn, 1) := by decide +kernel
theorem dX5_tornSquare_0 : decode cX5_tornSquare 0 = .ok (.iload_n 1, 1) := by decide +kernel
theorem dX5_tornSquare_1 : decode cX5_tornSquare 1 = .ok (.ifCond .ge 5, 3) := by decide +kernel
theorem dX5_tornSquare_4 : decode cX5_tornSquare 4 = .ok (.iconst (-1), 1) := by decide +kernel
theorem dX5_tornSquare_5 : decode cX5_tornSquare 5 = .ok (.ireturn, 1) := by decide +kernel
theorem dX5_tornSquare_6 : decode cX5_tornSquare 6 = .ok (.iload_n 1, 1) := by decide +kernel
theorem dX5_tornSquare_7 : decode cX5_tornSquare 7 = .ok (.istore_n 2, 1) := by decide +kernel
theorem dX5_tornSquare_8 : decode cX5_tornSquare 8 = .ok (.iconst 0, 1) := by decide +kernel
theorem dX5_tornSquare_9 : decode cX5_tornSquare 9 = .ok (.istore_n 3, 1) := by decide +kernel
theorem dX5_tornSquare_10 : decode cX5_tornSquare 10 = .ok (.iload_n 3, 1) := by decide +kernel
theorem dX5_tornSquare_11 : decode cX5_tornSquare 11 = .ok (.bipush 10, 2) := by decide +kernel
theorem dX5_tornSquare_13 : decode cX5_tornSquare 13 = .ok (.if_icmp .ge 47, 3) := by decide +kernel
theorem dX5_tornSquare_16 : decode cX5_tornSquare 16 = .ok (.aload_n 0, 1) := by decide +kernel
theorem dX5_tornSquare_17 : decode cX5_tornSquare 17 = .ok (.getfield 23, 3) := by decide +kernel
theorem dX5_tornSquare_20 : decode cX5_tornSquare 20 = .ok (.iload_n 3, 1) := by decide +kernel
theorem dX5_tornSquare_21 : decode cX5_tornSquare 21 = .ok (.laload, 1) := by decide +kernel
theorem dX5_tornSquare_22 : decode cX5_tornSquare 22 = .ok (.invokestatic 41, 3) := by decide +kernel
theorem dX5_tornSquare_25 : decode cX5_tornSquare 25 = .ok (.istore 4, 2) := by decide +kernel
theorem dX5_tornSquare_27 : decode cX5_tornSquare 27 = .ok (.iload_n 2, 1) := by decide +kernel
theorem dX5_tornSquare_28 : decode cX5_tornSquare 28 = .ok (.iload 4, 2) := by decide +kernel
theorem dX5_tornSquare_30 : decode cX5_tornSquare 30 = .ok (.if_icmp .ge 19, 3) := by decide +kernel
theorem dX5_tornSquare_33 : decode cX5_tornSquare 33 = .ok (.bipush 100, 2) := by decide +kernel
theorem dX5_tornSquare_35 : decode cX5_tornSquare 35 = .ok (.iload_n 3, 1) := by decide +kernel
theorem dX5_tornSquare_36 : decode cX5_tornSquare 36 = .ok (.imul, 1) := by decide +kernel
theorem dX5_tornSquare_37 : decode cX5_tornSquare 37 = .ok (.aload_n 0, 1) := by decide +kernel
theorem dX5_tornSquare_38 : decode cX5_tornSquare 38 = .ok (.getfield 23, 3) := by decide +kernel
theorem dX5_tornSquare_41 : decode cX5_tornSquare 41 = .ok (.iload_n 3, 1) := by decide +kernel
theorem dX5_tornSquare_42 : decode cX5_tornSquare 42 = .ok (.laload, 1) := by decide +kernel
theorem dX5_tornSquare_43 : decode cX5_tornSquare 43 = .ok (.iload_n 2, 1) := by decide +kernel
theorem dX5_tornSquare_44 : decode cX5_tornSquare 44 = .ok (.invokestatic 47, 3) := by decide +kernel
theorem dX5_tornSquare_47 : decode cX5_tornSquare 47 = .ok (.iadd, 1) := by decide +kernel
theorem dX5_tornSquare_48 : decode cX5_tornSquare 48 = .ok (.ireturn, 1) := by decide +kernel
theorem dX5_tornSquare_49 : decode cX5_tornSquare 49 = .ok (.iload_n 2, 1) := by decide +kernel
theorem dX5_tornSquare_50 : decode cX5_tornSquare 50 = .ok (.iload 4, 2) := by decide +kernel
theorem dX5_tornSquare_52 : decode cX5_tornSquare 52 = .ok (.isub, 1) := by decide +kernel
theorem dX5_tornSquare_53 : decode cX5_tornSquare 53 = .ok (.istore_n 2, 1) := by decide +kernel
theorem dX5_tornSquare_54 : decode cX5_tornSquare 54 = .ok (.iinc 3 1, 3) := by decide +kernel
theorem dX5_tornSquare_57 : decode cX5_tornSquare 57 = .ok (.goto (-47), 3) := by decide +kernel
theorem dX5_tornSquare_60 : decode cX5_tornSquare 60 = .ok (.iconst (-1), 1) := by decide +kernel
theorem dX5_tornSquare_61 : decode cX5_tornSquare 61 = .ok (.ireturn, 1) := by decide +kernel
theorem dX5_squareAfter_0 : decode cX5_squareAfter 0 = .ok (.iload_n 2, 1) := by decide +kernel
theorem dX5_squareAfter_1 : decode cX5_squareAfter 1 = .ok (.istore_n 3, 1) := by decide +kernel
theorem dX5_squareAfter_2 : decode cX5_squareAfter 2 = .ok (.iconst 0, 1) := by decide +kernel
theorem dX5_squareAfter_3 : decode cX5_squareAfter 3 = .ok (.istore 4, 2) := by decide +kernel
theorem dX5_squareAfter_5 : decode cX5_squareAfter 5 = .ok (.iload 4, 2) := by decide +kernel
theorem dX5_squareAfter_7 : decode cX5_squareAfter 7 = .ok (.bipush 64, 2) := by decide +kernel
theorem dX5_squareAfter_9 : decode cX5_squareAfter 9 = .ok (.if_icmp .ge 30, 3) := by decide +kernel
theorem dX5_squareAfter_12 : decode cX5_squareAfter 12 = .ok (.lload_n 0, 1) := by decide +kernel
theorem dX5_squareAfter_13 : decode cX5_squareAfter 13 = .ok (.lconst 1, 1) := by decide +kernel
theorem dX5_squareAfter_14 : decode cX5_squareAfter 14 = .ok (.iload 4, 2) := by decide +kernel
theorem dX5_squareAfter_16 : decode cX5_squareAfter 16 = .ok (.lshl, 1) := by decide +kernel
theorem dX5_squareAfter_17 : decode cX5_squareAfter 17 = .ok (.land, 1) := by decide +kernel
theorem dX5_squareAfter_18 : decode cX5_squareAfter 18 = .ok (.lconst 0, 1) := by decide +kernel
theorem dX5_squareAfter_19 : decode cX5_squareAfter 19 = .ok (.lcmp, 1) := by decide +kernel
theorem dX5_squareAfter_20 : decode cX5_squareAfter 20 = .ok (.ifCond .eq 13, 3) := by decide +kernel
theorem dX5_squareAfter_23 : decode cX5_squareAfter 23 = .ok (.iload_n 3, 1) := by decide +kernel
theorem dX5_squareAfter_24 : decode cX5_squareAfter 24 = .ok (.ifCond .ne 6, 3) := by decide +kernel
theorem dX5_squareAfter_27 : decode cX5_squareAfter 27 = .ok (.iload 4, 2) := by decide +kernel
theorem dX5_squareAfter_29 : decode cX5_squareAfter 29 = .ok (.ireturn, 1) := by decide +kernel
theorem dX5_squareAfter_30 : decode cX5_squareAfter 30 = .ok (.iinc 3 (-1), 3) := by decide +kernel
theorem dX5_squareAfter_33 : decode cX5_squareAfter 33 = .ok (.iinc 4 1, 3) := by decide +kernel
theorem dX5_squareAfter_36 : decode cX5_squareAfter 36 = .ok (.goto (-31), 3) := by decide +kernel
theorem dX5_squareAfter_39 : decode cX5_squareAfter 39 = .ok (.iconst (-1), 1) := by decide +kernel
theorem dX5_squareAfter_40 : decode cX5_squareAfter 40 = .ok (.ireturn, 1) := by decide +kernel
theorem dX6_init_0 : decode cX6_init 0 = .ok (.aload_n 0, 1) := by decide +kernel
theorem dX6_init_1 : decode cX6_init 1 = .ok (.invokespecial 3, 3) := by decide +kernel
theorem dX6_init_4 : decode cX6_init 4 = .ok (.aload_n 0, 1) := by decide +kernel
theorem dX6_init_5 : decode cX6_init 5 = .ok (.iload_n 1, 1) := by decide +kernel
theorem dX6_init_6 : decode cX6_init 6 = .ok (.putfield 9, 3) := by decide +kernel
theorem dX6_init_9 : decode cX6_init 9 = .ok (.aload_n 0, 1) := by decide +kernel
theorem dX6_init_10 : decode cX6_init 10 = .ok (.iload_n 2, 1) := by decide +kernel
theorem dX6_init_11 : decode cX6_init 11 = .ok (.putfield 15, 3) := by decide +kernel
theorem dX6_init_14 : decode cX6_init 14 = .ok (.return_, 1) := by decide +kernel
theorem dX6_kind_0 : decode cX6_kind 0 = .ok (.iconst 0, 1) := by decide +kernel
theorem dX6_kind_1 : decode cX6_kind 1 = .ok (.ireturn, 1) := by decide +kernel
theorem dX6_together_0 : decode cX6_together 0 = .ok (.iconst 1, 1) := by decide +kernel
theorem dX6_together_1 : decode cX6_together 1 = .ok (.ireturn, 1) := by decide +kernel
theorem dX6_worth_0 : decode cX6_worth 0 = .ok (.iload_n 1, 1) := by decide +kernel
theorem dX6_worth_1 : decode cX6_worth 1 = .ok (.aload_n 0, 1) := by decide +kernel
theorem dX6_worth_2 : decode cX6_worth 2 = .ok (.getfield 9, 3) := by decide +kernel
theorem dX6_worth_5 : decode cX6_worth 5 = .ok (.imul, 1) := by decide +kernel
theorem dX6_worth_6 : decode cX6_worth 6 = .ok (.ireturn, 1) := by decide +kernel
theorem dX6_ofFace_0 : decode cX6_ofFace 0 = .ok (.iload_n 1, 1) := by decide +kernel
theorem dX6_ofFace_1 : decode cX6_ofFace 1 = .ok (.aload_n 0, 1) := by decide +kernel
theorem dX6_ofFace_2 : decode cX6_ofFace 2 = .ok (.getfield 9, 3) := by decide +kernel
theorem dX6_ofFace_5 : decode cX6_ofFace 5 = .ok (.if_icmp .ne 7, 3) := by decide +kernel
theorem dX6_ofFace_8 : decode cX6_ofFace 8 = .ok (.iload_n 2, 1) := by decide +kernel
theorem dX6_ofFace_9 : decode cX6_ofFace 9 = .ok (.goto 4, 3) := by decide +kernel
theorem dX6_ofFace_12 : decode cX6_ofFace 12 = .ok (.iconst 0, 1) := by decide +kernel
theorem dX6_ofFace_13 : decode cX6_ofFace 13 = .ok (.ireturn, 1) := by decide +kernel
theorem dX6_pieces_0 : decode cX6_pieces 0 = .ok (.aload_n 0, 1) := by decide +kernel
theorem dX6_pieces_1 : decode cX6_pieces 1 = .ok (.getfield 15, 3) := by decide +kernel
theorem dX6_pieces_4 : decode cX6_pieces 4 = .ok (.ifCond .ne 7, 3) := by decide +kernel
theorem dX6_pieces_7 : decode cX6_pieces 7 = .ok (.iconst 0, 1) := by decide +kernel
theorem dX6_pieces_8 : decode cX6_pieces 8 = .ok (.goto 4, 3) := by decide +kernel
theorem dX6_pieces_11 : decode cX6_pieces 11 = .ok (.iconst 1, 1) := by decide +kernel
theorem dX6_pieces_12 : decode cX6_pieces 12 = .ok (.ireturn, 1) := by decide +kernel
theorem dX6_tearing_0 : decode cX6_tearing 0 = .ok (.lconst 0, 1) := by decide +kernel
theorem dX6_tearing_1 : decode cX6_tearing 1 = .ok (.lreturn, 1) := by decide +kernel
theorem dX6_without_0 : decode cX6_without 0 = .ok (.new 10, 3) := by decide +kernel
theorem dX6_without_3 : decode cX6_without 3 = .ok (.dup, 1) := by decide +kernel
theorem dX6_without_4 : decode cX6_without 4 = .ok (.aload_n 0, 1) := by decide +kernel
theorem dX6_without_5 : decode cX6_without 5 = .ok (.getfield 9, 3) := by decide +kernel
theorem dX6_without_8 : decode cX6_without 8 = .ok (.aload_n 0, 1) := by decide +kernel
theorem dX6_without_9 : decode cX6_without 9 = .ok (.getfield 15, 3) := by decide +kernel
theorem dX6_without_12 : decode cX6_without 12 = .ok (.iload_n 1, 1) := by decide +kernel
theorem dX6_without_13 : decode cX6_without 13 = .ok (.isub, 1) := by decide +kernel
theorem dX6_without_14 : decode cX6_without 14 = .ok (.invokespecial 18, 3) := by decide +kernel
theorem dX6_without_17 : decode cX6_without 17 = .ok (.areturn, 1) := by decide +kernel
theorem dX7_init_0 : decode cX7_init 0 = .ok (.aload_n 0, 1) := by decide +kernel
theorem dX7_init_1 : decode cX7_init 1 = .ok (.invokespecial 3, 3) := by decide +kernel
theorem dX7_init_4 : decode cX7_init 4 = .ok (.aload_n 0, 1) := by decide +kernel
theorem dX7_init_5 : decode cX7_init 5 = .ok (.aload_n 1, 1) := by decide +kernel
theorem dX7_init_6 : decode cX7_init 6 = .ok (.putfield 9, 3) := by decide +kernel
theorem dX7_init_9 : decode cX7_init 9 = .ok (.aload_n 0, 1) := by decide +kernel
theorem dX7_init_10 : decode cX7_init 10 = .ok (.aload_n 2, 1) := by decide +kernel
theorem dX7_init_11 : decode cX7_init 11 = .ok (.putfield 15, 3) := by decide +kernel
theorem dX7_init_14 : decode cX7_init 14 = .ok (.aload_n 0, 1) := by decide +kernel
theorem dX7_init_15 : decode cX7_init 15 = .ok (.aload_n 3, 1) := by decide +kernel
theorem dX7_init_16 : decode cX7_init 16 = .ok (.putfield 19, 3) := by decide +kernel
theorem dX7_init_19 : decode cX7_init 19 = .ok (.aload_n 0, 1) := by decide +kernel
theorem dX7_init_20 : decode cX7_init 20 = .ok (.aload 4, 2) := by decide +kernel
theorem dX7_init_22 : decode cX7_init 22 = .ok (.putfield 23, 3) := by decide +kernel
theorem dX7_init_25 : decode cX7_init 25 = .ok (.return_, 1) := by decide +kernel
theorem dX7_withPlace_0 : decode cX7_withPlace 0 = .ok (.bipush 10, 2) := by decide +kernel
theorem dX7_withPlace_2 : decode cX7_withPlace 2 = .ok (.anewarray 27, 3) := by decide +kernel
theorem dX7_withPlace_5 : decode cX7_withPlace 5 = .ok (.astore_n 3, 1) := by decide +kernel
theorem dX7_withPlace_6 : decode cX7_withPlace 6 = .ok (.iconst 0, 1) := by decide +kernel
theorem dX7_withPlace_7 : decode cX7_withPlace 7 = .ok (.istore 4, 2) := by decide +kernel
theorem dX7_withPlace_9 : decode cX7_withPlace 9 = .ok (.iload 4, 2) := by decide +kernel
theorem dX7_withPlace_11 : decode cX7_withPlace 11 = .ok (.bipush 10, 2) := by decide +kernel
theorem dX7_withPlace_13 : decode cX7_withPlace 13 = .ok (.if_icmp .ge 30, 3) := by decide +kernel
theorem dX7_withPlace_16 : decode cX7_withPlace 16 = .ok (.aload_n 3, 1) := by decide +kernel
theorem dX7_withPlace_17 : decode cX7_withPlace 17 = .ok (.iload 4, 2) := by decide +kernel
theorem dX7_withPlace_19 : decode cX7_withPlace 19 = .ok (.iload 4, 2) := by decide +kernel
theorem dX7_withPlace_21 : decode cX7_withPlace 21 = .ok (.iload_n 1, 1) := by decide +kernel
theorem dX7_withPlace_22 : decode cX7_withPlace 22 = .ok (.if_icmp .ne 7, 3) := by decide +kernel
theorem dX7_withPlace_25 : decode cX7_withPlace 25 = .ok (.aload_n 2, 1) := by decide +kernel
theorem dX7_withPlace_26 : decode cX7_withPlace 26 = .ok (.goto 10, 3) := by decide +kernel
theorem dX7_withPlace_29 : decode cX7_withPlace 29 = .ok (.aload_n 0, 1) := by decide +kernel
theorem dX7_withPlace_30 : decode cX7_withPlace 30 = .ok (.getfield 9, 3) := by decide +kernel
theorem dX7_withPlace_33 : decode cX7_withPlace 33 = .ok (.iload 4, 2) := by decide +kernel
theorem dX7_withPlace_35 : decode cX7_withPlace 35 = .ok (.aaload, 1) := by decide +kernel
theorem dX7_withPlace_36 : decode cX7_withPlace 36 = .ok (.aastore, 1) := by decide +kernel
theorem dX7_withPlace_37 : decode cX7_withPlace 37 = .ok (.iinc 4 1, 3) := by decide +kernel
theorem dX7_withPlace_40 : decode cX7_withPlace 40 = .ok (.goto (-31), 3) := by decide +kernel
theorem dX7_withPlace_43 : decode cX7_withPlace 43 = .ok (.new 10, 3) := by decide +kernel
theorem dX7_withPlace_46 : decode cX7_withPlace 46 = .ok (.dup, 1) := by decide +kernel
theorem dX7_withPlace_47 : decode cX7_withPlace 47 = .ok (.aload_n 3, 1) := by decide +kernel
theorem dX7_withPlace_48 : decode cX7_withPlace 48 = .ok (.aload_n 0, 1) := by decide +kernel
theorem dX7_withPlace_49 : decode cX7_withPlace 49 = .ok (.getfield 15, 3) := by decide +kernel
theorem dX7_withPlace_52 : decode cX7_withPlace 52 = .ok (.aload_n 0, 1) := by decide +kernel
theorem dX7_withPlace_53 : decode cX7_withPlace 53 = .ok (.getfield 19, 3) := by decide +kernel
theorem dX7_withPlace_56 : decode cX7_withPlace 56 = .ok (.aload_n 0, 1) := by decide +kernel
theorem dX7_withPlace_57 : decode cX7_withPlace 57 = .ok (.getfield 23, 3) := by decide +kernel
theorem dX7_withPlace_60 : decode cX7_withPlace 60 = .ok (.invokespecial 29, 3) := by decide +kernel
theorem dX7_withPlace_63 : decode cX7_withPlace 63 = .ok (.areturn, 1) := by decide +kernel
theorem dX7_withWay_0 : decode cX7_withWay 0 = .ok (.bipush 6, 2) := by decide +kernel
theorem dX7_withWay_2 : decode cX7_withWay 2 = .ok (.anewarray 32, 3) := by decide +kernel
theorem dX7_withWay_5 : decode cX7_withWay 5 = .ok (.astore_n 3, 1) := by decide +kernel
theorem dX7_withWay_6 : decode cX7_withWay 6 = .ok (.iconst 0, 1) := by decide +kernel
theorem dX7_withWay_7 : decode cX7_withWay 7 = .ok (.istore 4, 2) := by decide +kernel
theorem dX7_withWay_9 : decode cX7_withWay 9 = .ok (.iload 4, 2) := by decide +kernel
theorem dX7_withWay_11 : decode cX7_withWay 11 = .ok (.bipush 6, 2) := by decide +kernel
theorem dX7_withWay_13 : decode cX7_withWay 13 = .ok (.if_icmp .ge 30, 3) := by decide +kernel
theorem dX7_withWay_16 : decode cX7_withWay 16 = .ok (.aload_n 3, 1) := by decide +kernel
theorem dX7_withWay_17 : decode cX7_withWay 17 = .ok (.iload 4, 2) := by decide +kernel
theorem dX7_withWay_19 : decode cX7_withWay 19 = .ok (.iload 4, 2) := by decide +kernel
theorem dX7_withWay_21 : decode cX7_withWay 21 = .ok (.iload_n 1, 1) := by decide +kernel
theorem dX7_withWay_22 : decode cX7_withWay 22 = .ok (.if_icmp .ne 7, 3) := by decide +kernel
theorem dX7_withWay_25 : decode cX7_withWay 25 = .ok (.aload_n 2, 1) := by decide +kernel
theorem dX7_withWay_26 : decode cX7_withWay 26 = .ok (.goto 10, 3) := by decide +kernel
theorem dX7_withWay_29 : decode cX7_withWay 29 = .ok (.aload_n 0, 1) := by decide +kernel
theorem dX7_withWay_30 : decode cX7_withWay 30 = .ok (.getfield 19, 3) := by decide +kernel
theorem dX7_withWay_33 : decode cX7_withWay 33 = .ok (.iload 4, 2) := by decide +kernel
theorem dX7_withWay_35 : decode cX7_withWay 35 = .ok (.aaload, 1) := by decide +kernel
theorem dX7_withWay_36 : decode cX7_withWay 36 = .ok (.aastore, 1) := by decide +kernel
theorem dX7_withWay_37 : decode cX7_withWay 37 = .ok (.iinc 4 1, 3) := by decide +kernel
theorem dX7_withWay_40 : decode cX7_withWay 40 = .ok (.goto (-31), 3) := by decide +kernel
theorem dX7_withWay_43 : decode cX7_withWay 43 = .ok (.new 10, 3) := by decide +kernel
theorem dX7_withWay_46 : decode cX7_withWay 46 = .ok (.dup, 1) := by decide +kernel
theorem dX7_withWay_47 : decode cX7_withWay 47 = .ok (.aload_n 0, 1) := by decide +kernel
theorem dX7_withWay_48 : decode cX7_withWay 48 = .ok (.getfield 9, 3) := by decide +kernel
theorem dX7_withWay_51 : decode cX7_withWay 51 = .ok (.aload_n 0, 1) := by decide +kernel
theorem dX7_withWay_52 : decode cX7_withWay 52 = .ok (.getfield 15, 3) := by decide +kernel
theorem dX7_withWay_55 : decode cX7_withWay 55 = .ok (.aload_n 3, 1) := by decide +kernel
theorem dX7_withWay_56 : decode cX7_withWay 56 = .ok (.aload_n 0, 1) := by decide +kernel
theorem dX7_withWay_57 : decode cX7_withWay 57 = .ok (.getfield 23, 3) := by decide +kernel
theorem dX7_withWay_60 : decode cX7_withWay 60 = .ok (.invokespecial 29, 3) := by decide +kernel
theorem dX7_withWay_63 : decode cX7_withWay 63 = .ok (.areturn, 1) := by decide +kernel
theorem dX7_withExtra_0 : decode cX7_withExtra 0 = .ok (.iconst 4, 1) := by decide +kernel
theorem dX7_withExtra_1 : decode cX7_withExtra 1 = .ok (.newarray .int, 2) := by decide +kernel
theorem dX7_withExtra_3 : decode cX7_withExtra 3 = .ok (.astore_n 3, 1) := by decide +kernel
theorem dX7_withExtra_4 : decode cX7_withExtra 4 = .ok (.iconst 0, 1) := by decide +kernel
theorem dX7_withExtra_5 : decode cX7_withExtra 5 = .ok (.istore 4, 2) := by decide +kernel
theorem dX7_withExtra_7 : decode cX7_withExtra 7 = .ok (.iload 4, 2) := by decide +kernel
theorem dX7_withExtra_9 : decode cX7_withExtra 9 = .ok (.iconst 4, 1) := by decide +kernel
theorem dX7_withExtra_10 : decode cX7_withExtra 10 = .ok (.if_icmp .ge 30, 3) := by decide +kernel
theorem dX7_withExtra_13 : decode cX7_withExtra 13 = .ok (.aload_n 3, 1) := by decide +kernel
theorem dX7_withExtra_14 : decode cX7_withExtra 14 = .ok (.iload 4, 2) := by decide +kernel
theorem dX7_withExtra_16 : decode cX7_withExtra 16 = .ok (.iload 4, 2) := by decide +kernel
theorem dX7_withExtra_18 : decode cX7_withExtra 18 = .ok (.iload_n 1, 1) := by decide +kernel
theorem dX7_withExtra_19 : decode cX7_withExtra 19 = .ok (.if_icmp .ne 7, 3) := by decide +kernel
theorem dX7_withExtra_22 : decode cX7_withExtra 22 = .ok (.iload_n 2, 1) := by decide +kernel
theorem dX7_withExtra_23 : decode cX7_withExtra 23 = .ok (.goto 10, 3) := by decide +kernel
theorem dX7_withExtra_26 : decode cX7_withExtra 26 = .ok (.aload_n 0, 1) := by decide +kernel
theorem dX7_withExtra_27 : decode cX7_withExtra 27 = .ok (.getfield 23, 3) := by decide +kernel
theorem dX7_withExtra_30 : decode cX7_withExtra 30 = .ok (.iload 4, 2) := by decide +kernel
theorem dX7_withExtra_32 : decode cX7_withExtra 32 = .ok (.iaload, 1) := by decide +kernel
theorem dX7_withExtra_33 : decode cX7_withExtra 33 = .ok (.iastore, 1) := by decide +kernel
theorem dX7_withExtra_34 : decode cX7_withExtra 34 = .ok (.iinc 4 1, 3) := by decide +kernel
theorem dX7_withExtra_37 : decode cX7_withExtra 37 = .ok (.goto (-30), 3) := by decide +kernel
theorem dX7_withExtra_40 : decode cX7_withExtra 40 = .ok (.new 10, 3) := by decide +kernel
theorem dX7_withExtra_43 : decode cX7_withExtra 43 = .ok (.dup, 1) := by decide +kernel
theorem dX7_withExtra_44 : decode cX7_withExtra 44 = .ok (.aload_n 0, 1) := by decide +kernel
theorem dX7_withExtra_45 : decode cX7_withExtra 45 = .ok (.getfield 9, 3) := by decide +kernel
theorem dX7_withExtra_48 : decode cX7_withExtra 48 = .ok (.aload_n 0, 1) := by decide +kernel
theorem dX7_withExtra_49 : decode cX7_withExtra 49 = .ok (.getfield 15, 3) := by decide +kernel
theorem dX7_withExtra_52 : decode cX7_withExtra 52 = .ok (.aload_n 0, 1) := by decide +kernel
theorem dX7_withExtra_53 : decode cX7_withExtra 53 = .ok (.getfield 19, 3) := by decide +kernel
theorem dX7_withExtra_56 : decode cX7_withExtra 56 = .ok (.aload_n 3, 1) := by decide +kernel
theorem dX7_withExtra_57 : decode cX7_withExtra 57 = .ok (.invokespecial 29, 3) := by decide +kernel
theorem dX7_withExtra_60 : decode cX7_withExtra 60 = .ok (.areturn, 1) := by decide +kernel
theorem dX7_withLetter_0 : decode cX7_withLetter 0 = .ok (.aload_n 0, 1) := by decide +kernel
theorem dX7_withLetter_1 : decode cX7_withLetter 1 = .ok (.getfield 15, 3) := by decide +kernel
theorem dX7_withLetter_4 : decode cX7_withLetter 4 = .ok (.arraylength, 1) := by decide +kernel
theorem dX7_withLetter_5 : decode cX7_withLetter 5 = .ok (.iconst 1, 1) := by decide +kernel
theorem dX7_withLetter_6 : decode cX7_withLetter 6 = .ok (.iadd, 1) := by decide +kernel
theorem dX7_withLetter_7 : decode cX7_withLetter 7 = .ok (.anewarray 34, 3) := by decide +kernel
theorem dX7_withLetter_10 : decode cX7_withLetter 10 = .ok (.astore_n 2, 1) := by decide +kernel
theorem dX7_withLetter_11 : decode cX7_withLetter 11 = .ok (.iconst 0, 1) := by decide +kernel
theorem dX7_withLetter_12 : decode cX7_withLetter 12 = .ok (.istore_n 3, 1) := by decide +kernel
theorem dX7_withLetter_13 : decode cX7_withLetter 13 = .ok (.iload_n 3, 1) := by decide +kernel
theorem dX7_withLetter_14 : decode cX7_withLetter 14 = .ok (.aload_n 0, 1) := by decide +kernel
theorem dX7_withLetter_15 : decode cX7_withLetter 15 = .ok (.getfield 15, 3) := by decide +kernel
theorem dX7_withLetter_18 : decode cX7_withLetter 18 = .ok (.arraylength, 1) := by decide +kernel
theorem dX7_withLetter_19 : decode cX7_withLetter 19 = .ok (.if_icmp .ge 18, 3) := by decide +kernel
theorem dX7_withLetter_22 : decode cX7_withLetter 22 = .ok (.aload_n 2, 1) := by decide +kernel
theorem dX7_withLetter_23 : decode cX7_withLetter 23 = .ok (.iload_n 3, 1) := by decide +kernel
theorem dX7_withLetter_24 : decode cX7_withLetter 24 = .ok (.aload_n 0, 1) := by decide +kernel
theorem dX7_withLetter_25 : decode cX7_withLetter 25 = .ok (.getfield 15, 3) := by decide +kernel
theorem dX7_withLetter_28 : decode cX7_withLetter 28 = .ok (.iload_n 3, 1) := by decide +kernel
theorem dX7_withLetter_29 : decode cX7_withLetter 29 = .ok (.aaload, 1) := by decide +kernel
theorem dX7_withLetter_30 : decode cX7_withLetter 30 = .ok (.aastore, 1) := by decide +kernel
theorem dX7_withLetter_31 : decode cX7_withLetter 31 = .ok (.iinc 3 1, 3) := by decide +kernel
theorem dX7_withLetter_34 : decode cX7_withLetter 34 = .ok (.goto (-21), 3) := by decide +kernel
theorem dX7_withLetter_37 : decode cX7_withLetter 37 = .ok (.aload_n 2, 1) := by decide +kernel
theorem dX7_withLetter_38 : decode cX7_withLetter 38 = .ok (.aload_n 0, 1) := by decide +kernel
theorem dX7_withLetter_39 : decode cX7_withLetter 39 = .ok (.getfield 15, 3) := by decide +kernel
theorem dX7_withLetter_42 : decode cX7_withLetter 42 = .ok (.arraylength, 1) := by decide +kernel
theorem dX7_withLetter_43 : decode cX7_withLetter 43 = .ok (.aload_n 1, 1) := by decide +kernel
theorem dX7_withLetter_44 : decode cX7_withLetter 44 = .ok (.aastore, 1) := by decide +kernel
theorem dX7_withLetter_45 : decode cX7_withLetter 45 = .ok (.new 10, 3) := by decide +kernel
theorem dX7_withLetter_48 : decode cX7_withLetter 48 = .ok (.dup, 1) := by decide +kernel
theorem dX7_withLetter_49 : decode cX7_withLetter 49 = .ok (.aload_n 0, 1) := by decide +kernel
theorem dX7_withLetter_50 : decode cX7_withLetter 50 = .ok (.getfield 9, 3) := by decide +kernel
theorem dX7_withLetter_53 : decode cX7_withLetter 53 = .ok (.aload_n 2, 1) := by decide +kernel
theorem dX7_withLetter_54 : decode cX7_withLetter 54 = .ok (.aload_n 0, 1) := by decide +kernel
theorem dX7_withLetter_55 : decode cX7_withLetter 55 = .ok (.getfield 19, 3) := by decide +kernel
theorem dX7_withLetter_58 : decode cX7_withLetter 58 = .ok (.aload_n 0, 1) := by decide +kernel
theorem dX7_withLetter_59 : decode cX7_withLetter 59 = .ok (.getfield 23, 3) := by decide +kernel
theorem dX7_withLetter_62 : decode cX7_withLetter 62 = .ok (.invokespecial 29, 3) := by decide +kernel
theorem dX7_withLetter_65 : decode cX7_withLetter 65 = .ok (.areturn, 1) := by decide +kernel
theorem dX7_withPayment_0 : decode cX7_withPayment 0 = .ok (.aload_n 0, 1) := by decide +kernel
theorem dX7_withPayment_1 : decode cX7_withPayment 1 = .ok (.getfield 15, 3) := by decide +kernel
theorem dX7_withPayment_4 : decode cX7_withPayment 4 = .ok (.arraylength, 1) := by decide +kernel
theorem dX7_withPayment_5 : decode cX7_withPayment 5 = .ok (.anewarray 34, 3) := by decide +kernel
theorem dX7_withPayment_8 : decode cX7_withPayment 8 = .ok (.astore_n 3, 1) := by decide +kernel
theorem dX7_withPayment_9 : decode cX7_withPayment 9 = .ok (.iconst 0, 1) := by decide +kernel
theorem dX7_withPayment_10 : decode cX7_withPayment 10 = .ok (.istore 4, 2) := by decide +kernel
theorem dX7_withPayment_12 : decode cX7_withPayment 12 = .ok (.iload 4, 2) := by decide +kernel
theorem dX7_withPayment_14 : decode cX7_withPayment 14 = .ok (.aload_n 0, 1) := by decide +kernel
theorem dX7_withPayment_15 : decode cX7_withPayment 15 = .ok (.getfield 15, 3) := by decide +kernel
theorem dX7_withPayment_18 : decode cX7_withPayment 18 = .ok (.arraylength, 1) := by decide +kernel
theorem dX7_withPayment_19 : decode cX7_withPayment 19 = .ok (.if_icmp .ge 47, 3) := by decide +kernel
theorem dX7_withPayment_22 : decode cX7_withPayment 22 = .ok (.aload_n 3, 1) := by decide +kernel
theorem dX7_withPayment_23 : decode cX7_withPayment 23 = .ok (.iload 4, 2) := by decide +kernel
theorem dX7_withPayment_25 : decode cX7_withPayment 25 = .ok (.iload 4, 2) := by decide +kernel
theorem dX7_withPayment_27 : decode cX7_withPayment 27 = .ok (.iload_n 1, 1) := by decide +kernel
theorem dX7_withPayment_28 : decode cX7_withPayment 28 = .ok (.if_icmp .ne 24, 3) := by decide +kernel
theorem dX7_withPayment_31 : decode cX7_withPayment 31 = .ok (.new 34, 3) := by decide +kernel
theorem dX7_withPayment_34 : decode cX7_withPayment 34 = .ok (.dup, 1) := by decide +kernel
theorem dX7_withPayment_35 : decode cX7_withPayment 35 = .ok (.aload_n 0, 1) := by decide +kernel
theorem dX7_withPayment_36 : decode cX7_withPayment 36 = .ok (.getfield 15, 3) := by decide +kernel
theorem dX7_withPayment_39 : decode cX7_withPayment 39 = .ok (.iload 4, 2) := by decide +kernel
theorem dX7_withPayment_41 : decode cX7_withPayment 41 = .ok (.aaload, 1) := by decide +kernel
theorem dX7_withPayment_42 : decode cX7_withPayment 42 = .ok (.getfield 36, 3) := by decide +kernel
theorem dX7_withPayment_45 : decode cX7_withPayment 45 = .ok (.aload_n 2, 1) := by decide +kernel
theorem dX7_withPayment_46 : decode cX7_withPayment 46 = .ok (.invokespecial 40, 3) := by decide +kernel
theorem dX7_withPayment_49 : decode cX7_withPayment 49 = .ok (.goto 10, 3) := by decide +kernel
theorem dX7_withPayment_52 : decode cX7_withPayment 52 = .ok (.aload_n 0, 1) := by decide +kernel
theorem dX7_withPayment_53 : decode cX7_withPayment 53 = .ok (.getfield 15, 3) := by decide +kernel
theorem dX7_withPayment_56 : decode cX7_withPayment 56 = .ok (.iload 4, 2) := by decide +kernel
theorem dX7_withPayment_58 : decode cX7_withPayment 58 = .ok (.aaload, 1) := by decide +kernel
theorem dX7_withPayment_59 : decode cX7_withPayment 59 = .ok (.aastore, 1) := by decide +kernel
theorem dX7_withPayment_60 : decode cX7_withPayment 60 = .ok (.iinc 4 1, 3) := by decide +kernel
theorem dX7_withPayment_63 : decode cX7_withPayment 63 = .ok (.goto (-51), 3) := by decide +kernel
theorem dX7_withPayment_66 : decode cX7_withPayment 66 = .ok (.new 10, 3) := by decide +kernel
theorem dX7_withPayment_69 : decode cX7_withPayment 69 = .ok (.dup, 1) := by decide +kernel
theorem dX7_withPayment_70 : decode cX7_withPayment 70 = .ok (.aload_n 2, 1) := by decide +kernel
theorem dX7_withPayment_71 : decode cX7_withPayment 71 = .ok (.invokevirtual 43, 3) := by decide +kernel
theorem dX7_withPayment_74 : decode cX7_withPayment 74 = .ok (.aload_n 3, 1) := by decide +kernel
theorem dX7_withPayment_75 : decode cX7_withPayment 75 = .ok (.aload_n 0, 1) := by decide +kernel
theorem dX7_withPayment_76 : decode cX7_withPayment 76 = .ok (.getfield 19, 3) := by decide +kernel
theorem dX7_withPayment_79 : decode cX7_withPayment 79 = .ok (.aload_n 0, 1) := by decide +kernel
theorem dX7_withPayment_80 : decode cX7_withPayment 80 = .ok (.getfield 23, 3) := by decide +kernel
theorem dX7_withPayment_83 : decode cX7_withPayment 83 = .ok (.invokespecial 29, 3) := by decide +kernel
theorem dX7_withPayment_86 : decode cX7_withPayment 86 = .ok (.areturn, 1) := by decide +kernel
theorem dX7_costOf_0 : decode cX7_costOf 0 = .ok (.iconst 0, 1) := by decide +kernel
theorem dX7_costOf_1 : decode cX7_costOf 1 = .ok (.istore_n 2, 1) := by decide +kernel
theorem dX7_costOf_2 : decode cX7_costOf 2 = .ok (.iconst 0, 1) := by decide +kernel
theorem dX7_costOf_3 : decode cX7_costOf 3 = .ok (.istore_n 3, 1) := by decide +kernel
theorem dX7_costOf_4 : decode cX7_costOf 4 = .ok (.iload_n 3, 1) := by decide +kernel
theorem dX7_costOf_5 : decode cX7_costOf 5 = .ok (.iconst 4, 1) := by decide +kernel
theorem dX7_costOf_6 : decode cX7_costOf 6 = .ok (.if_icmp .ge 26, 3) := by decide +kernel
theorem dX7_costOf_9 : decode cX7_costOf 9 = .ok (.iload_n 1, 1) := by decide +kernel
theorem dX7_costOf_10 : decode cX7_costOf 10 = .ok (.iconst 1, 1) := by decide +kernel
theorem dX7_costOf_11 : decode cX7_costOf 11 = .ok (.iload_n 3, 1) := by decide +kernel
theorem dX7_costOf_12 : decode cX7_costOf 12 = .ok (.ishl, 1) := by decide +kernel
theorem dX7_costOf_13 : decode cX7_costOf 13 = .ok (.iand, 1) := by decide +kernel
theorem dX7_costOf_14 : decode cX7_costOf 14 = .ok (.ifCond .eq 12, 3) := by decide +kernel
theorem dX7_costOf_17 : decode cX7_costOf 17 = .ok (.iload_n 2, 1) := by decide +kernel
theorem dX7_costOf_18 : decode cX7_costOf 18 = .ok (.aload_n 0, 1) := by decide +kernel
theorem dX7_costOf_19 : decode cX7_costOf 19 = .ok (.getfield 23, 3) := by decide +kernel
theorem dX7_costOf_22 : decode cX7_costOf 22 = .ok (.iload_n 3, 1) := by decide +kernel
theorem dX7_costOf_23 : decode cX7_costOf 23 = .ok (.iaload, 1) := by decide +kernel
theorem dX7_costOf_24 : decode cX7_costOf 24 = .ok (.iadd, 1) := by decide +kernel
theorem dX7_costOf_25 : decode cX7_costOf 25 = .ok (.istore_n 2, 1) := by decide +kernel
theorem dX7_costOf_26 : decode cX7_costOf 26 = .ok (.iinc 3 1, 3) := by decide +kernel
theorem dX7_costOf_29 : decode cX7_costOf 29 = .ok (.goto (-25), 3) := by decide +kernel
theorem dX7_costOf_32 : decode cX7_costOf 32 = .ok (.iload_n 2, 1) := by decide +kernel
theorem dX7_costOf_33 : decode cX7_costOf 33 = .ok (.ireturn, 1) := by decide +kernel
theorem dX7_worth_0 : decode cX7_worth 0 = .ok (.iconst 0, 1) := by decide +kernel
theorem dX7_worth_1 : decode cX7_worth 1 = .ok (.istore_n 1, 1) := by decide +kernel
theorem dX7_worth_2 : decode cX7_worth 2 = .ok (.aload_n 0, 1) := by decide +kernel
theorem dX7_worth_3 : decode cX7_worth 3 = .ok (.getfield 9, 3) := by decide +kernel
theorem dX7_worth_6 : decode cX7_worth 6 = .ok (.astore_n 2, 1) := by decide +kernel
theorem dX7_worth_7 : decode cX7_worth 7 = .ok (.aload_n 2, 1) := by decide +kernel
theorem dX7_worth_8 : decode cX7_worth 8 = .ok (.arraylength, 1) := by decide +kernel
theorem dX7_worth_9 : decode cX7_worth 9 = .ok (.istore_n 3, 1) := by decide +kernel
theorem dX7_worth_10 : decode cX7_worth 10 = .ok (.iconst 0, 1) := by decide +kernel
theorem dX7_worth_11 : decode cX7_worth 11 = .ok (.istore 4, 2) := by decide +kernel
theorem dX7_worth_13 : decode cX7_worth 13 = .ok (.iload 4, 2) := by decide +kernel
theorem dX7_worth_15 : decode cX7_worth 15 = .ok (.iload_n 3, 1) := by decide +kernel
theorem dX7_worth_16 : decode cX7_worth 16 = .ok (.if_icmp .ge 33, 3) := by decide +kernel
theorem dX7_worth_19 : decode cX7_worth 19 = .ok (.aload_n 2, 1) := by decide +kernel
theorem dX7_worth_20 : decode cX7_worth 20 = .ok (.iload 4, 2) := by decide +kernel
theorem dX7_worth_22 : decode cX7_worth 22 = .ok (.aaload, 1) := by decide +kernel
theorem dX7_worth_23 : decode cX7_worth 23 = .ok (.astore 5, 2) := by decide +kernel
theorem dX7_worth_25 : decode cX7_worth 25 = .ok (.aload 5, 2) := by decide +kernel
theorem dX7_worth_27 : decode cX7_worth 27 = .ok (.ifnull 16, 3) := by decide +kernel
theorem dX7_worth_30 : decode cX7_worth 30 = .ok (.iload_n 1, 1) := by decide +kernel
theorem dX7_worth_31 : decode cX7_worth 31 = .ok (.aload 5, 2) := by decide +kernel
theorem dX7_worth_33 : decode cX7_worth 33 = .ok (.aload 5, 2) := by decide +kernel
theorem dX7_worth_35 : decode cX7_worth 35 = .ok (.getfield 49, 3) := by decide +kernel
theorem dX7_worth_38 : decode cX7_worth 38 = .ok (.invokevirtual 52, 3) := by decide +kernel
theorem dX7_worth_41 : decode cX7_worth 41 = .ok (.iadd, 1) := by decide +kernel
theorem dX7_worth_42 : decode cX7_worth 42 = .ok (.istore_n 1, 1) := by decide +kernel
theorem dX7_worth_43 : decode cX7_worth 43 = .ok (.iinc 4 1, 3) := by decide +kernel
theorem dX7_worth_46 : decode cX7_worth 46 = .ok (.goto (-33), 3) := by decide +kernel
theorem dX7_worth_49 : decode cX7_worth 49 = .ok (.iload_n 1, 1) := by decide +kernel
theorem dX7_worth_50 : decode cX7_worth 50 = .ok (.ireturn, 1) := by decide +kernel
theorem dX7_stamps_0 : decode cX7_stamps 0 = .ok (.iconst 0, 1) := by decide +kernel
theorem dX7_stamps_1 : decode cX7_stamps 1 = .ok (.istore_n 1, 1) := by decide +kernel
theorem dX7_stamps_2 : decode cX7_stamps 2 = .ok (.aload_n 0, 1) := by decide +kernel
theorem dX7_stamps_3 : decode cX7_stamps 3 = .ok (.getfield 9, 3) := by decide +kernel
theorem dX7_stamps_6 : decode cX7_stamps 6 = .ok (.astore_n 2, 1) := by decide +kernel
theorem dX7_stamps_7 : decode cX7_stamps 7 = .ok (.aload_n 2, 1) := by decide +kernel
theorem dX7_stamps_8 : decode cX7_stamps 8 = .ok (.arraylength, 1) := by decide +kernel
theorem dX7_stamps_9 : decode cX7_stamps 9 = .ok (.istore_n 3, 1) := by decide +kernel
theorem dX7_stamps_10 : decode cX7_stamps 10 = .ok (.iconst 0, 1) := by decide +kernel
theorem dX7_stamps_11 : decode cX7_stamps 11 = .ok (.istore 4, 2) := by decide +kernel
theorem dX7_stamps_13 : decode cX7_stamps 13 = .ok (.iload 4, 2) := by decide +kernel
theorem dX7_stamps_15 : decode cX7_stamps 15 = .ok (.iload_n 3, 1) := by decide +kernel
theorem dX7_stamps_16 : decode cX7_stamps 16 = .ok (.if_icmp .ge 28, 3) := by decide +kernel
theorem dX7_stamps_19 : decode cX7_stamps 19 = .ok (.aload_n 2, 1) := by decide +kernel
theorem dX7_stamps_20 : decode cX7_stamps 20 = .ok (.iload 4, 2) := by decide +kernel
theorem dX7_stamps_22 : decode cX7_stamps 22 = .ok (.aaload, 1) := by decide +kernel
theorem dX7_stamps_23 : decode cX7_stamps 23 = .ok (.astore 5, 2) := by decide +kernel
theorem dX7_stamps_25 : decode cX7_stamps 25 = .ok (.aload 5, 2) := by decide +kernel
theorem dX7_stamps_27 : decode cX7_stamps 27 = .ok (.ifnull 11, 3) := by decide +kernel
theorem dX7_stamps_30 : decode cX7_stamps 30 = .ok (.iload_n 1, 1) := by decide +kernel
theorem dX7_stamps_31 : decode cX7_stamps 31 = .ok (.aload 5, 2) := by decide +kernel
theorem dX7_stamps_33 : decode cX7_stamps 33 = .ok (.getfield 49, 3) := by decide +kernel
theorem dX7_stamps_36 : decode cX7_stamps 36 = .ok (.iadd, 1) := by decide +kernel
theorem dX7_stamps_37 : decode cX7_stamps 37 = .ok (.istore_n 1, 1) := by decide +kernel
theorem dX7_stamps_38 : decode cX7_stamps 38 = .ok (.iinc 4 1, 3) := by decide +kernel
theorem dX7_stamps_41 : decode cX7_stamps 41 = .ok (.goto (-28), 3) := by decide +kernel
theorem dX7_stamps_44 : decode cX7_stamps 44 = .ok (.iload_n 1, 1) := by decide +kernel
theorem dX7_stamps_45 : decode cX7_stamps 45 = .ok (.ireturn, 1) := by decide +kernel
theorem dX7_piecesOfSheets_0 : decode cX7_piecesOfSheets 0 = .ok (.iconst 0, 1) := by decide +kernel
theorem dX7_piecesOfSheets_1 : decode cX7_piecesOfSheets 1 = .ok (.istore_n 1, 1) := by decide +kernel
theorem dX7_piecesOfSheets_2 : decode cX7_piecesOfSheets 2 = .ok (.aload_n 0, 1) := by decide +kernel
theorem dX7_piecesOfSheets_3 : decode cX7_piecesOfSheets 3 = .ok (.getfield 9, 3) := by decide +kernel
theorem dX7_piecesOfSheets_6 : decode cX7_piecesOfSheets 6 = .ok (.astore_n 2, 1) := by decide +kernel
theorem dX7_piecesOfSheets_7 : decode cX7_piecesOfSheets 7 = .ok (.aload_n 2, 1) := by decide +kernel
theorem dX7_piecesOfSheets_8 : decode cX7_piecesOfSheets 8 = .ok (.arraylength, 1) := by decide +kernel
theorem dX7_piecesOfSheets_9 : decode cX7_piecesOfSheets 9 = .ok (.istore_n 3, 1) := by decide +kernel
theorem dX7_piecesOfSheets_10 : decode cX7_piecesOfSheets 10 = .ok (.iconst 0, 1) := by decide +kernel
theorem dX7_piecesOfSheets_11 : decode cX7_piecesOfSheets 11 = .ok (.istore 4, 2) := by decide +kernel
theorem dX7_piecesOfSheets_13 : decode cX7_piecesOfSheets 13 = .ok (.iload 4, 2) := by decide +kernel
theorem dX7_piecesOfSheets_15 : decode cX7_piecesOfSheets 15 = .ok (.iload_n 3, 1) := by decide +kernel
theorem dX7_piecesOfSheets_16 : decode cX7_piecesOfSheets 16 = .ok (.if_icmp .ge 31, 3) := by decide +kernel
theorem dX7_piecesOfSheets_19 : decode cX7_piecesOfSheets 19 = .ok (.aload_n 2, 1) := by decide +kernel
theorem dX7_piecesOfSheets_20 : decode cX7_piecesOfSheets 20 = .ok (.iload 4, 2) := by decide +kernel
theorem dX7_piecesOfSheets_22 : decode cX7_piecesOfSheets 22 = .ok (.aaload, 1) := by decide +kernel
theorem dX7_piecesOfSheets_23 : decode cX7_piecesOfSheets 23 = .ok (.astore 5, 2) := by decide +kernel
theorem dX7_piecesOfSheets_25 : decode cX7_piecesOfSheets 25 = .ok (.aload 5, 2) := by decide +kernel
theorem dX7_piecesOfSheets_27 : decode cX7_piecesOfSheets 27 = .ok (.instanceof 56, 3) := by decide +kernel
theorem dX7_piecesOfSheets_30 : decode cX7_piecesOfSheets 30 = .ok (.ifCond .eq 11, 3) := by decide +kernel
theorem dX7_piecesOfSheets_33 : decode cX7_piecesOfSheets 33 = .ok (.iload_n 1, 1) := by decide +kernel
theorem dX7_piecesOfSheets_34 : decode cX7_piecesOfSheets 34 = .ok (.aload 5, 2) := by decide +kernel
theorem dX7_piecesOfSheets_36 : decode cX7_piecesOfSheets 36 = .ok (.invokevirtual 58, 3) := by decide +kernel
theorem dX7_piecesOfSheets_39 : decode cX7_piecesOfSheets 39 = .ok (.iadd, 1) := by decide +kernel
theorem dX7_piecesOfSheets_40 : decode cX7_piecesOfSheets 40 = .ok (.istore_n 1, 1) := by decide +kernel
theorem dX7_piecesOfSheets_41 : decode cX7_piecesOfSheets 41 = .ok (.iinc 4 1, 3) := by decide +kernel
theorem dX7_piecesOfSheets_44 : decode cX7_piecesOfSheets 44 = .ok (.goto (-31), 3) := by decide +kernel
theorem dX7_piecesOfSheets_47 : decode cX7_piecesOfSheets 47 = .ok (.iload_n 1, 1) := by decide +kernel
theorem dX7_piecesOfSheets_48 : decode cX7_piecesOfSheets 48 = .ok (.ireturn, 1) := by decide +kernel
theorem dX8_init_0 : decode cX8_init 0 = .ok (.aload_n 0, 1) := by decide +kernel
theorem dX8_init_1 : decode cX8_init 1 = .ok (.iload_n 2, 1) := by decide +kernel
theorem dX8_init_2 : decode cX8_init 2 = .ok (.ifCond .le 17, 3) := by decide +kernel
theorem dX8_init_5 : decode cX8_init 5 = .ok (.iload_n 2, 1) := by decide +kernel
theorem dX8_init_6 : decode cX8_init 6 = .ok (.aload_n 1, 1) := by decide +kernel
theorem dX8_init_7 : decode cX8_init 7 = .ok (.arraylength, 1) := by decide +kernel
theorem dX8_init_8 : decode cX8_init 8 = .ok (.if_icmp .gt 11, 3) := by decide +kernel
theorem dX8_init_11 : decode cX8_init 11 = .ok (.aload_n 1, 1) := by decide +kernel
theorem dX8_init_12 : decode cX8_init 12 = .ok (.iload_n 2, 1) := by decide +kernel
theorem dX8_init_13 : decode cX8_init 13 = .ok (.iconst 1, 1) := by decide +kernel
theorem dX8_init_14 : decode cX8_init 14 = .ok (.isub, 1) := by decide +kernel
theorem dX8_init_15 : decode cX8_init 15 = .ok (.iaload, 1) := by decide +kernel
theorem dX8_init_16 : decode cX8_init 16 = .ok (.goto 4, 3) := by decide +kernel
theorem dX8_init_19 : decode cX8_init 19 = .ok (.iconst 0, 1) := by decide +kernel
theorem dX8_init_20 : decode cX8_init 20 = .ok (.iload_n 2, 1) := by decide +kernel
theorem dX8_init_21 : decode cX8_init 21 = .ok (.invokespecial 3, 3) := by decide +kernel
theorem dX8_init_24 : decode cX8_init 24 = .ok (.aload_n 0, 1) := by decide +kernel
theorem dX8_init_25 : decode cX8_init 25 = .ok (.aload_n 1, 1) := by decide +kernel
theorem dX8_init_26 : decode cX8_init 26 = .ok (.putfield 9, 3) := by decide +kernel
theorem dX8_init_29 : decode cX8_init 29 = .ok (.return_, 1) := by decide +kernel
theorem dX8_kind_0 : decode cX8_kind 0 = .ok (.iconst 1, 1) := by decide +kernel
theorem dX8_kind_1 : decode cX8_kind 1 = .ok (.ireturn, 1) := by decide +kernel
theorem dX8_stampAt_0 : decode cX8_stampAt 0 = .ok (.iload_n 1, 1) := by decide +kernel
theorem dX8_stampAt_1 : decode cX8_stampAt 1 = .ok (.iconst 0, 1) := by decide +kernel
theorem dX8_stampAt_2 : decode cX8_stampAt 2 = .ok (.aload_n 0, 1) := by decide +kernel
theorem dX8_stampAt_3 : decode cX8_stampAt 3 = .ok (.getfield 15, 3) := by decide +kernel
theorem dX8_stampAt_6 : decode cX8_stampAt 6 = .ok (.iconst 1, 1) := by decide +kernel
theorem dX8_stampAt_7 : decode cX8_stampAt 7 = .ok (.isub, 1) := by decide +kernel
theorem dX8_stampAt_8 : decode cX8_stampAt 8 = .ok (.invokestatic 19, 3) := by decide +kernel
theorem dX8_stampAt_11 : decode cX8_stampAt 11 = .ok (.ifCond .eq 21, 3) := by decide +kernel
theorem dX8_stampAt_14 : decode cX8_stampAt 14 = .ok (.iload_n 1, 1) := by decide +kernel
theorem dX8_stampAt_15 : decode cX8_stampAt 15 = .ok (.aload_n 0, 1) := by decide +kernel
theorem dX8_stampAt_16 : decode cX8_stampAt 16 = .ok (.getfield 9, 3) := by decide +kernel
theorem dX8_stampAt_19 : decode cX8_stampAt 19 = .ok (.arraylength, 1) := by decide +kernel
theorem dX8_stampAt_20 : decode cX8_stampAt 20 = .ok (.if_icmp .ge 12, 3) := by decide +kernel
theorem dX8_stampAt_23 : decode cX8_stampAt 23 = .ok (.aload_n 0, 1) := by decide +kernel
theorem dX8_stampAt_24 : decode cX8_stampAt 24 = .ok (.getfield 9, 3) := by decide +kernel
theorem dX8_stampAt_27 : decode cX8_stampAt 27 = .ok (.iload_n 1, 1) := by decide +kernel
theorem dX8_stampAt_28 : decode cX8_stampAt 28 = .ok (.iaload, 1) := by decide +kernel
theorem dX8_stampAt_29 : decode cX8_stampAt 29 = .ok (.goto 5, 3) := by decide +kernel
theorem dX8_stampAt_32 : decode cX8_stampAt 32 = .ok (.bipush (-13), 2) := by decide +kernel
theorem dX8_stampAt_34 : decode cX8_stampAt 34 = .ok (.ireturn, 1) := by decide +kernel
theorem dX8_worth_0 : decode cX8_worth 0 = .ok (.iconst 0, 1) := by decide +kernel
theorem dX8_worth_1 : decode cX8_worth 1 = .ok (.istore_n 2, 1) := by decide +kernel
theorem dX8_worth_2 : decode cX8_worth 2 = .ok (.iconst 0, 1) := by decide +kernel
theorem dX8_worth_3 : decode cX8_worth 3 = .ok (.aload_n 0, 1) := by decide +kernel
theorem dX8_worth_4 : decode cX8_worth 4 = .ok (.getfield 15, 3) := by decide +kernel
theorem dX8_worth_7 : decode cX8_worth 7 = .ok (.iload_n 1, 1) := by decide +kernel
theorem dX8_worth_8 : decode cX8_worth 8 = .ok (.isub, 1) := by decide +kernel
theorem dX8_worth_9 : decode cX8_worth 9 = .ok (.invokestatic 23, 3) := by decide +kernel
theorem dX8_worth_12 : decode cX8_worth 12 = .ok (.istore_n 3, 1) := by decide +kernel
theorem dX8_worth_13 : decode cX8_worth 13 = .ok (.iload_n 3, 1) := by decide +kernel
theorem dX8_worth_14 : decode cX8_worth 14 = .ok (.aload_n 0, 1) := by decide +kernel
theorem dX8_worth_15 : decode cX8_worth 15 = .ok (.getfield 15, 3) := by decide +kernel
theorem dX8_worth_18 : decode cX8_worth 18 = .ok (.if_icmp .ge 27, 3) := by decide +kernel
theorem dX8_worth_21 : decode cX8_worth 21 = .ok (.iload_n 3, 1) := by decide +kernel
theorem dX8_worth_22 : decode cX8_worth 22 = .ok (.aload_n 0, 1) := by decide +kernel
theorem dX8_worth_23 : decode cX8_worth 23 = .ok (.getfield 9, 3) := by decide +kernel
theorem dX8_worth_26 : decode cX8_worth 26 = .ok (.arraylength, 1) := by decide +kernel
theorem dX8_worth_27 : decode cX8_worth 27 = .ok (.if_icmp .ge 18, 3) := by decide +kernel
theorem dX8_worth_30 : decode cX8_worth 30 = .ok (.iload_n 2, 1) := by decide +kernel
theorem dX8_worth_31 : decode cX8_worth 31 = .ok (.aload_n 0, 1) := by decide +kernel
theorem dX8_worth_32 : decode cX8_worth 32 = .ok (.getfield 9, 3) := by decide +kernel
theorem dX8_worth_35 : decode cX8_worth 35 = .ok (.iload_n 3, 1) := by decide +kernel
theorem dX8_worth_36 : decode cX8_worth 36 = .ok (.iaload, 1) := by decide +kernel
theorem dX8_worth_37 : decode cX8_worth 37 = .ok (.iadd, 1) := by decide +kernel
theorem dX8_worth_38 : decode cX8_worth 38 = .ok (.istore_n 2, 1) := by decide +kernel
theorem dX8_worth_39 : decode cX8_worth 39 = .ok (.iinc 3 1, 3) := by decide +kernel
theorem dX8_worth_42 : decode cX8_worth 42 = .ok (.goto (-29), 3) := by decide +kernel
theorem dX8_worth_45 : decode cX8_worth 45 = .ok (.iload_n 2, 1) := by decide +kernel
theorem dX8_worth_46 : decode cX8_worth 46 = .ok (.ireturn, 1) := by decide +kernel
theorem dX8_ofFace_0 : decode cX8_ofFace 0 = .ok (.iconst 0, 1) := by decide +kernel
theorem dX8_ofFace_1 : decode cX8_ofFace 1 = .ok (.istore_n 3, 1) := by decide +kernel
theorem dX8_ofFace_2 : decode cX8_ofFace 2 = .ok (.iconst 0, 1) := by decide +kernel
theorem dX8_ofFace_3 : decode cX8_ofFace 3 = .ok (.aload_n 0, 1) := by decide +kernel
theorem dX8_ofFace_4 : decode cX8_ofFace 4 = .ok (.getfield 15, 3) := by decide +kernel
theorem dX8_ofFace_7 : decode cX8_ofFace 7 = .ok (.iload_n 2, 1) := by decide +kernel
theorem dX8_ofFace_8 : decode cX8_ofFace 8 = .ok (.isub, 1) := by decide +kernel
theorem dX8_ofFace_9 : decode cX8_ofFace 9 = .ok (.invokestatic 23, 3) := by decide +kernel
theorem dX8_ofFace_12 : decode cX8_ofFace 12 = .ok (.istore 4, 2) := by decide +kernel
theorem dX8_ofFace_14 : decode cX8_ofFace 14 = .ok (.iload 4, 2) := by decide +kernel
theorem dX8_ofFace_16 : decode cX8_ofFace 16 = .ok (.aload_n 0, 1) := by decide +kernel
theorem dX8_ofFace_17 : decode cX8_ofFace 17 = .ok (.getfield 15, 3) := by decide +kernel
theorem dX8_ofFace_20 : decode cX8_ofFace 20 = .ok (.if_icmp .ge 33, 3) := by decide +kernel
theorem dX8_ofFace_23 : decode cX8_ofFace 23 = .ok (.iload 4, 2) := by decide +kernel
theorem dX8_ofFace_25 : decode cX8_ofFace 25 = .ok (.aload_n 0, 1) := by decide +kernel
theorem dX8_ofFace_26 : decode cX8_ofFace 26 = .ok (.getfield 9, 3) := by decide +kernel
theorem dX8_ofFace_29 : decode cX8_ofFace 29 = .ok (.arraylength, 1) := by decide +kernel
theorem dX8_ofFace_30 : decode cX8_ofFace 30 = .ok (.if_icmp .ge 23, 3) := by decide +kernel
theorem dX8_ofFace_33 : decode cX8_ofFace 33 = .ok (.aload_n 0, 1) := by decide +kernel
theorem dX8_ofFace_34 : decode cX8_ofFace 34 = .ok (.getfield 9, 3) := by decide +kernel
theorem dX8_ofFace_37 : decode cX8_ofFace 37 = .ok (.iload 4, 2) := by decide +kernel
theorem dX8_ofFace_39 : decode cX8_ofFace 39 = .ok (.iaload, 1) := by decide +kernel
theorem dX8_ofFace_40 : decode cX8_ofFace 40 = .ok (.iload_n 1, 1) := by decide +kernel
theorem dX8_ofFace_41 : decode cX8_ofFace 41 = .ok (.if_icmp .ne 6, 3) := by decide +kernel
theorem dX8_ofFace_44 : decode cX8_ofFace 44 = .ok (.iinc 3 1, 3) := by decide +kernel
theorem dX8_ofFace_47 : decode cX8_ofFace 47 = .ok (.iinc 4 1, 3) := by decide +kernel
theorem dX8_ofFace_50 : decode cX8_ofFace 50 = .ok (.goto (-36), 3) := by decide +kernel
theorem dX8_ofFace_53 : decode cX8_ofFace 53 = .ok (.iload_n 3, 1) := by decide +kernel
theorem dX8_ofFace_54 : decode cX8_ofFace 54 = .ok (.ireturn, 1) := by decide +kernel
theorem dX8_without_0 : decode cX8_without 0 = .ok (.new 10, 3) := by decide +kernel
theorem dX8_without_3 : decode cX8_without 3 = .ok (.dup, 1) := by decide +kernel
theorem dX8_without_4 : decode cX8_without 4 = .ok (.aload_n 0, 1) := by decide +kernel
theorem dX8_without_5 : decode cX8_without 5 = .ok (.getfield 9, 3) := by decide +kernel
theorem dX8_without_8 : decode cX8_without 8 = .ok (.aload_n 0, 1) := by decide +kernel
theorem dX8_without_9 : decode cX8_without 9 = .ok (.getfield 15, 3) := by decide +kernel
theorem dX8_without_12 : decode cX8_without 12 = .ok (.iload_n 1, 1) := by decide +kernel
theorem dX8_without_13 : decode cX8_without 13 = .ok (.isub, 1) := by decide +kernel
theorem dX8_without_14 : decode cX8_without 14 = .ok (.invokespecial 29, 3) := by decide +kernel
theorem dX8_without_17 : decode cX8_without 17 = .ok (.areturn, 1) := by decide +kernel
theorem dX9_init_0 : decode cX9_init 0 = .ok (.aload_n 0, 1) := by decide +kernel
theorem dX9_init_1 : decode cX9_init 1 = .ok (.invokespecial 3, 3) := by decide +kernel
theorem dX9_init_4 : decode cX9_init 4 = .ok (.aload_n 0, 1) := by decide +kernel
theorem dX9_init_5 : decode cX9_init 5 = .ok (.aload_n 1, 1) := by decide +kernel
theorem dX9_init_6 : decode cX9_init 6 = .ok (.arraylength, 1) := by decide +kernel
theorem dX9_init_7 : decode cX9_init 7 = .ok (.aload_n 2, 1) := by decide +kernel
theorem dX9_init_8 : decode cX9_init 8 = .ok (.arraylength, 1) := by decide +kernel
theorem dX9_init_9 : decode cX9_init 9 = .ok (.invokestatic 9, 3) := by decide +kernel
theorem dX9_init_12 : decode cX9_init 12 = .ok (.putfield 15, 3) := by decide +kernel
theorem dX9_init_15 : decode cX9_init 15 = .ok (.aload_n 0, 1) := by decide +kernel
theorem dX9_init_16 : decode cX9_init 16 = .ok (.aload_n 1, 1) := by decide +kernel
theorem dX9_init_17 : decode cX9_init 17 = .ok (.putfield 21, 3) := by decide +kernel
theorem dX9_init_20 : decode cX9_init 20 = .ok (.aload_n 0, 1) := by decide +kernel
theorem dX9_init_21 : decode cX9_init 21 = .ok (.aload_n 2, 1) := by decide +kernel
theorem dX9_init_22 : decode cX9_init 22 = .ok (.putfield 25, 3) := by decide +kernel
theorem dX9_init_25 : decode cX9_init 25 = .ok (.return_, 1) := by decide +kernel
theorem dX9_lastGrams_0 : decode cX9_lastGrams 0 = .ok (.aload_n 0, 1) := by decide +kernel
theorem dX9_lastGrams_1 : decode cX9_lastGrams 1 = .ok (.getfield 15, 3) := by decide +kernel
theorem dX9_lastGrams_4 : decode cX9_lastGrams 4 = .ok (.ifCond .ne 7, 3) := by decide +kernel
theorem dX9_lastGrams_7 : decode cX9_lastGrams 7 = .ok (.iconst 0, 1) := by decide +kernel
theorem dX9_lastGrams_8 : decode cX9_lastGrams 8 = .ok (.goto 14, 3) := by decide +kernel
theorem dX9_lastGrams_11 : decode cX9_lastGrams 11 = .ok (.aload_n 0, 1) := by decide +kernel
theorem dX9_lastGrams_12 : decode cX9_lastGrams 12 = .ok (.getfield 21, 3) := by decide +kernel
theorem dX9_lastGrams_15 : decode cX9_lastGrams 15 = .ok (.aload_n 0, 1) := by decide +kernel
theorem dX9_lastGrams_16 : decode cX9_lastGrams 16 = .ok (.getfield 15, 3) := by decide +kernel
theorem dX9_lastGrams_19 : decode cX9_lastGrams 19 = .ok (.iconst 1, 1) := by decide +kernel
theorem dX9_lastGrams_20 : decode cX9_lastGrams 20 = .ok (.isub, 1) := by decide +kernel
theorem dX9_lastGrams_21 : decode cX9_lastGrams 21 = .ok (.iaload, 1) := by decide +kernel
theorem dX9_lastGrams_22 : decode cX9_lastGrams 22 = .ok (.ireturn, 1) := by decide +kernel
theorem dX9_lastPrice_0 : decode cX9_lastPrice 0 = .ok (.aload_n 0, 1) := by decide +kernel
theorem dX9_lastPrice_1 : decode cX9_lastPrice 1 = .ok (.getfield 15, 3) := by decide +kernel
theorem dX9_lastPrice_4 : decode cX9_lastPrice 4 = .ok (.ifCond .ne 7, 3) := by decide +kernel
theorem dX9_lastPrice_7 : decode cX9_lastPrice 7 = .ok (.iconst 0, 1) := by decide +kernel
theorem dX9_lastPrice_8 : decode cX9_lastPrice 8 = .ok (.goto 14, 3) := by decide +kernel
theorem dX9_lastPrice_11 : decode cX9_lastPrice 11 = .ok (.aload_n 0, 1) := by decide +kernel
theorem dX9_lastPrice_12 : decode cX9_lastPrice 12 = .ok (.getfield 25, 3) := by decide +kernel
theorem dX9_lastPrice_15 : decode cX9_lastPrice 15 = .ok (.aload_n 0, 1) := by decide +kernel
theorem dX9_lastPrice_16 : decode cX9_lastPrice 16 = .ok (.getfield 15, 3) := by decide +kernel
theorem dX9_lastPrice_19 : decode cX9_lastPrice 19 = .ok (.iconst 1, 1) := by decide +kernel
theorem dX9_lastPrice_20 : decode cX9_lastPrice 20 = .ok (.isub, 1) := by decide +kernel
theorem dX9_lastPrice_21 : decode cX9_lastPrice 21 = .ok (.iaload, 1) := by decide +kernel
theorem dX9_lastPrice_22 : decode cX9_lastPrice 22 = .ok (.ireturn, 1) := by decide +kernel
theorem dX9_withStep_0 : decode cX9_withStep 0 = .ok (.aload_n 0, 1) := by decide +kernel
theorem dX9_withStep_1 : decode cX9_withStep 1 = .ok (.getfield 15, 3) := by decide +kernel
theorem dX9_withStep_4 : decode cX9_withStep 4 = .ok (.iconst 1, 1) := by decide +kernel
theorem dX9_withStep_5 : decode cX9_withStep 5 = .ok (.iadd, 1) := by decide +kernel
theorem dX9_withStep_6 : decode cX9_withStep 6 = .ok (.newarray .int, 2) := by decide +kernel
theorem dX9_withStep_8 : decode cX9_withStep 8 = .ok (.astore_n 3, 1) := by decide +kernel
theorem dX9_withStep_9 : decode cX9_withStep 9 = .ok (.aload_n 0, 1) := by decide +kernel
theorem dX9_withStep_10 : decode cX9_withStep 10 = .ok (.getfield 15, 3) := by decide +kernel
theorem dX9_withStep_13 : decode cX9_withStep 13 = .ok (.iconst 1, 1) := by decide +kernel
theorem dX9_withStep_14 : decode cX9_withStep 14 = .ok (.iadd, 1) := by decide +kernel
theorem dX9_withStep_15 : decode cX9_withStep 15 = .ok (.newarray .int, 2) := by decide +kernel
theorem dX9_withStep_17 : decode cX9_withStep 17 = .ok (.astore 4, 2) := by decide +kernel
theorem dX9_withStep_19 : decode cX9_withStep 19 = .ok (.iconst 0, 1) := by decide +kernel
theorem dX9_withStep_20 : decode cX9_withStep 20 = .ok (.istore 5, 2) := by decide +kernel
theorem dX9_withStep_22 : decode cX9_withStep 22 = .ok (.iload 5, 2) := by decide +kernel
theorem dX9_withStep_24 : decode cX9_withStep 24 = .ok (.aload_n 0, 1) := by decide +kernel
theorem dX9_withStep_25 : decode cX9_withStep 25 = .ok (.getfield 15, 3) := by decide +kernel
theorem dX9_withStep_28 : decode cX9_withStep 28 = .ok (.if_icmp .ge 32, 3) := by decide +kernel
theorem dX9_withStep_31 : decode cX9_withStep 31 = .ok (.aload_n 3, 1) := by decide +kernel
theorem dX9_withStep_32 : decode cX9_withStep 32 = .ok (.iload 5, 2) := by decide +kernel
theorem dX9_withStep_34 : decode cX9_withStep 34 = .ok (.aload_n 0, 1) := by decide +kernel
theorem dX9_withStep_35 : decode cX9_withStep 35 = .ok (.getfield 21, 3) := by decide +kernel
theorem dX9_withStep_38 : decode cX9_withStep 38 = .ok (.iload 5, 2) := by decide +kernel
theorem dX9_withStep_40 : decode cX9_withStep 40 = .ok (.iaload, 1) := by decide +kernel
theorem dX9_withStep_41 : decode cX9_withStep 41 = .ok (.iastore, 1) := by decide +kernel
theorem dX9_withStep_42 : decode cX9_withStep 42 = .ok (.aload 4, 2) := by decide +kernel
theorem dX9_withStep_44 : decode cX9_withStep 44 = .ok (.iload 5, 2) := by decide +kernel
theorem dX9_withStep_46 : decode cX9_withStep 46 = .ok (.aload_n 0, 1) := by decide +kernel
theorem dX9_withStep_47 : decode cX9_withStep 47 = .ok (.getfield 25, 3) := by decide +kernel
theorem dX9_withStep_50 : decode cX9_withStep 50 = .ok (.iload 5, 2) := by decide +kernel
theorem dX9_withStep_52 : decode cX9_withStep 52 = .ok (.iaload, 1) := by decide +kernel
theorem dX9_withStep_53 : decode cX9_withStep 53 = .ok (.iastore, 1) := by decide +kernel
theorem dX9_withStep_54 : decode cX9_withStep 54 = .ok (.iinc 5 1, 3) := by decide +kernel
theorem dX9_withStep_57 : decode cX9_withStep 57 = .ok (.goto (-35), 3) := by decide +kernel
theorem dX9_withStep_60 : decode cX9_withStep 60 = .ok (.aload_n 3, 1) := by decide +kernel
theorem dX9_withStep_61 : decode cX9_withStep 61 = .ok (.aload_n 0, 1) := by decide +kernel
theorem dX9_withStep_62 : decode cX9_withStep 62 = .ok (.getfield 15, 3) := by decide +kernel
theorem dX9_withStep_65 : decode cX9_withStep 65 = .ok (.iload_n 1, 1) := by decide +kernel
theorem dX9_withStep_66 : decode cX9_withStep 66 = .ok (.iastore, 1) := by decide +kernel
theorem dX9_withStep_67 : decode cX9_withStep 67 = .ok (.aload 4, 2) := by decide +kernel
theorem dX9_withStep_69 : decode cX9_withStep 69 = .ok (.aload_n 0, 1) := by decide +kernel
theorem dX9_withStep_70 : decode cX9_withStep 70 = .ok (.getfield 15, 3) := by decide +kernel
theorem dX9_withStep_73 : decode cX9_withStep 73 = .ok (.iload_n 2, 1) := by decide +kernel
theorem dX9_withStep_74 : decode cX9_withStep 74 = .ok (.iastore, 1) := by decide +kernel
theorem dX9_withStep_75 : decode cX9_withStep 75 = .ok (.new 16, 3) := by decide +kernel
theorem dX9_withStep_78 : decode cX9_withStep 78 = .ok (.dup, 1) := by decide +kernel
theorem dX9_withStep_79 : decode cX9_withStep 79 = .ok (.aload_n 3, 1) := by decide +kernel
theorem dX9_withStep_80 : decode cX9_withStep 80 = .ok (.aload 4, 2) := by decide +kernel
theorem dX9_withStep_82 : decode cX9_withStep 82 = .ok (.invokespecial 28, 3) := by decide +kernel
theorem dX9_withStep_85 : decode cX9_withStep 85 = .ok (.areturn, 1) := by decide +kernel
theorem dX9_priceFor_0 : decode cX9_priceFor 0 = .ok (.iconst 0, 1) := by decide +kernel
theorem dX9_priceFor_1 : decode cX9_priceFor 1 = .ok (.istore_n 2, 1) := by decide +kernel
theorem dX9_priceFor_2 : decode cX9_priceFor 2 = .ok (.iload_n 2, 1) := by decide +kernel
theorem dX9_priceFor_3 : decode cX9_priceFor 3 = .ok (.aload_n 0, 1) := by decide +kernel
theorem dX9_priceFor_4 : decode cX9_priceFor 4 = .ok (.getfield 15, 3) := by decide +kernel
theorem dX9_priceFor_7 : decode cX9_priceFor 7 = .ok (.if_icmp .ge 26, 3) := by decide +kernel
theorem dX9_priceFor_10 : decode cX9_priceFor 10 = .ok (.aload_n 0, 1) := by decide +kernel
theorem dX9_priceFor_11 : decode cX9_priceFor 11 = .ok (.getfield 21, 3) := by decide +kernel
theorem dX9_priceFor_14 : decode cX9_priceFor 14 = .ok (.iload_n 2, 1) := by decide +kernel
theorem dX9_priceFor_15 : decode cX9_priceFor 15 = .ok (.iaload, 1) := by decide +kernel
theorem dX9_priceFor_16 : decode cX9_priceFor 16 = .ok (.iload_n 1, 1) := by decide +kernel
theorem dX9_priceFor_17 : decode cX9_priceFor 17 = .ok (.if_icmp .lt 10, 3) := by decide +kernel
theorem dX9_priceFor_20 : decode cX9_priceFor 20 = .ok (.aload_n 0, 1) := by decide +kernel
theorem dX9_priceFor_21 : decode cX9_priceFor 21 = .ok (.getfield 25, 3) := by decide +kernel
theorem dX9_priceFor_24 : decode cX9_priceFor 24 = .ok (.iload_n 2, 1) := by decide +kernel
theorem dX9_priceFor_25 : decode cX9_priceFor 25 = .ok (.iaload, 1) := by decide +kernel
theorem dX9_priceFor_26 : decode cX9_priceFor 26 = .ok (.ireturn, 1) := by decide +kernel
theorem dX9_priceFor_27 : decode cX9_priceFor 27 = .ok (.iinc 2 1, 3) := by decide +kernel
theorem dX9_priceFor_30 : decode cX9_priceFor 30 = .ok (.goto (-28), 3) := by decide +kernel
theorem dX9_priceFor_33 : decode cX9_priceFor 33 = .ok (.iconst (-1), 1) := by decide +kernel
theorem dX9_priceFor_34 : decode cX9_priceFor 34 = .ok (.ireturn, 1) := by decide +kernel
theorem dX10_init_0 : decode cX10_init 0 = .ok (.aload_n 0, 1) := by decide +kernel
theorem dX10_init_1 : decode cX10_init 1 = .ok (.invokespecial 3, 3) := by decide +kernel
theorem dX10_init_4 : decode cX10_init 4 = .ok (.aload_n 0, 1) := by decide +kernel
theorem dX10_init_5 : decode cX10_init 5 = .ok (.new 9, 3) := by decide +kernel
theorem dX10_init_8 : decode cX10_init 8 = .ok (.dup, 1) := by decide +kernel
theorem dX10_init_9 : decode cX10_init 9 = .ok (.invokespecial 11, 3) := by decide +kernel
theorem dX10_init_12 : decode cX10_init 12 = .ok (.putfield 12, 3) := by decide +kernel
theorem dX10_init_15 : decode cX10_init 15 = .ok (.aload_n 0, 1) := by decide +kernel
theorem dX10_init_16 : decode cX10_init 16 = .ok (.bipush 40, 2) := by decide +kernel
theorem dX10_init_18 : decode cX10_init 18 = .ok (.newarray .int, 2) := by decide +kernel
theorem dX10_init_20 : decode cX10_init 20 = .ok (.putfield 16, 3) := by decide +kernel
theorem dX10_init_23 : decode cX10_init 23 = .ok (.aload_n 0, 1) := by decide +kernel
theorem dX10_init_24 : decode cX10_init 24 = .ok (.iconst 0, 1) := by decide +kernel
theorem dX10_init_25 : decode cX10_init 25 = .ok (.putfield 20, 3) := by decide +kernel
theorem dX10_init_28 : decode cX10_init 28 = .ok (.aload_n 0, 1) := by decide +kernel
theorem dX10_init_29 : decode cX10_init 29 = .ok (.invokestatic 24, 3) := by decide +kernel
theorem dX10_init_32 : decode cX10_init 32 = .ok (.putfield 28, 3) := by decide +kernel
theorem dX10_init_35 : decode cX10_init 35 = .ok (.aload_n 0, 1) := by decide +kernel
theorem dX10_init_36 : decode cX10_init 36 = .ok (.bipush 32, 2) := by decide +kernel
theorem dX10_init_38 : decode cX10_init 38 = .ok (.anewarray 32, 3) := by decide +kernel
theorem dX10_init_41 : decode cX10_init 41 = .ok (.putfield 34, 3) := by decide +kernel
theorem dX10_init_44 : decode cX10_init 44 = .ok (.aload_n 0, 1) := by decide +kernel
theorem dX10_init_45 : decode cX10_init 45 = .ok (.iconst 0, 1) := by decide +kernel
theorem dX10_init_46 : decode cX10_init 46 = .ok (.putfield 38, 3) := by decide +kernel
theorem dX10_init_49 : decode cX10_init 49 = .ok (.return_, 1) := by decide +kernel
theorem dX10_pile_0 : decode cX10_pile 0 = .ok (.iload_n 1, 1) := by decide +kernel
theorem dX10_pile_1 : decode cX10_pile 1 = .ok (.invokestatic 41, 3) := by decide +kernel
theorem dX10_pile_4 : decode cX10_pile 4 = .ok (.ifCond .eq 20, 3) := by decide +kernel
theorem dX10_pile_7 : decode cX10_pile 7 = .ok (.iload_n 2, 1) := by decide +kernel
theorem dX10_pile_8 : decode cX10_pile 8 = .ok (.invokestatic 45, 3) := by decide +kernel
theorem dX10_pile_11 : decode cX10_pile 11 = .ok (.ifCond .eq 13, 3) := by decide +kernel
theorem dX10_pile_14 : decode cX10_pile 14 = .ok (.iload_n 3, 1) := by decide +kernel
theorem dX10_pile_15 : decode cX10_pile 15 = .ok (.iconst 0, 1) := by decide +kernel
theorem dX10_pile_16 : decode cX10_pile 16 = .ok (.bipush 60, 2) := by decide +kernel
theorem dX10_pile_18 : decode cX10_pile 18 = .ok (.invokestatic 48, 3) := by decide +kernel
theorem dX10_pile_21 : decode cX10_pile 21 = .ok (.ifCond .ne 6, 3) := by decide +kernel
theorem dX10_pile_24 : decode cX10_pile 24 = .ok (.bipush (-3), 2) := by decide +kernel
theorem dX10_pile_26 : decode cX10_pile 26 = .ok (.ireturn, 1) := by decide +kernel
theorem dX10_pile_27 : decode cX10_pile 27 = .ok (.aload_n 0, 1) := by decide +kernel
theorem dX10_pile_28 : decode cX10_pile 28 = .ok (.iload_n 1, 1) := by decide +kernel
theorem dX10_pile_29 : decode cX10_pile 29 = .ok (.new 52, 3) := by decide +kernel
theorem dX10_pile_32 : decode cX10_pile 32 = .ok (.dup, 1) := by decide +kernel
theorem dX10_pile_33 : decode cX10_pile 33 = .ok (.iload_n 2, 1) := by decide +kernel
theorem dX10_pile_34 : decode cX10_pile 34 = .ok (.iload_n 3, 1) := by decide +kernel
theorem dX10_pile_35 : decode cX10_pile 35 = .ok (.invokespecial 54, 3) := by decide +kernel
theorem dX10_pile_38 : decode cX10_pile 38 = .ok (.invokevirtual 57, 3) := by decide +kernel
theorem dX10_pile_41 : decode cX10_pile 41 = .ok (.ireturn, 1) := by decide +kernel
theorem dX10_over_0 : decode cX10_over 0 = .ok (.iload_n 1, 1) := by decide +kernel
theorem dX10_over_1 : decode cX10_over 1 = .ok (.invokestatic 41, 3) := by decide +kernel
theorem dX10_over_4 : decode cX10_over 4 = .ok (.ifCond .eq 28, 3) := by decide +kernel
theorem dX10_over_7 : decode cX10_over 7 = .ok (.iload_n 2, 1) := by decide +kernel
theorem dX10_over_8 : decode cX10_over 8 = .ok (.invokestatic 45, 3) := by decide +kernel
theorem dX10_over_11 : decode cX10_over 11 = .ok (.ifCond .eq 21, 3) := by decide +kernel
theorem dX10_over_14 : decode cX10_over 14 = .ok (.iload_n 3, 1) := by decide +kernel
theorem dX10_over_15 : decode cX10_over 15 = .ok (.invokestatic 45, 3) := by decide +kernel
theorem dX10_over_18 : decode cX10_over 18 = .ok (.ifCond .eq 14, 3) := by decide +kernel
theorem dX10_over_21 : decode cX10_over 21 = .ok (.iload 4, 2) := by decide +kernel
theorem dX10_over_23 : decode cX10_over 23 = .ok (.iconst 0, 1) := by decide +kernel
theorem dX10_over_24 : decode cX10_over 24 = .ok (.bipush 60, 2) := by decide +kernel
theorem dX10_over_26 : decode cX10_over 26 = .ok (.invokestatic 48, 3) := by decide +kernel
theorem dX10_over_29 : decode cX10_over 29 = .ok (.ifCond .ne 6, 3) := by decide +kernel
theorem dX10_over_32 : decode cX10_over 32 = .ok (.bipush (-3), 2) := by decide +kernel
theorem dX10_over_34 : decode cX10_over 34 = .ok (.ireturn, 1) := by decide +kernel
theorem dX10_over_35 : decode cX10_over 35 = .ok (.aload_n 0, 1) := by decide +kernel
theorem dX10_over_36 : decode cX10_over 36 = .ok (.iload_n 1, 1) := by decide +kernel
theorem dX10_over_37 : decode cX10_over 37 = .ok (.new 61, 3) := by decide +kernel
theorem dX10_over_40 : decode cX10_over 40 = .ok (.dup, 1) := by decide +kernel
theorem dX10_over_41 : decode cX10_over 41 = .ok (.iload_n 2, 1) := by decide +kernel
theorem dX10_over_42 : decode cX10_over 42 = .ok (.iload_n 3, 1) := by decide +kernel
theorem dX10_over_43 : decode cX10_over 43 = .ok (.iload 4, 2) := by decide +kernel
theorem dX10_over_45 : decode cX10_over 45 = .ok (.invokespecial 63, 3) := by decide +kernel
theorem dX10_over_48 : decode cX10_over 48 = .ok (.invokevirtual 57, 3) := by decide +kernel
theorem dX10_over_51 : decode cX10_over 51 = .ok (.ireturn, 1) := by decide +kernel
theorem dX10_reel_0 : decode cX10_reel 0 = .ok (.iload_n 1, 1) := by decide +kernel
theorem dX10_reel_1 : decode cX10_reel 1 = .ok (.invokestatic 45, 3) := by decide +kernel
theorem dX10_reel_4 : decode cX10_reel 4 = .ok (.ifCond .ne 6, 3) := by decide +kernel
theorem dX10_reel_7 : decode cX10_reel 7 = .ok (.bipush (-3), 2) := by decide +kernel
theorem dX10_reel_9 : decode cX10_reel 9 = .ok (.ireturn, 1) := by decide +kernel
theorem dX10_reel_10 : decode cX10_reel 10 = .ok (.aload_n 0, 1) := by decide +kernel
theorem dX10_reel_11 : decode cX10_reel 11 = .ok (.getfield 20, 3) := by decide +kernel
theorem dX10_reel_14 : decode cX10_reel 14 = .ok (.bipush 40, 2) := by decide +kernel
theorem dX10_reel_16 : decode cX10_reel 16 = .ok (.if_icmp .lt 6, 3) := by decide +kernel
theorem dX10_reel_19 : decode cX10_reel 19 = .ok (.bipush (-5), 2) := by decide +kernel
theorem dX10_reel_21 : decode cX10_reel 21 = .ok (.ireturn, 1) := by decide +kernel
theorem dX10_reel_22 : decode cX10_reel 22 = .ok (.aload_n 0, 1) := by decide +kernel
theorem dX10_reel_23 : decode cX10_reel 23 = .ok (.getfield 16, 3) := by decide +kernel
theorem dX10_reel_26 : decode cX10_reel 26 = .ok (.aload_n 0, 1) := by decide +kernel
theorem dX10_reel_27 : decode cX10_reel 27 = .ok (.getfield 20, 3) := by decide +kernel
theorem dX10_reel_30 : decode cX10_reel 30 = .ok (.iload_n 1, 1) := by decide +kernel
theorem dX10_reel_31 : decode cX10_reel 31 = .ok (.iastore, 1) := by decide +kernel
theorem dX10_reel_32 : decode cX10_reel 32 = .ok (.aload_n 0, 1) := by decide +kernel
theorem dX10_reel_33 : decode cX10_reel 33 = .ok (.dup, 1) := by decide +kernel
theorem dX10_reel_34 : decode cX10_reel 34 = .ok (.getfield 20, 3) := by decide +kernel
theorem dX10_reel_37 : decode cX10_reel 37 = .ok (.iconst 1, 1) := by decide +kernel
theorem dX10_reel_38 : decode cX10_reel 38 = .ok (.iadd, 1) := by decide +kernel
theorem dX10_reel_39 : decode cX10_reel 39 = .ok (.putfield 20, 3) := by decide +kernel
theorem dX10_reel_42 : decode cX10_reel 42 = .ok (.aload_n 0, 1) := by decide +kernel
theorem dX10_reel_43 : decode cX10_reel 43 = .ok (.getfield 20, 3) := by decide +kernel
theorem dX10_reel_46 : decode cX10_reel 46 = .ok (.ireturn, 1) := by decide +kernel
theorem dX10_strip_0 : decode cX10_strip 0 = .ok (.iload_n 1, 1) := by decide +kernel
theorem dX10_strip_1 : decode cX10_strip 1 = .ok (.invokestatic 41, 3) := by decide +kernel
theorem dX10_strip_4 : decode cX10_strip 4 = .ok (.ifCond .ne 6, 3) := by decide +kernel
theorem dX10_strip_7 : decode cX10_strip 7 = .ok (.bipush (-3), 2) := by decide +kernel
theorem dX10_strip_9 : decode cX10_strip 9 = .ok (.ireturn, 1) := by decide +kernel
theorem dX10_strip_10 : decode cX10_strip 10 = .ok (.aload_n 0, 1) := by decide +kernel
theorem dX10_strip_11 : decode cX10_strip 11 = .ok (.getfield 28, 3) := by decide +kernel
theorem dX10_strip_14 : decode cX10_strip 14 = .ok (.getfield 66, 3) := by decide +kernel
theorem dX10_strip_17 : decode cX10_strip 17 = .ok (.iload_n 1, 1) := by decide +kernel
theorem dX10_strip_18 : decode cX10_strip 18 = .ok (.aaload, 1) := by decide +kernel
theorem dX10_strip_19 : decode cX10_strip 19 = .ok (.ifnull 6, 3) := by decide +kernel
theorem dX10_strip_22 : decode cX10_strip 22 = .ok (.bipush (-4), 2) := by decide +kernel
theorem dX10_strip_24 : decode cX10_strip 24 = .ok (.ireturn, 1) := by decide +kernel
theorem dX10_strip_25 : decode cX10_strip 25 = .ok (.aload_n 0, 1) := by decide +kernel
theorem dX10_strip_26 : decode cX10_strip 26 = .ok (.getfield 20, 3) := by decide +kernel
theorem dX10_strip_29 : decode cX10_strip 29 = .ok (.istore_n 2, 1) := by decide +kernel
theorem dX10_strip_30 : decode cX10_strip 30 = .ok (.aload_n 0, 1) := by decide +kernel
theorem dX10_strip_31 : decode cX10_strip 31 = .ok (.iconst 0, 1) := by decide +kernel
theorem dX10_strip_32 : decode cX10_strip 32 = .ok (.putfield 20, 3) := by decide +kernel
theorem dX10_strip_35 : decode cX10_strip 35 = .ok (.aload_n 0, 1) := by decide +kernel
theorem dX10_strip_36 : decode cX10_strip 36 = .ok (.iload_n 1, 1) := by decide +kernel
theorem dX10_strip_37 : decode cX10_strip 37 = .ok (.new 70, 3) := by decide +kernel
theorem dX10_strip_40 : decode cX10_strip 40 = .ok (.dup, 1) := by decide +kernel
theorem dX10_strip_41 : decode cX10_strip 41 = .ok (.aload_n 0, 1) := by decide +kernel
theorem dX10_strip_42 : decode cX10_strip 42 = .ok (.getfield 16, 3) := by decide +kernel
theorem dX10_strip_45 : decode cX10_strip 45 = .ok (.invokevirtual 72, 3) := by decide +kernel
theorem dX10_strip_48 : decode cX10_strip 48 = .ok (.checkcast 73, 3) := by decide +kernel
theorem dX10_strip_51 : decode cX10_strip 51 = .ok (.iload_n 2, 1) := by decide +kernel
theorem dX10_strip_52 : decode cX10_strip 52 = .ok (.invokespecial 77, 3) := by decide +kernel
theorem dX10_strip_55 : decode cX10_strip 55 = .ok (.invokevirtual 57, 3) := by decide +kernel
theorem dX10_strip_58 : decode cX10_strip 58 = .ok (.ireturn, 1) := by decide +kernel
theorem dX10_sheet_0 : decode cX10_sheet 0 = .ok (.iload_n 1, 1) := by decide +kernel
theorem dX10_sheet_1 : decode cX10_sheet 1 = .ok (.invokestatic 41, 3) := by decide +kernel
theorem dX10_sheet_4 : decode cX10_sheet 4 = .ok (.ifCond .eq 33, 3) := by decide +kernel
theorem dX10_sheet_7 : decode cX10_sheet 7 = .ok (.iload_n 2, 1) := by decide +kernel
theorem dX10_sheet_8 : decode cX10_sheet 8 = .ok (.iconst 2, 1) := by decide +kernel
theorem dX10_sheet_9 : decode cX10_sheet 9 = .ok (.iconst 3, 1) := by decide +kernel
theorem dX10_sheet_10 : decode cX10_sheet 10 = .ok (.invokestatic 48, 3) := by decide +kernel
theorem dX10_sheet_13 : decode cX10_sheet 13 = .ok (.ifCond .eq 24, 3) := by decide +kernel
theorem dX10_sheet_16 : decode cX10_sheet 16 = .ok (.iload 5, 2) := by decide +kernel
theorem dX10_sheet_18 : decode cX10_sheet 18 = .ok (.invokestatic 45, 3) := by decide +kernel
theorem dX10_sheet_21 : decode cX10_sheet 21 = .ok (.ifCond .eq 16, 3) := by decide +kernel
theorem dX10_sheet_24 : decode cX10_sheet 24 = .ok (.iload_n 3, 1) := by decide +kernel
theorem dX10_sheet_25 : decode cX10_sheet 25 = .ok (.bipush 8, 2) := by decide +kernel
theorem dX10_sheet_27 : decode cX10_sheet 27 = .ok (.if_icmp .gt 10, 3) := by decide +kernel
theorem dX10_sheet_30 : decode cX10_sheet 30 = .ok (.iload 4, 2) := by decide +kernel
theorem dX10_sheet_32 : decode cX10_sheet 32 = .ok (.bipush 8, 2) := by decide +kernel
theorem dX10_sheet_34 : decode cX10_sheet 34 = .ok (.if_icmp .le 6, 3) := by decide +kernel
theorem dX10_sheet_37 : decode cX10_sheet 37 = .ok (.bipush (-3), 2) := by decide +kernel
theorem dX10_sheet_39 : decode cX10_sheet 39 = .ok (.ireturn, 1) := by decide +kernel
theorem dX10_sheet_40 : decode cX10_sheet 40 = .ok (.aload_n 0, 1) := by decide +kernel
theorem dX10_sheet_41 : decode cX10_sheet 41 = .ok (.getfield 28, 3) := by decide +kernel
theorem dX10_sheet_44 : decode cX10_sheet 44 = .ok (.getfield 66, 3) := by decide +kernel
theorem dX10_sheet_47 : decode cX10_sheet 47 = .ok (.iload_n 1, 1) := by decide +kernel
theorem dX10_sheet_48 : decode cX10_sheet 48 = .ok (.aaload, 1) := by decide +kernel
theorem dX10_sheet_49 : decode cX10_sheet 49 = .ok (.ifnull 6, 3) := by decide +kernel
theorem dX10_sheet_52 : decode cX10_sheet 52 = .ok (.bipush (-4), 2) := by decide +kernel
theorem dX10_sheet_54 : decode cX10_sheet 54 = .ok (.ireturn, 1) := by decide +kernel
theorem dX10_sheet_55 : decode cX10_sheet 55 = .ok (.iload_n 3, 1) := by decide +kernel
theorem dX10_sheet_56 : decode cX10_sheet 56 = .ok (.ifCond .lt 8, 3) := by decide +kernel
theorem dX10_sheet_59 : decode cX10_sheet 59 = .ok (.iload 4, 2) := by decide +kernel
theorem dX10_sheet_61 : decode cX10_sheet 61 = .ok (.ifCond .ge 6, 3) := by decide +kernel
theorem dX10_sheet_64 : decode cX10_sheet 64 = .ok (.bipush (-14), 2) := by decide +kernel
theorem dX10_sheet_66 : decode cX10_sheet 66 = .ok (.ireturn, 1) := by decide +kernel
theorem dX10_sheet_67 : decode cX10_sheet 67 = .ok (.iload_n 3, 1) := by decide +kernel
theorem dX10_sheet_68 : decode cX10_sheet 68 = .ok (.ifCond .eq 20, 3) := by decide +kernel
theorem dX10_sheet_71 : decode cX10_sheet 71 = .ok (.iload 4, 2) := by decide +kernel
theorem dX10_sheet_73 : decode cX10_sheet 73 = .ok (.ifCond .eq 15, 3) := by decide +kernel
theorem dX10_sheet_76 : decode cX10_sheet 76 = .ok (.iload_n 2, 1) := by decide +kernel
theorem dX10_sheet_77 : decode cX10_sheet 77 = .ok (.iconst 3, 1) := by decide +kernel
theorem dX10_sheet_78 : decode cX10_sheet 78 = .ok (.if_icmp .ne 13, 3) := by decide +kernel
theorem dX10_sheet_81 : decode cX10_sheet 81 = .ok (.iload 4, 2) := by decide +kernel
theorem dX10_sheet_83 : decode cX10_sheet 83 = .ok (.iconst 2, 1) := by decide +kernel
theorem dX10_sheet_84 : decode cX10_sheet 84 = .ok (.irem, 1) := by decide +kernel
theorem dX10_sheet_85 : decode cX10_sheet 85 = .ok (.ifCond .eq 6, 3) := by decide +kernel
theorem dX10_sheet_88 : decode cX10_sheet 88 = .ok (.bipush (-3), 2) := by decide +kernel
theorem dX10_sheet_90 : decode cX10_sheet 90 = .ok (.ireturn, 1) := by decide +kernel
theorem dX10_sheet_91 : decode cX10_sheet 91 = .ok (.ldc2_w 80, 3) := by decide +kernel
theorem dX10_sheet_94 : decode cX10_sheet 94 = .ok (.bipush 64, 2) := by decide +kernel
theorem dX10_sheet_96 : decode cX10_sheet 96 = .ok (.iload_n 3, 1) := by decide +kernel
theorem dX10_sheet_97 : decode cX10_sheet 97 = .ok (.iload 4, 2) := by decide +kernel
theorem dX10_sheet_99 : decode cX10_sheet 99 = .ok (.imul, 1) := by decide +kernel
theorem dX10_sheet_100 : decode cX10_sheet 100 = .ok (.isub, 1) := by decide +kernel
theorem dX10_sheet_101 : decode cX10_sheet 101 = .ok (.lushr, 1) := by decide +kernel
theorem dX10_sheet_102 : decode cX10_sheet 102 = .ok (.lstore 6, 2) := by decide +kernel
theorem dX10_sheet_104 : decode cX10_sheet 104 = .ok (.aload_n 0, 1) := by decide +kernel
theorem dX10_sheet_105 : decode cX10_sheet 105 = .ok (.iload_n 1, 1) := by decide +kernel
theorem dX10_sheet_106 : decode cX10_sheet 106 = .ok (.iload_n 2, 1) := by decide +kernel
theorem dX10_sheet_107 : decode cX10_sheet 107 = .ok (.iconst 3, 1) := by decide +kernel
theorem dX10_sheet_108 : decode cX10_sheet 108 = .ok (.if_icmp .ne 21, 3) := by decide +kernel
theorem dX10_sheet_111 : decode cX10_sheet 111 = .ok (.new 82, 3) := by decide +kernel
theorem dX10_sheet_114 : decode cX10_sheet 114 = .ok (.dup, 1) := by decide +kernel
theorem dX10_sheet_115 : decode cX10_sheet 115 = .ok (.iload 5, 2) := by decide +kernel
theorem dX10_sheet_117 : decode cX10_sheet 117 = .ok (.iload_n 3, 1) := by decide +kernel
theorem dX10_sheet_118 : decode cX10_sheet 118 = .ok (.iload 4, 2) := by decide +kernel
theorem dX10_sheet_120 : decode cX10_sheet 120 = .ok (.iconst 0, 1) := by decide +kernel
theorem dX10_sheet_121 : decode cX10_sheet 121 = .ok (.lload 6, 2) := by decide +kernel
theorem dX10_sheet_123 : decode cX10_sheet 123 = .ok (.invokespecial 84, 3) := by decide +kernel
theorem dX10_sheet_126 : decode cX10_sheet 126 = .ok (.goto 18, 3) := by decide +kernel
theorem dX10_sheet_129 : decode cX10_sheet 129 = .ok (.new 87, 3) := by decide +kernel
theorem dX10_sheet_132 : decode cX10_sheet 132 = .ok (.dup, 1) := by decide +kernel
theorem dX10_sheet_133 : decode cX10_sheet 133 = .ok (.iload 5, 2) := by decide +kernel
theorem dX10_sheet_135 : decode cX10_sheet 135 = .ok (.iload_n 3, 1) := by decide +kernel
theorem dX10_sheet_136 : decode cX10_sheet 136 = .ok (.iload 4, 2) := by decide +kernel
theorem dX10_sheet_138 : decode cX10_sheet 138 = .ok (.iconst 0, 1) := by decide +kernel
theorem dX10_sheet_139 : decode cX10_sheet 139 = .ok (.lload 6, 2) := by decide +kernel
theorem dX10_sheet_141 : decode cX10_sheet 141 = .ok (.invokespecial 89, 3) := by decide +kernel
theorem dX10_sheet_144 : decode cX10_sheet 144 = .ok (.invokevirtual 57, 3) := by decide +kernel
theorem dX10_sheet_147 : decode cX10_sheet 147 = .ok (.ireturn, 1) := by decide +kernel
theorem dX10_lack_0 : decode cX10_lack 0 = .ok (.iload_n 1, 1) := by decide +kernel
theorem dX10_lack_1 : decode cX10_lack 1 = .ok (.invokestatic 41, 3) := by decide +kernel
theorem dX10_lack_4 : decode cX10_lack 4 = .ok (.ifCond .ne 6, 3) := by decide +kernel
theorem dX10_lack_7 : decode cX10_lack 7 = .ok (.bipush (-3), 2) := by decide +kernel
theorem dX10_lack_9 : decode cX10_lack 9 = .ok (.ireturn, 1) := by decide +kernel
theorem dX10_lack_10 : decode cX10_lack 10 = .ok (.aload_n 0, 1) := by decide +kernel
theorem dX10_lack_11 : decode cX10_lack 11 = .ok (.getfield 28, 3) := by decide +kernel
theorem dX10_lack_14 : decode cX10_lack 14 = .ok (.getfield 66, 3) := by decide +kernel
theorem dX10_lack_17 : decode cX10_lack 17 = .ok (.iload_n 1, 1) := by decide +kernel
theorem dX10_lack_18 : decode cX10_lack 18 = .ok (.aaload, 1) := by decide +kernel
theorem dX10_lack_19 : decode cX10_lack 19 = .ok (.astore_n 3, 1) := by decide +kernel
theorem dX10_lack_20 : decode cX10_lack 20 = .ok (.aload_n 3, 1) := by decide +kernel
theorem dX10_lack_21 : decode cX10_lack 21 = .ok (.ifnonnull 6, 3) := by decide +kernel
theorem dX10_lack_24 : decode cX10_lack 24 = .ok (.bipush (-11), 2) := by decide +kernel
theorem dX10_lack_26 : decode cX10_lack 26 = .ok (.ireturn, 1) := by decide +kernel
theorem dX10_lack_27 : decode cX10_lack 27 = .ok (.aload_n 3, 1) := by decide +kernel
theorem dX10_lack_28 : decode cX10_lack 28 = .ok (.instanceof 87, 3) := by decide +kernel
theorem dX10_lack_31 : decode cX10_lack 31 = .ok (.ifCond .ne 6, 3) := by decide +kernel
theorem dX10_lack_34 : decode cX10_lack 34 = .ok (.bipush (-12), 2) := by decide +kernel
theorem dX10_lack_36 : decode cX10_lack 36 = .ok (.ireturn, 1) := by decide +kernel
theorem dX10_lack_37 : decode cX10_lack 37 = .ok (.aload_n 3, 1) := by decide +kernel
theorem dX10_lack_38 : decode cX10_lack 38 = .ok (.checkcast 87, 3) := by decide +kernel
theorem dX10_lack_41 : decode cX10_lack 41 = .ok (.astore 4, 2) := by decide +kernel
theorem dX10_lack_43 : decode cX10_lack 43 = .ok (.aload 4, 2) := by decide +kernel
theorem dX10_lack_45 : decode cX10_lack 45 = .ok (.iload_n 2, 1) := by decide +kernel
theorem dX10_lack_46 : decode cX10_lack 46 = .ok (.invokevirtual 90, 3) := by decide +kernel
theorem dX10_lack_49 : decode cX10_lack 49 = .ok (.istore 5, 2) := by decide +kernel
theorem dX10_lack_51 : decode cX10_lack 51 = .ok (.iload 5, 2) := by decide +kernel
theorem dX10_lack_53 : decode cX10_lack 53 = .ok (.ifCond .ge 6, 3) := by decide +kernel
theorem dX10_lack_56 : decode cX10_lack 56 = .ok (.iload 5, 2) := by decide +kernel
theorem dX10_lack_58 : decode cX10_lack 58 = .ok (.ireturn, 1) := by decide +kernel
theorem dX10_lack_59 : decode cX10_lack 59 = .ok (.aload 4, 2) := by decide +kernel
theorem dX10_lack_61 : decode cX10_lack 61 = .ok (.iload_n 2, 1) := by decide +kernel
theorem dX10_lack_62 : decode cX10_lack 62 = .ok (.invokevirtual 94, 3) := by decide +kernel
theorem dX10_lack_65 : decode cX10_lack 65 = .ok (.astore 6, 2) := by decide +kernel
theorem dX10_lack_67 : decode cX10_lack 67 = .ok (.aload_n 0, 1) := by decide +kernel
theorem dX10_lack_68 : decode cX10_lack 68 = .ok (.aload_n 0, 1) := by decide +kernel
theorem dX10_lack_69 : decode cX10_lack 69 = .ok (.getfield 28, 3) := by decide +kernel
theorem dX10_lack_72 : decode cX10_lack 72 = .ok (.iload_n 1, 1) := by decide +kernel
theorem dX10_lack_73 : decode cX10_lack 73 = .ok (.aload 6, 2) := by decide +kernel
theorem dX10_lack_75 : decode cX10_lack 75 = .ok (.invokevirtual 98, 3) := by decide +kernel
theorem dX10_lack_78 : decode cX10_lack 78 = .ok (.invokevirtual 102, 3) := by decide +kernel
theorem dX10_lack_81 : decode cX10_lack 81 = .ok (.aload 4, 2) := by decide +kernel
theorem dX10_lack_83 : decode cX10_lack 83 = .ok (.getfield 106, 3) := by decide +kernel
theorem dX10_lack_86 : decode cX10_lack 86 = .ok (.aload 6, 2) := by decide +kernel
theorem dX10_lack_88 : decode cX10_lack 88 = .ok (.getfield 106, 3) := by decide +kernel
theorem dX10_lack_91 : decode cX10_lack 91 = .ok (.isub, 1) := by decide +kernel
theorem dX10_lack_92 : decode cX10_lack 92 = .ok (.ireturn, 1) := by decide +kernel
theorem dX10_clear_0 : decode cX10_clear 0 = .ok (.iload_n 1, 1) := by decide +kernel
theorem dX10_clear_1 : decode cX10_clear 1 = .ok (.invokestatic 41, 3) := by decide +kernel
theorem dX10_clear_4 : decode cX10_clear 4 = .ok (.ifCond .ne 6, 3) := by decide +kernel
theorem dX10_clear_7 : decode cX10_clear 7 = .ok (.bipush (-3), 2) := by decide +kernel
theorem dX10_clear_9 : decode cX10_clear 9 = .ok (.ireturn, 1) := by decide +kernel
theorem dX10_clear_10 : decode cX10_clear 10 = .ok (.aload_n 0, 1) := by decide +kernel
theorem dX10_clear_11 : decode cX10_clear 11 = .ok (.getfield 28, 3) := by decide +kernel
theorem dX10_clear_14 : decode cX10_clear 14 = .ok (.getfield 66, 3) := by decide +kernel
theorem dX10_clear_17 : decode cX10_clear 17 = .ok (.iload_n 1, 1) := by decide +kernel
theorem dX10_clear_18 : decode cX10_clear 18 = .ok (.aaload, 1) := by decide +kernel
theorem dX10_clear_19 : decode cX10_clear 19 = .ok (.ifnonnull 6, 3) := by decide +kernel
theorem dX10_clear_22 : decode cX10_clear 22 = .ok (.bipush (-11), 2) := by decide +kernel
theorem dX10_clear_24 : decode cX10_clear 24 = .ok (.ireturn, 1) := by decide +kernel
theorem dX10_clear_25 : decode cX10_clear 25 = .ok (.aload_n 0, 1) := by decide +kernel
theorem dX10_clear_26 : decode cX10_clear 26 = .ok (.aload_n 0, 1) := by decide +kernel
theorem dX10_clear_27 : decode cX10_clear 27 = .ok (.getfield 28, 3) := by decide +kernel
theorem dX10_clear_30 : decode cX10_clear 30 = .ok (.iload_n 1, 1) := by decide +kernel
theorem dX10_clear_31 : decode cX10_clear 31 = .ok (.aconst_null, 1) := by decide +kernel
theorem dX10_clear_32 : decode cX10_clear 32 = .ok (.invokevirtual 98, 3) := by decide +kernel
theorem dX10_clear_35 : decode cX10_clear 35 = .ok (.invokevirtual 102, 3) := by decide +kernel
theorem dX10_clear_38 : decode cX10_clear 38 = .ok (.iconst 1, 1) := by decide +kernel
theorem dX10_clear_39 : decode cX10_clear 39 = .ok (.ireturn, 1) := by decide +kernel
theorem dX10_look_0 : decode cX10_look 0 = .ok (.iload_n 1, 1) := by decide +kernel
theorem dX10_look_1 : decode cX10_look 1 = .ok (.invokestatic 41, 3) := by decide +kernel
theorem dX10_look_4 : decode cX10_look 4 = .ok (.ifCond .eq 12, 3) := by decide +kernel
theorem dX10_look_7 : decode cX10_look 7 = .ok (.iload_n 2, 1) := by decide +kernel
theorem dX10_look_8 : decode cX10_look 8 = .ok (.iconst 0, 1) := by decide +kernel
theorem dX10_look_9 : decode cX10_look 9 = .ok (.iconst 4, 1) := by decide +kernel
theorem dX10_look_10 : decode cX10_look 10 = .ok (.invokestatic 48, 3) := by decide +kernel
theorem dX10_look_13 : decode cX10_look 13 = .ok (.ifCond .ne 6, 3) := by decide +kernel
theorem dX10_look_16 : decode cX10_look 16 = .ok (.bipush (-3), 2) := by decide +kernel
theorem dX10_look_18 : decode cX10_look 18 = .ok (.ireturn, 1) := by decide +kernel
theorem dX10_look_19 : decode cX10_look 19 = .ok (.aload_n 0, 1) := by decide +kernel
theorem dX10_look_20 : decode cX10_look 20 = .ok (.getfield 28, 3) := by decide +kernel
theorem dX10_look_23 : decode cX10_look 23 = .ok (.getfield 66, 3) := by decide +kernel
theorem dX10_look_26 : decode cX10_look 26 = .ok (.iload_n 1, 1) := by decide +kernel
theorem dX10_look_27 : decode cX10_look 27 = .ok (.aaload, 1) := by decide +kernel
theorem dX10_look_28 : decode cX10_look 28 = .ok (.astore 5, 2) := by decide +kernel
theorem dX10_look_30 : decode cX10_look 30 = .ok (.aload 5, 2) := by decide +kernel
theorem dX10_look_32 : decode cX10_look 32 = .ok (.ifnonnull 6, 3) := by decide +kernel
theorem dX10_look_35 : decode cX10_look 35 = .ok (.bipush (-11), 2) := by decide +kernel
theorem dX10_look_37 : decode cX10_look 37 = .ok (.ireturn, 1) := by decide +kernel
theorem dX10_look_38 : decode cX10_look 38 = .ok (.iload_n 2, 1) := by decide +kernel
theorem dX10_look_39 : decode cX10_look 39 = .ok (.tableswitch 124 1 4 #[29, 52, 77, 102], 29) := by decide +kernel
theorem dX10_look_68 : decode cX10_look 68 = .ok (.aload 5, 2) := by decide +kernel
theorem dX10_look_70 : decode cX10_look 70 = .ok (.instanceof 70, 3) := by decide +kernel
theorem dX10_look_73 : decode cX10_look 73 = .ok (.ifCond .eq 15, 3) := by decide +kernel
theorem dX10_look_76 : decode cX10_look 76 = .ok (.aload 5, 2) := by decide +kernel
theorem dX10_look_78 : decode cX10_look 78 = .ok (.checkcast 70, 3) := by decide +kernel
theorem dX10_look_81 : decode cX10_look 81 = .ok (.iload_n 3, 1) := by decide +kernel
theorem dX10_look_82 : decode cX10_look 82 = .ok (.invokevirtual 109, 3) := by decide +kernel
theorem dX10_look_85 : decode cX10_look 85 = .ok (.goto 5, 3) := by decide +kernel
theorem dX10_look_88 : decode cX10_look 88 = .ok (.bipush (-12), 2) := by decide +kernel
theorem dX10_look_90 : decode cX10_look 90 = .ok (.ireturn, 1) := by decide +kernel
theorem dX10_look_91 : decode cX10_look 91 = .ok (.aload 5, 2) := by decide +kernel
theorem dX10_look_93 : decode cX10_look 93 = .ok (.instanceof 87, 3) := by decide +kernel
theorem dX10_look_96 : decode cX10_look 96 = .ok (.ifCond .eq 17, 3) := by decide +kernel
theorem dX10_look_99 : decode cX10_look 99 = .ok (.aload 5, 2) := by decide +kernel
theorem dX10_look_101 : decode cX10_look 101 = .ok (.checkcast 87, 3) := by decide +kernel
theorem dX10_look_104 : decode cX10_look 104 = .ok (.iload_n 3, 1) := by decide +kernel
theorem dX10_look_105 : decode cX10_look 105 = .ok (.iload 4, 2) := by decide +kernel
theorem dX10_look_107 : decode cX10_look 107 = .ok (.invokevirtual 112, 3) := by decide +kernel
theorem dX10_look_110 : decode cX10_look 110 = .ok (.goto 5, 3) := by decide +kernel
theorem dX10_look_113 : decode cX10_look 113 = .ok (.bipush (-12), 2) := by decide +kernel
theorem dX10_look_115 : decode cX10_look 115 = .ok (.ireturn, 1) := by decide +kernel
theorem dX10_look_116 : decode cX10_look 116 = .ok (.aload 5, 2) := by decide +kernel
theorem dX10_look_118 : decode cX10_look 118 = .ok (.instanceof 82, 3) := by decide +kernel
theorem dX10_look_121 : decode cX10_look 121 = .ok (.ifCond .eq 17, 3) := by decide +kernel
theorem dX10_look_124 : decode cX10_look 124 = .ok (.aload 5, 2) := by decide +kernel
theorem dX10_look_126 : decode cX10_look 126 = .ok (.checkcast 82, 3) := by decide +kernel
theorem dX10_look_129 : decode cX10_look 129 = .ok (.iload_n 3, 1) := by decide +kernel
theorem dX10_look_130 : decode cX10_look 130 = .ok (.iload 4, 2) := by decide +kernel
theorem dX10_look_132 : decode cX10_look 132 = .ok (.invokevirtual 116, 3) := by decide +kernel
theorem dX10_look_135 : decode cX10_look 135 = .ok (.goto 5, 3) := by decide +kernel
theorem dX10_look_138 : decode cX10_look 138 = .ok (.bipush (-12), 2) := by decide +kernel
theorem dX10_look_140 : decode cX10_look 140 = .ok (.ireturn, 1) := by decide +kernel
theorem dX10_look_141 : decode cX10_look 141 = .ok (.aload 5, 2) := by decide +kernel
theorem dX10_look_143 : decode cX10_look 143 = .ok (.instanceof 61, 3) := by decide +kernel
theorem dX10_look_146 : decode cX10_look 146 = .ok (.ifCond .eq 14, 3) := by decide +kernel
theorem dX10_look_149 : decode cX10_look 149 = .ok (.aload 5, 2) := by decide +kernel
theorem dX10_look_151 : decode cX10_look 151 = .ok (.checkcast 61, 3) := by decide +kernel
theorem dX10_look_154 : decode cX10_look 154 = .ok (.getfield 119, 3) := by decide +kernel
theorem dX10_look_157 : decode cX10_look 157 = .ok (.goto 5, 3) := by decide +kernel
theorem dX10_look_160 : decode cX10_look 160 = .ok (.bipush (-12), 2) := by decide +kernel
theorem dX10_look_162 : decode cX10_look 162 = .ok (.ireturn, 1) := by decide +kernel
theorem dX10_look_163 : decode cX10_look 163 = .ok (.aload 5, 2) := by decide +kernel
theorem dX10_look_165 : decode cX10_look 165 = .ok (.getfield 122, 3) := by decide +kernel
theorem dX10_look_168 : decode cX10_look 168 = .ok (.ireturn, 1) := by decide +kernel
theorem dX10_holding_0 : decode cX10_holding 0 = .ok (.iload_n 1, 1) := by decide +kernel
theorem dX10_holding_1 : decode cX10_holding 1 = .ok (.invokestatic 41, 3) := by decide +kernel
theorem dX10_holding_4 : decode cX10_holding 4 = .ok (.ifCond .eq 12, 3) := by decide +kernel
theorem dX10_holding_7 : decode cX10_holding 7 = .ok (.iload_n 2, 1) := by decide +kernel
theorem dX10_holding_8 : decode cX10_holding 8 = .ok (.iconst 0, 1) := by decide +kernel
theorem dX10_holding_9 : decode cX10_holding 9 = .ok (.iconst 4, 1) := by decide +kernel
theorem dX10_holding_10 : decode cX10_holding 10 = .ok (.invokestatic 48, 3) := by decide +kernel
theorem dX10_holding_13 : decode cX10_holding 13 = .ok (.ifCond .ne 6, 3) := by decide +kernel
theorem dX10_holding_16 : decode cX10_holding 16 = .ok (.bipush (-3), 2) := by decide +kernel
theorem dX10_holding_18 : decode cX10_holding 18 = .ok (.ireturn, 1) := by decide +kernel
theorem dX10_holding_19 : decode cX10_holding 19 = .ok (.aload_n 0, 1) := by decide +kernel
theorem dX10_holding_20 : decode cX10_holding 20 = .ok (.getfield 28, 3) := by decide +kernel
theorem dX10_holding_23 : decode cX10_holding 23 = .ok (.getfield 66, 3) := by decide +kernel
theorem dX10_holding_26 : decode cX10_holding 26 = .ok (.iload_n 1, 1) := by decide +kernel
theorem dX10_holding_27 : decode cX10_holding 27 = .ok (.aaload, 1) := by decide +kernel
theorem dX10_holding_28 : decode cX10_holding 28 = .ok (.astore_n 3, 1) := by decide +kernel
theorem dX10_holding_29 : decode cX10_holding 29 = .ok (.aload_n 3, 1) := by decide +kernel
theorem dX10_holding_30 : decode cX10_holding 30 = .ok (.ifnonnull 6, 3) := by decide +kernel
theorem dX10_holding_33 : decode cX10_holding 33 = .ok (.bipush (-11), 2) := by decide +kernel
theorem dX10_holding_35 : decode cX10_holding 35 = .ok (.ireturn, 1) := by decide +kernel
theorem dX10_holding_36 : decode cX10_holding 36 = .ok (.iload_n 2, 1) := by decide +kernel
theorem dX10_holding_37 : decode cX10_holding 37 = .ok (.tableswitch 55 0 3 #[31, 36, 41, 46], 31) := by decide +kernel
theorem dX10_holding_68 : decode cX10_holding 68 = .ok (.aload_n 3, 1) := by decide +kernel
theorem dX10_holding_69 : decode cX10_holding 69 = .ok (.invokevirtual 123, 3) := by decide +kernel
theorem dX10_holding_72 : decode cX10_holding 72 = .ok (.ireturn, 1) := by decide +kernel
theorem dX10_holding_73 : decode cX10_holding 73 = .ok (.aload_n 3, 1) := by decide +kernel
theorem dX10_holding_74 : decode cX10_holding 74 = .ok (.getfield 122, 3) := by decide +kernel
theorem dX10_holding_77 : decode cX10_holding 77 = .ok (.ireturn, 1) := by decide +kernel
theorem dX10_holding_78 : decode cX10_holding 78 = .ok (.aload_n 3, 1) := by decide +kernel
theorem dX10_holding_79 : decode cX10_holding 79 = .ok (.getfield 127, 3) := by decide +kernel
theorem dX10_holding_82 : decode cX10_holding 82 = .ok (.ireturn, 1) := by decide +kernel
theorem dX10_holding_83 : decode cX10_holding 83 = .ok (.aload_n 3, 1) := by decide +kernel
theorem dX10_holding_84 : decode cX10_holding 84 = .ok (.aload_n 3, 1) := by decide +kernel
theorem dX10_holding_85 : decode cX10_holding 85 = .ok (.getfield 122, 3) := by decide +kernel
theorem dX10_holding_88 : decode cX10_holding 88 = .ok (.invokevirtual 130, 3) := by decide +kernel
theorem dX10_holding_91 : decode cX10_holding 91 = .ok (.ireturn, 1) := by decide +kernel
theorem dX10_holding_92 : decode cX10_holding 92 = .ok (.aload_n 3, 1) := by decide +kernel
theorem dX10_holding_93 : decode cX10_holding 93 = .ok (.invokevirtual 133, 3) := by decide +kernel
theorem dX10_holding_96 : decode cX10_holding 96 = .ok (.ireturn, 1) := by decide +kernel
theorem dX10_rate_0 : decode cX10_rate 0 = .ok (.iload_n 1, 1) := by decide +kernel
theorem dX10_rate_1 : decode cX10_rate 1 = .ok (.invokestatic 136, 3) := by decide +kernel
theorem dX10_rate_4 : decode cX10_rate 4 = .ok (.ifCond .ne 6, 3) := by decide +kernel
theorem dX10_rate_7 : decode cX10_rate 7 = .ok (.bipush (-3), 2) := by decide +kernel
theorem dX10_rate_9 : decode cX10_rate 9 = .ok (.ireturn, 1) := by decide +kernel
theorem dX10_rate_10 : decode cX10_rate 10 = .ok (.aload_n 0, 1) := by decide +kernel
theorem dX10_rate_11 : decode cX10_rate 11 = .ok (.getfield 28, 3) := by decide +kernel
theorem dX10_rate_14 : decode cX10_rate 14 = .ok (.getfield 139, 3) := by decide +kernel
theorem dX10_rate_17 : decode cX10_rate 17 = .ok (.iload_n 1, 1) := by decide +kernel
theorem dX10_rate_18 : decode cX10_rate 18 = .ok (.aaload, 1) := by decide +kernel
theorem dX10_rate_19 : decode cX10_rate 19 = .ok (.astore 4, 2) := by decide +kernel
theorem dX10_rate_21 : decode cX10_rate 21 = .ok (.iload_n 2, 1) := by decide +kernel
theorem dX10_rate_22 : decode cX10_rate 22 = .ok (.aload 4, 2) := by decide +kernel
theorem dX10_rate_24 : decode cX10_rate 24 = .ok (.invokevirtual 143, 3) := by decide +kernel
theorem dX10_rate_27 : decode cX10_rate 27 = .ok (.iconst 1, 1) := by decide +kernel
theorem dX10_rate_28 : decode cX10_rate 28 = .ok (.iadd, 1) := by decide +kernel
theorem dX10_rate_29 : decode cX10_rate 29 = .ok (.sipush 5000, 3) := by decide +kernel
theorem dX10_rate_32 : decode cX10_rate 32 = .ok (.invokestatic 48, 3) := by decide +kernel
theorem dX10_rate_35 : decode cX10_rate 35 = .ok (.ifCond .eq 20, 3) := by decide +kernel
theorem dX10_rate_38 : decode cX10_rate 38 = .ok (.iload_n 3, 1) := by decide +kernel
theorem dX10_rate_39 : decode cX10_rate 39 = .ok (.aload 4, 2) := by decide +kernel
theorem dX10_rate_41 : decode cX10_rate 41 = .ok (.invokevirtual 148, 3) := by decide +kernel
theorem dX10_rate_44 : decode cX10_rate 44 = .ok (.iconst 1, 1) := by decide +kernel
theorem dX10_rate_45 : decode cX10_rate 45 = .ok (.iadd, 1) := by decide +kernel
theorem dX10_rate_46 : decode cX10_rate 46 = .ok (.sipush 1200, 3) := by decide +kernel
theorem dX10_rate_49 : decode cX10_rate 49 = .ok (.invokestatic 48, 3) := by decide +kernel
theorem dX10_rate_52 : decode cX10_rate 52 = .ok (.ifCond .ne 6, 3) := by decide +kernel
theorem dX10_rate_55 : decode cX10_rate 55 = .ok (.bipush (-3), 2) := by decide +kernel
theorem dX10_rate_57 : decode cX10_rate 57 = .ok (.ireturn, 1) := by decide +kernel
theorem dX10_rate_58 : decode cX10_rate 58 = .ok (.aload 4, 2) := by decide +kernel
theorem dX10_rate_60 : decode cX10_rate 60 = .ok (.getfield 151, 3) := by decide +kernel
theorem dX10_rate_63 : decode cX10_rate 63 = .ok (.bipush 8, 2) := by decide +kernel
theorem dX10_rate_65 : decode cX10_rate 65 = .ok (.if_icmp .lt 6, 3) := by decide +kernel
theorem dX10_rate_68 : decode cX10_rate 68 = .ok (.bipush (-5), 2) := by decide +kernel
theorem dX10_rate_70 : decode cX10_rate 70 = .ok (.ireturn, 1) := by decide +kernel
theorem dX10_rate_71 : decode cX10_rate 71 = .ok (.aload_n 0, 1) := by decide +kernel
theorem dX10_rate_72 : decode cX10_rate 72 = .ok (.aload_n 0, 1) := by decide +kernel
theorem dX10_rate_73 : decode cX10_rate 73 = .ok (.getfield 28, 3) := by decide +kernel
theorem dX10_rate_76 : decode cX10_rate 76 = .ok (.iload_n 1, 1) := by decide +kernel
theorem dX10_rate_77 : decode cX10_rate 77 = .ok (.aload 4, 2) := by decide +kernel
theorem dX10_rate_79 : decode cX10_rate 79 = .ok (.iload_n 2, 1) := by decide +kernel
theorem dX10_rate_80 : decode cX10_rate 80 = .ok (.iload_n 3, 1) := by decide +kernel
theorem dX10_rate_81 : decode cX10_rate 81 = .ok (.invokevirtual 152, 3) := by decide +kernel
theorem dX10_rate_84 : decode cX10_rate 84 = .ok (.invokevirtual 156, 3) := by decide +kernel
theorem dX10_rate_87 : decode cX10_rate 87 = .ok (.invokevirtual 102, 3) := by decide +kernel
theorem dX10_rate_90 : decode cX10_rate 90 = .ok (.aload_n 0, 1) := by decide +kernel
theorem dX10_rate_91 : decode cX10_rate 91 = .ok (.getfield 28, 3) := by decide +kernel
theorem dX10_rate_94 : decode cX10_rate 94 = .ok (.getfield 139, 3) := by decide +kernel
theorem dX10_rate_97 : decode cX10_rate 97 = .ok (.iload_n 1, 1) := by decide +kernel
theorem dX10_rate_98 : decode cX10_rate 98 = .ok (.aaload, 1) := by decide +kernel
theorem dX10_rate_99 : decode cX10_rate 99 = .ok (.getfield 151, 3) := by decide +kernel
theorem dX10_rate_102 : decode cX10_rate 102 = .ok (.ireturn, 1) := by decide +kernel
theorem dX10_extra_0 : decode cX10_extra 0 = .ok (.iload_n 1, 1) := by decide +kernel
theorem dX10_extra_1 : decode cX10_extra 1 = .ok (.iconst 0, 1) := by decide +kernel
theorem dX10_extra_2 : decode cX10_extra 2 = .ok (.iconst 3, 1) := by decide +kernel
theorem dX10_extra_3 : decode cX10_extra 3 = .ok (.invokestatic 48, 3) := by decide +kernel
theorem dX10_extra_6 : decode cX10_extra 6 = .ok (.ifCond .eq 14, 3) := by decide +kernel
theorem dX10_extra_9 : decode cX10_extra 9 = .ok (.iload_n 2, 1) := by decide +kernel
theorem dX10_extra_10 : decode cX10_extra 10 = .ok (.iconst 0, 1) := by decide +kernel
theorem dX10_extra_11 : decode cX10_extra 11 = .ok (.sipush 200, 3) := by decide +kernel
theorem dX10_extra_14 : decode cX10_extra 14 = .ok (.invokestatic 48, 3) := by decide +kernel
theorem dX10_extra_17 : decode cX10_extra 17 = .ok (.ifCond .ne 6, 3) := by decide +kernel
theorem dX10_extra_20 : decode cX10_extra 20 = .ok (.bipush (-3), 2) := by decide +kernel
theorem dX10_extra_22 : decode cX10_extra 22 = .ok (.ireturn, 1) := by decide +kernel
theorem dX10_extra_23 : decode cX10_extra 23 = .ok (.aload_n 0, 1) := by decide +kernel
theorem dX10_extra_24 : decode cX10_extra 24 = .ok (.getfield 28, 3) := by decide +kernel
theorem dX10_extra_27 : decode cX10_extra 27 = .ok (.getfield 160, 3) := by decide +kernel
theorem dX10_extra_30 : decode cX10_extra 30 = .ok (.iload_n 1, 1) := by decide +kernel
theorem dX10_extra_31 : decode cX10_extra 31 = .ok (.iaload, 1) := by decide +kernel
theorem dX10_extra_32 : decode cX10_extra 32 = .ok (.istore_n 3, 1) := by decide +kernel
theorem dX10_extra_33 : decode cX10_extra 33 = .ok (.aload_n 0, 1) := by decide +kernel
theorem dX10_extra_34 : decode cX10_extra 34 = .ok (.aload_n 0, 1) := by decide +kernel
theorem dX10_extra_35 : decode cX10_extra 35 = .ok (.getfield 28, 3) := by decide +kernel
theorem dX10_extra_38 : decode cX10_extra 38 = .ok (.iload_n 1, 1) := by decide +kernel
theorem dX10_extra_39 : decode cX10_extra 39 = .ok (.iload_n 2, 1) := by decide +kernel
theorem dX10_extra_40 : decode cX10_extra 40 = .ok (.invokevirtual 163, 3) := by decide +kernel
theorem dX10_extra_43 : decode cX10_extra 43 = .ok (.invokevirtual 102, 3) := by decide +kernel
theorem dX10_extra_46 : decode cX10_extra 46 = .ok (.iload_n 3, 1) := by decide +kernel
theorem dX10_extra_47 : decode cX10_extra 47 = .ok (.ireturn, 1) := by decide +kernel
theorem dX10_grams_0 : decode cX10_grams 0 = .ok (.fload_n 1, 1) := by decide +kernel
theorem dX10_grams_1 : decode cX10_grams 1 = .ok (.invokestatic 167, 3) := by decide +kernel
theorem dX10_grams_4 : decode cX10_grams 4 = .ok (.ifCond .eq 10, 3) := by decide +kernel
theorem dX10_grams_7 : decode cX10_grams 7 = .ok (.fload_n 1, 1) := by decide +kernel
theorem dX10_grams_8 : decode cX10_grams 8 = .ok (.invokestatic 171, 3) := by decide +kernel
theorem dX10_grams_11 : decode cX10_grams 11 = .ok (.goto 5, 3) := by decide +kernel
theorem dX10_grams_14 : decode cX10_grams 14 = .ok (.bipush (-3), 2) := by decide +kernel
theorem dX10_grams_16 : decode cX10_grams 16 = .ok (.ireturn, 1) := by decide +kernel
theorem dX10_price_0 : decode cX10_price 0 = .ok (.iload_n 1, 1) := by decide +kernel
theorem dX10_price_1 : decode cX10_price 1 = .ok (.invokestatic 136, 3) := by decide +kernel
theorem dX10_price_4 : decode cX10_price 4 = .ok (.ifCond .eq 20, 3) := by decide +kernel
theorem dX10_price_7 : decode cX10_price 7 = .ok (.fload_n 2, 1) := by decide +kernel
theorem dX10_price_8 : decode cX10_price 8 = .ok (.invokestatic 167, 3) := by decide +kernel
theorem dX10_price_11 : decode cX10_price 11 = .ok (.ifCond .eq 13, 3) := by decide +kernel
theorem dX10_price_14 : decode cX10_price 14 = .ok (.iload_n 3, 1) := by decide +kernel
theorem dX10_price_15 : decode cX10_price 15 = .ok (.iconst 0, 1) := by decide +kernel
theorem dX10_price_16 : decode cX10_price 16 = .ok (.bipush 15, 2) := by decide +kernel
theorem dX10_price_18 : decode cX10_price 18 = .ok (.invokestatic 48, 3) := by decide +kernel
theorem dX10_price_21 : decode cX10_price 21 = .ok (.ifCond .ne 6, 3) := by decide +kernel
theorem dX10_price_24 : decode cX10_price 24 = .ok (.bipush (-3), 2) := by decide +kernel
theorem dX10_price_26 : decode cX10_price 26 = .ok (.ireturn, 1) := by decide +kernel
theorem dX10_price_27 : decode cX10_price 27 = .ok (.aload_n 0, 1) := by decide +kernel
theorem dX10_price_28 : decode cX10_price 28 = .ok (.getfield 28, 3) := by decide +kernel
theorem dX10_price_31 : decode cX10_price 31 = .ok (.getfield 139, 3) := by decide +kernel
theorem dX10_price_34 : decode cX10_price 34 = .ok (.iload_n 1, 1) := by decide +kernel
theorem dX10_price_35 : decode cX10_price 35 = .ok (.aaload, 1) := by decide +kernel
theorem dX10_price_36 : decode cX10_price 36 = .ok (.fload_n 2, 1) := by decide +kernel
theorem dX10_price_37 : decode cX10_price 37 = .ok (.invokestatic 171, 3) := by decide +kernel
theorem dX10_price_40 : decode cX10_price 40 = .ok (.invokevirtual 175, 3) := by decide +kernel
theorem dX10_price_43 : decode cX10_price 43 = .ok (.istore 4, 2) := by decide +kernel
theorem dX10_price_45 : decode cX10_price 45 = .ok (.iload 4, 2) := by decide +kernel
theorem dX10_price_47 : decode cX10_price 47 = .ok (.iconst (-1), 1) := by decide +kernel
theorem dX10_price_48 : decode cX10_price 48 = .ok (.if_icmp .ne 7, 3) := by decide +kernel
theorem dX10_price_51 : decode cX10_price 51 = .ok (.iconst (-1), 1) := by decide +kernel
theorem dX10_price_52 : decode cX10_price 52 = .ok (.goto 14, 3) := by decide +kernel
theorem dX10_price_55 : decode cX10_price 55 = .ok (.iload 4, 2) := by decide +kernel
theorem dX10_price_57 : decode cX10_price 57 = .ok (.aload_n 0, 1) := by decide +kernel
theorem dX10_price_58 : decode cX10_price 58 = .ok (.getfield 28, 3) := by decide +kernel
theorem dX10_price_61 : decode cX10_price 61 = .ok (.iload_n 3, 1) := by decide +kernel
theorem dX10_price_62 : decode cX10_price 62 = .ok (.invokevirtual 178, 3) := by decide +kernel
theorem dX10_price_65 : decode cX10_price 65 = .ok (.iadd, 1) := by decide +kernel
theorem dX10_price_66 : decode cX10_price 66 = .ok (.ireturn, 1) := by decide +kernel
theorem dX10_letter_0 : decode cX10_letter 0 = .ok (.aload_n 0, 1) := by decide +kernel
theorem dX10_letter_1 : decode cX10_letter 1 = .ok (.iload_n 1, 1) := by decide +kernel
theorem dX10_letter_2 : decode cX10_letter 2 = .ok (.fload_n 2, 1) := by decide +kernel
theorem dX10_letter_3 : decode cX10_letter 3 = .ok (.iload_n 3, 1) := by decide +kernel
theorem dX10_letter_4 : decode cX10_letter 4 = .ok (.invokevirtual 181, 3) := by decide +kernel
theorem dX10_letter_7 : decode cX10_letter 7 = .ok (.istore 4, 2) := by decide +kernel
theorem dX10_letter_9 : decode cX10_letter 9 = .ok (.iload 4, 2) := by decide +kernel
theorem dX10_letter_11 : decode cX10_letter 11 = .ok (.ifCond .ge 6, 3) := by decide +kernel
theorem dX10_letter_14 : decode cX10_letter 14 = .ok (.iload 4, 2) := by decide +kernel
theorem dX10_letter_16 : decode cX10_letter 16 = .ok (.ireturn, 1) := by decide +kernel
theorem dX10_letter_17 : decode cX10_letter 17 = .ok (.aload_n 0, 1) := by decide +kernel
theorem dX10_letter_18 : decode cX10_letter 18 = .ok (.getfield 28, 3) := by decide +kernel
theorem dX10_letter_21 : decode cX10_letter 21 = .ok (.getfield 185, 3) := by decide +kernel
theorem dX10_letter_24 : decode cX10_letter 24 = .ok (.arraylength, 1) := by decide +kernel
theorem dX10_letter_25 : decode cX10_letter 25 = .ok (.istore 5, 2) := by decide +kernel
theorem dX10_letter_27 : decode cX10_letter 27 = .ok (.iload 5, 2) := by decide +kernel
theorem dX10_letter_29 : decode cX10_letter 29 = .ok (.bipush 60, 2) := by decide +kernel
theorem dX10_letter_31 : decode cX10_letter 31 = .ok (.if_icmp .lt 6, 3) := by decide +kernel
theorem dX10_letter_34 : decode cX10_letter 34 = .ok (.bipush (-5), 2) := by decide +kernel
theorem dX10_letter_36 : decode cX10_letter 36 = .ok (.ireturn, 1) := by decide +kernel
theorem dX10_letter_37 : decode cX10_letter 37 = .ok (.aload_n 0, 1) := by decide +kernel
theorem dX10_letter_38 : decode cX10_letter 38 = .ok (.aload_n 0, 1) := by decide +kernel
theorem dX10_letter_39 : decode cX10_letter 39 = .ok (.getfield 28, 3) := by decide +kernel
theorem dX10_letter_42 : decode cX10_letter 42 = .ok (.new 189, 3) := by decide +kernel
theorem dX10_letter_45 : decode cX10_letter 45 = .ok (.dup, 1) := by decide +kernel
theorem dX10_letter_46 : decode cX10_letter 46 = .ok (.iload 4, 2) := by decide +kernel
theorem dX10_letter_48 : decode cX10_letter 48 = .ok (.aconst_null, 1) := by decide +kernel
theorem dX10_letter_49 : decode cX10_letter 49 = .ok (.invokespecial 191, 3) := by decide +kernel
theorem dX10_letter_52 : decode cX10_letter 52 = .ok (.invokevirtual 194, 3) := by decide +kernel
theorem dX10_letter_55 : decode cX10_letter 55 = .ok (.invokevirtual 102, 3) := by decide +kernel
theorem dX10_letter_58 : decode cX10_letter 58 = .ok (.iload 5, 2) := by decide +kernel
theorem dX10_letter_60 : decode cX10_letter 60 = .ok (.ireturn, 1) := by decide +kernel
theorem dX10_pay_0 : decode cX10_pay 0 = .ok (.aload_n 0, 1) := by decide +kernel
theorem dX10_pay_1 : decode cX10_pay 1 = .ok (.iload_n 1, 1) := by decide +kernel
theorem dX10_pay_2 : decode cX10_pay 2 = .ok (.invokevirtual 198, 3) := by decide +kernel
theorem dX10_pay_5 : decode cX10_pay 5 = .ok (.ifCond .ne 6, 3) := by decide +kernel
theorem dX10_pay_8 : decode cX10_pay 8 = .ok (.bipush (-3), 2) := by decide +kernel
theorem dX10_pay_10 : decode cX10_pay 10 = .ok (.ireturn, 1) := by decide +kernel
theorem dX10_pay_11 : decode cX10_pay 11 = .ok (.aload_n 0, 1) := by decide +kernel
theorem dX10_pay_12 : decode cX10_pay 12 = .ok (.getfield 28, 3) := by decide +kernel
theorem dX10_pay_15 : decode cX10_pay 15 = .ok (.getfield 185, 3) := by decide +kernel
theorem dX10_pay_18 : decode cX10_pay 18 = .ok (.iload_n 1, 1) := by decide +kernel
theorem dX10_pay_19 : decode cX10_pay 19 = .ok (.aaload, 1) := by decide +kernel
theorem dX10_pay_20 : decode cX10_pay 20 = .ok (.astore_n 2, 1) := by decide +kernel
theorem dX10_pay_21 : decode cX10_pay 21 = .ok (.aload_n 2, 1) := by decide +kernel
theorem dX10_pay_22 : decode cX10_pay 22 = .ok (.getfield 201, 3) := by decide +kernel
theorem dX10_pay_25 : decode cX10_pay 25 = .ok (.ifnull 6, 3) := by decide +kernel
theorem dX10_pay_28 : decode cX10_pay 28 = .ok (.bipush (-4), 2) := by decide +kernel
theorem dX10_pay_30 : decode cX10_pay 30 = .ok (.ireturn, 1) := by decide +kernel
theorem dX10_pay_31 : decode cX10_pay 31 = .ok (.aload_n 0, 1) := by decide +kernel
theorem dX10_pay_32 : decode cX10_pay 32 = .ok (.aload_n 2, 1) := by decide +kernel
theorem dX10_pay_33 : decode cX10_pay 33 = .ok (.getfield 205, 3) := by decide +kernel
theorem dX10_pay_36 : decode cX10_pay 36 = .ok (.invokevirtual 207, 3) := by decide +kernel
theorem dX10_pay_39 : decode cX10_pay 39 = .ok (.istore_n 3, 1) := by decide +kernel
theorem dX10_pay_40 : decode cX10_pay 40 = .ok (.iload_n 3, 1) := by decide +kernel
theorem dX10_pay_41 : decode cX10_pay 41 = .ok (.iconst (-1), 1) := by decide +kernel
theorem dX10_pay_42 : decode cX10_pay 42 = .ok (.if_icmp .ne 5, 3) := by decide +kernel
theorem dX10_pay_45 : decode cX10_pay 45 = .ok (.iconst (-1), 1) := by decide +kernel
theorem dX10_pay_46 : decode cX10_pay 46 = .ok (.ireturn, 1) := by decide +kernel
theorem dX10_pay_47 : decode cX10_pay 47 = .ok (.aload_n 0, 1) := by decide +kernel
theorem dX10_pay_48 : decode cX10_pay 48 = .ok (.getfield 12, 3) := by decide +kernel
theorem dX10_pay_51 : decode cX10_pay 51 = .ok (.aload_n 0, 1) := by decide +kernel
theorem dX10_pay_52 : decode cX10_pay 52 = .ok (.getfield 28, 3) := by decide +kernel
theorem dX10_pay_55 : decode cX10_pay 55 = .ok (.getfield 66, 3) := by decide +kernel
theorem dX10_pay_58 : decode cX10_pay 58 = .ok (.iload_n 3, 1) := by decide +kernel
theorem dX10_pay_59 : decode cX10_pay 59 = .ok (.invokevirtual 210, 3) := by decide +kernel
theorem dX10_pay_62 : decode cX10_pay 62 = .ok (.astore 4, 2) := by decide +kernel
theorem dX10_pay_64 : decode cX10_pay 64 = .ok (.aload_n 0, 1) := by decide +kernel
theorem dX10_pay_65 : decode cX10_pay 65 = .ok (.aload_n 0, 1) := by decide +kernel
theorem dX10_pay_66 : decode cX10_pay 66 = .ok (.getfield 28, 3) := by decide +kernel
theorem dX10_pay_69 : decode cX10_pay 69 = .ok (.iload_n 1, 1) := by decide +kernel
theorem dX10_pay_70 : decode cX10_pay 70 = .ok (.new 214, 3) := by decide +kernel
theorem dX10_pay_73 : decode cX10_pay 73 = .ok (.dup, 1) := by decide +kernel
theorem dX10_pay_74 : decode cX10_pay 74 = .ok (.iload_n 3, 1) := by decide +kernel
theorem dX10_pay_75 : decode cX10_pay 75 = .ok (.aload_n 0, 1) := by decide +kernel
theorem dX10_pay_76 : decode cX10_pay 76 = .ok (.getfield 28, 3) := by decide +kernel
theorem dX10_pay_79 : decode cX10_pay 79 = .ok (.getfield 66, 3) := by decide +kernel
theorem dX10_pay_82 : decode cX10_pay 82 = .ok (.aload 4, 2) := by decide +kernel
theorem dX10_pay_84 : decode cX10_pay 84 = .ok (.aload_n 0, 1) := by decide +kernel
theorem dX10_pay_85 : decode cX10_pay 85 = .ok (.getfield 28, 3) := by decide +kernel
theorem dX10_pay_88 : decode cX10_pay 88 = .ok (.getfield 66, 3) := by decide +kernel
theorem dX10_pay_91 : decode cX10_pay 91 = .ok (.aload 4, 2) := by decide +kernel
theorem dX10_pay_93 : decode cX10_pay 93 = .ok (.invokestatic 216, 3) := by decide +kernel
theorem dX10_pay_96 : decode cX10_pay 96 = .ok (.invokespecial 220, 3) := by decide +kernel
theorem dX10_pay_99 : decode cX10_pay 99 = .ok (.invokevirtual 223, 3) := by decide +kernel
theorem dX10_pay_102 : decode cX10_pay 102 = .ok (.invokevirtual 102, 3) := by decide +kernel
theorem dX10_pay_105 : decode cX10_pay 105 = .ok (.iload_n 3, 1) := by decide +kernel
theorem dX10_pay_106 : decode cX10_pay 106 = .ok (.ireturn, 1) := by decide +kernel
theorem dX10_told_0 : decode cX10_told 0 = .ok (.aload_n 0, 1) := by decide +kernel
theorem dX10_told_1 : decode cX10_told 1 = .ok (.iload_n 1, 1) := by decide +kernel
theorem dX10_told_2 : decode cX10_told 2 = .ok (.invokevirtual 198, 3) := by decide +kernel
theorem dX10_told_5 : decode cX10_told 5 = .ok (.ifCond .eq 12, 3) := by decide +kernel
theorem dX10_told_8 : decode cX10_told 8 = .ok (.iload_n 2, 1) := by decide +kernel
theorem dX10_told_9 : decode cX10_told 9 = .ok (.iconst 0, 1) := by decide +kernel
theorem dX10_told_10 : decode cX10_told 10 = .ok (.iconst 5, 1) := by decide +kernel
theorem dX10_told_11 : decode cX10_told 11 = .ok (.invokestatic 48, 3) := by decide +kernel
theorem dX10_told_14 : decode cX10_told 14 = .ok (.ifCond .ne 6, 3) := by decide +kernel
theorem dX10_told_17 : decode cX10_told 17 = .ok (.bipush (-3), 2) := by decide +kernel
theorem dX10_told_19 : decode cX10_told 19 = .ok (.ireturn, 1) := by decide +kernel
theorem dX10_told_20 : decode cX10_told 20 = .ok (.aload_n 0, 1) := by decide +kernel
theorem dX10_told_21 : decode cX10_told 21 = .ok (.getfield 28, 3) := by decide +kernel
theorem dX10_told_24 : decode cX10_told 24 = .ok (.getfield 185, 3) := by decide +kernel
theorem dX10_told_27 : decode cX10_told 27 = .ok (.iload_n 1, 1) := by decide +kernel
theorem dX10_told_28 : decode cX10_told 28 = .ok (.aaload, 1) := by decide +kernel
theorem dX10_told_29 : decode cX10_told 29 = .ok (.astore_n 3, 1) := by decide +kernel
theorem dX10_told_30 : decode cX10_told 30 = .ok (.iload_n 2, 1) := by decide +kernel
theorem dX10_told_31 : decode cX10_told 31 = .ok (.tableswitch 128 0 4 #[33, 38, 57, 81, 100], 33) := by decide +kernel
theorem dX10_told_64 : decode cX10_told 64 = .ok (.aload_n 3, 1) := by decide +kernel
theorem dX10_told_65 : decode cX10_told 65 = .ok (.getfield 205, 3) := by decide +kernel
theorem dX10_told_68 : decode cX10_told 68 = .ok (.ireturn, 1) := by decide +kernel
theorem dX10_told_69 : decode cX10_told 69 = .ok (.aload_n 3, 1) := by decide +kernel
theorem dX10_told_70 : decode cX10_told 70 = .ok (.getfield 201, 3) := by decide +kernel
theorem dX10_told_73 : decode cX10_told 73 = .ok (.ifnonnull 7, 3) := by decide +kernel
theorem dX10_told_76 : decode cX10_told 76 = .ok (.iconst 0, 1) := by decide +kernel
theorem dX10_told_77 : decode cX10_told 77 = .ok (.goto 10, 3) := by decide +kernel
theorem dX10_told_80 : decode cX10_told 80 = .ok (.aload_n 3, 1) := by decide +kernel
theorem dX10_told_81 : decode cX10_told 81 = .ok (.getfield 201, 3) := by decide +kernel
theorem dX10_told_84 : decode cX10_told 84 = .ok (.getfield 227, 3) := by decide +kernel
theorem dX10_told_87 : decode cX10_told 87 = .ok (.ireturn, 1) := by decide +kernel
theorem dX10_told_88 : decode cX10_told 88 = .ok (.aload_n 3, 1) := by decide +kernel
theorem dX10_told_89 : decode cX10_told 89 = .ok (.getfield 201, 3) := by decide +kernel
theorem dX10_told_92 : decode cX10_told 92 = .ok (.ifnonnull 7, 3) := by decide +kernel
theorem dX10_told_95 : decode cX10_told 95 = .ok (.iconst 0, 1) := by decide +kernel
theorem dX10_told_96 : decode cX10_told 96 = .ok (.goto 15, 3) := by decide +kernel
theorem dX10_told_99 : decode cX10_told 99 = .ok (.aload_n 3, 1) := by decide +kernel
theorem dX10_told_100 : decode cX10_told 100 = .ok (.getfield 201, 3) := by decide +kernel
theorem dX10_told_103 : decode cX10_told 103 = .ok (.getfield 227, 3) := by decide +kernel
theorem dX10_told_106 : decode cX10_told 106 = .ok (.aload_n 3, 1) := by decide +kernel
theorem dX10_told_107 : decode cX10_told 107 = .ok (.getfield 205, 3) := by decide +kernel
theorem dX10_told_110 : decode cX10_told 110 = .ok (.isub, 1) := by decide +kernel
theorem dX10_told_111 : decode cX10_told 111 = .ok (.ireturn, 1) := by decide +kernel
theorem dX10_told_112 : decode cX10_told 112 = .ok (.aload_n 3, 1) := by decide +kernel
theorem dX10_told_113 : decode cX10_told 113 = .ok (.getfield 201, 3) := by decide +kernel
theorem dX10_told_116 : decode cX10_told 116 = .ok (.ifnonnull 7, 3) := by decide +kernel
theorem dX10_told_119 : decode cX10_told 119 = .ok (.iconst 0, 1) := by decide +kernel
theorem dX10_told_120 : decode cX10_told 120 = .ok (.goto 10, 3) := by decide +kernel
theorem dX10_told_123 : decode cX10_told 123 = .ok (.aload_n 3, 1) := by decide +kernel
theorem dX10_told_124 : decode cX10_told 124 = .ok (.getfield 201, 3) := by decide +kernel
theorem dX10_told_127 : decode cX10_told 127 = .ok (.invokevirtual 230, 3) := by decide +kernel
theorem dX10_told_130 : decode cX10_told 130 = .ok (.ireturn, 1) := by decide +kernel
theorem dX10_told_131 : decode cX10_told 131 = .ok (.aload_n 3, 1) := by decide +kernel
theorem dX10_told_132 : decode cX10_told 132 = .ok (.getfield 201, 3) := by decide +kernel
theorem dX10_told_135 : decode cX10_told 135 = .ok (.ifnull 7, 3) := by decide +kernel
theorem dX10_told_138 : decode cX10_told 138 = .ok (.iconst 0, 1) := by decide +kernel
theorem dX10_told_139 : decode cX10_told 139 = .ok (.goto 19, 3) := by decide +kernel
theorem dX10_told_142 : decode cX10_told 142 = .ok (.iconst 0, 1) := by decide +kernel
theorem dX10_told_143 : decode cX10_told 143 = .ok (.aload_n 3, 1) := by decide +kernel
theorem dX10_told_144 : decode cX10_told 144 = .ok (.getfield 205, 3) := by decide +kernel
theorem dX10_told_147 : decode cX10_told 147 = .ok (.aload_n 0, 1) := by decide +kernel
theorem dX10_told_148 : decode cX10_told 148 = .ok (.getfield 28, 3) := by decide +kernel
theorem dX10_told_151 : decode cX10_told 151 = .ok (.invokevirtual 233, 3) := by decide +kernel
theorem dX10_told_154 : decode cX10_told 154 = .ok (.isub, 1) := by decide +kernel
theorem dX10_told_155 : decode cX10_told 155 = .ok (.invokestatic 235, 3) := by decide +kernel
theorem dX10_told_158 : decode cX10_told 158 = .ok (.ireturn, 1) := by decide +kernel
theorem dX10_told_159 : decode cX10_told 159 = .ok (.aload_n 3, 1) := by decide +kernel
theorem dX10_told_160 : decode cX10_told 160 = .ok (.getfield 201, 3) := by decide +kernel
theorem dX10_told_163 : decode cX10_told 163 = .ok (.ifnonnull 7, 3) := by decide +kernel
theorem dX10_told_166 : decode cX10_told 166 = .ok (.iconst 0, 1) := by decide +kernel
theorem dX10_told_167 : decode cX10_told 167 = .ok (.goto 4, 3) := by decide +kernel
theorem dX10_told_170 : decode cX10_told 170 = .ok (.iconst 1, 1) := by decide +kernel
theorem dX10_told_171 : decode cX10_told 171 = .ok (.ireturn, 1) := by decide +kernel
theorem dX10_given_0 : decode cX10_given 0 = .ok (.aload_n 0, 1) := by decide +kernel
theorem dX10_given_1 : decode cX10_given 1 = .ok (.iload_n 1, 1) := by decide +kernel
theorem dX10_given_2 : decode cX10_given 2 = .ok (.invokevirtual 198, 3) := by decide +kernel
theorem dX10_given_5 : decode cX10_given 5 = .ok (.ifCond .eq 10, 3) := by decide +kernel
theorem dX10_given_8 : decode cX10_given 8 = .ok (.iload_n 2, 1) := by decide +kernel
theorem dX10_given_9 : decode cX10_given 9 = .ok (.invokestatic 41, 3) := by decide +kernel
theorem dX10_given_12 : decode cX10_given 12 = .ok (.ifCond .ne 6, 3) := by decide +kernel
theorem dX10_given_15 : decode cX10_given 15 = .ok (.bipush (-3), 2) := by decide +kernel
theorem dX10_given_17 : decode cX10_given 17 = .ok (.ireturn, 1) := by decide +kernel
theorem dX10_given_18 : decode cX10_given 18 = .ok (.aload_n 0, 1) := by decide +kernel
theorem dX10_given_19 : decode cX10_given 19 = .ok (.getfield 28, 3) := by decide +kernel
theorem dX10_given_22 : decode cX10_given 22 = .ok (.getfield 185, 3) := by decide +kernel
theorem dX10_given_25 : decode cX10_given 25 = .ok (.iload_n 1, 1) := by decide +kernel
theorem dX10_given_26 : decode cX10_given 26 = .ok (.aaload, 1) := by decide +kernel
theorem dX10_given_27 : decode cX10_given 27 = .ok (.getfield 201, 3) := by decide +kernel
theorem dX10_given_30 : decode cX10_given 30 = .ok (.astore_n 3, 1) := by decide +kernel
theorem dX10_given_31 : decode cX10_given 31 = .ok (.aload_n 3, 1) := by decide +kernel
theorem dX10_given_32 : decode cX10_given 32 = .ok (.ifnonnull 7, 3) := by decide +kernel
theorem dX10_given_35 : decode cX10_given 35 = .ok (.iconst 0, 1) := by decide +kernel
theorem dX10_given_36 : decode cX10_given 36 = .ok (.goto 9, 3) := by decide +kernel
theorem dX10_given_39 : decode cX10_given 39 = .ok (.aload_n 3, 1) := by decide +kernel
theorem dX10_given_40 : decode cX10_given 40 = .ok (.getfield 240, 3) := by decide +kernel
theorem dX10_given_43 : decode cX10_given 43 = .ok (.iload_n 2, 1) := by decide +kernel
theorem dX10_given_44 : decode cX10_given 44 = .ok (.iaload, 1) := by decide +kernel
theorem dX10_given_45 : decode cX10_given 45 = .ok (.ireturn, 1) := by decide +kernel
theorem dX10_torn_0 : decode cX10_torn 0 = .ok (.aload_n 0, 1) := by decide +kernel
theorem dX10_torn_1 : decode cX10_torn 1 = .ok (.iload_n 1, 1) := by decide +kernel
theorem dX10_torn_2 : decode cX10_torn 2 = .ok (.invokevirtual 198, 3) := by decide +kernel
theorem dX10_torn_5 : decode cX10_torn 5 = .ok (.ifCond .ne 6, 3) := by decide +kernel
theorem dX10_torn_8 : decode cX10_torn 8 = .ok (.bipush (-3), 2) := by decide +kernel
theorem dX10_torn_10 : decode cX10_torn 10 = .ok (.ireturn, 1) := by decide +kernel
theorem dX10_torn_11 : decode cX10_torn 11 = .ok (.aload_n 0, 1) := by decide +kernel
theorem dX10_torn_12 : decode cX10_torn 12 = .ok (.getfield 28, 3) := by decide +kernel
theorem dX10_torn_15 : decode cX10_torn 15 = .ok (.getfield 185, 3) := by decide +kernel
theorem dX10_torn_18 : decode cX10_torn 18 = .ok (.iload_n 1, 1) := by decide +kernel
theorem dX10_torn_19 : decode cX10_torn 19 = .ok (.aaload, 1) := by decide +kernel
theorem dX10_torn_20 : decode cX10_torn 20 = .ok (.getfield 201, 3) := by decide +kernel
theorem dX10_torn_23 : decode cX10_torn 23 = .ok (.astore_n 3, 1) := by decide +kernel
theorem dX10_torn_24 : decode cX10_torn 24 = .ok (.aload_n 3, 1) := by decide +kernel
theorem dX10_torn_25 : decode cX10_torn 25 = .ok (.ifnonnull 7, 3) := by decide +kernel
theorem dX10_torn_28 : decode cX10_torn 28 = .ok (.iconst (-1), 1) := by decide +kernel
theorem dX10_torn_29 : decode cX10_torn 29 = .ok (.goto 8, 3) := by decide +kernel
theorem dX10_torn_32 : decode cX10_torn 32 = .ok (.aload_n 3, 1) := by decide +kernel
theorem dX10_torn_33 : decode cX10_torn 33 = .ok (.iload_n 2, 1) := by decide +kernel
theorem dX10_torn_34 : decode cX10_torn 34 = .ok (.invokevirtual 243, 3) := by decide +kernel
theorem dX10_torn_37 : decode cX10_torn 37 = .ok (.ireturn, 1) := by decide +kernel
theorem dX10_fewest_0 : decode cX10_fewest 0 = .ok (.iload_n 1, 1) := by decide +kernel
theorem dX10_fewest_1 : decode cX10_fewest 1 = .ok (.iconst 0, 1) := by decide +kernel
theorem dX10_fewest_2 : decode cX10_fewest 2 = .ok (.sipush 2500, 3) := by decide +kernel
theorem dX10_fewest_5 : decode cX10_fewest 5 = .ok (.invokestatic 48, 3) := by decide +kernel
theorem dX10_fewest_8 : decode cX10_fewest 8 = .ok (.ifCond .ne 6, 3) := by decide +kernel
theorem dX10_fewest_11 : decode cX10_fewest 11 = .ok (.bipush (-3), 2) := by decide +kernel
theorem dX10_fewest_13 : decode cX10_fewest 13 = .ok (.ireturn, 1) := by decide +kernel
theorem dX10_fewest_14 : decode cX10_fewest 14 = .ok (.iload_n 1, 1) := by decide +kernel
theorem dX10_fewest_15 : decode cX10_fewest 15 = .ok (.aload_n 0, 1) := by decide +kernel
theorem dX10_fewest_16 : decode cX10_fewest 16 = .ok (.getfield 28, 3) := by decide +kernel
theorem dX10_fewest_19 : decode cX10_fewest 19 = .ok (.invokevirtual 233, 3) := by decide +kernel
theorem dX10_fewest_22 : decode cX10_fewest 22 = .ok (.if_icmp .le 5, 3) := by decide +kernel
theorem dX10_fewest_25 : decode cX10_fewest 25 = .ok (.iconst (-1), 1) := by decide +kernel
theorem dX10_fewest_26 : decode cX10_fewest 26 = .ok (.ireturn, 1) := by decide +kernel
theorem dX10_fewest_27 : decode cX10_fewest 27 = .ok (.aload_n 0, 1) := by decide +kernel
theorem dX10_fewest_28 : decode cX10_fewest 28 = .ok (.getfield 12, 3) := by decide +kernel
theorem dX10_fewest_31 : decode cX10_fewest 31 = .ok (.aload_n 0, 1) := by decide +kernel
theorem dX10_fewest_32 : decode cX10_fewest 32 = .ok (.getfield 28, 3) := by decide +kernel
theorem dX10_fewest_35 : decode cX10_fewest 35 = .ok (.getfield 66, 3) := by decide +kernel
theorem dX10_fewest_38 : decode cX10_fewest 38 = .ok (.iload_n 1, 1) := by decide +kernel
theorem dX10_fewest_39 : decode cX10_fewest 39 = .ok (.invokevirtual 246, 3) := by decide +kernel
theorem dX10_fewest_42 : decode cX10_fewest 42 = .ok (.aload_n 0, 1) := by decide +kernel
theorem dX10_fewest_43 : decode cX10_fewest 43 = .ok (.getfield 12, 3) := by decide +kernel
theorem dX10_fewest_46 : decode cX10_fewest 46 = .ok (.iload_n 1, 1) := by decide +kernel
theorem dX10_fewest_47 : decode cX10_fewest 47 = .ok (.invokevirtual 250, 3) := by decide +kernel
theorem dX10_fewest_50 : decode cX10_fewest 50 = .ok (.ireturn, 1) := by decide +kernel
theorem dX10_least_0 : decode cX10_least 0 = .ok (.iload_n 1, 1) := by decide +kernel
theorem dX10_least_1 : decode cX10_least 1 = .ok (.iconst 0, 1) := by decide +kernel
theorem dX10_least_2 : decode cX10_least 2 = .ok (.sipush 2000, 3) := by decide +kernel
theorem dX10_least_5 : decode cX10_least 5 = .ok (.invokestatic 48, 3) := by decide +kernel
theorem dX10_least_8 : decode cX10_least 8 = .ok (.ifCond .eq 11, 3) := by decide +kernel
theorem dX10_least_11 : decode cX10_least 11 = .ok (.aload_n 0, 1) := by decide +kernel
theorem dX10_least_12 : decode cX10_least 12 = .ok (.iload_n 1, 1) := by decide +kernel
theorem dX10_least_13 : decode cX10_least 13 = .ok (.invokevirtual 207, 3) := by decide +kernel
theorem dX10_least_16 : decode cX10_least 16 = .ok (.goto 5, 3) := by decide +kernel
theorem dX10_least_19 : decode cX10_least 19 = .ok (.bipush (-3), 2) := by decide +kernel
theorem dX10_least_21 : decode cX10_least 21 = .ok (.ireturn, 1) := by decide +kernel
theorem dX10_day_0 : decode cX10_day 0 = .ok (.iload_n 1, 1) := by decide +kernel
theorem dX10_day_1 : decode cX10_day 1 = .ok (.tableswitch 104 0 9 #[55, 64, 64, 64, 64, 70, 78, 86, 94, 99], 55) := by decide +kernel
theorem dX10_day_56 : decode cX10_day 56 = .ok (.aload_n 0, 1) := by decide +kernel
theorem dX10_day_57 : decode cX10_day 57 = .ok (.getfield 28, 3) := by decide +kernel
theorem dX10_day_60 : decode cX10_day 60 = .ok (.getfield 185, 3) := by decide +kernel
theorem dX10_day_63 : decode cX10_day 63 = .ok (.arraylength, 1) := by decide +kernel
theorem dX10_day_64 : decode cX10_day 64 = .ok (.ireturn, 1) := by decide +kernel
theorem dX10_day_65 : decode cX10_day 65 = .ok (.aload_n 0, 1) := by decide +kernel
theorem dX10_day_66 : decode cX10_day 66 = .ok (.iload_n 1, 1) := by decide +kernel
theorem dX10_day_67 : decode cX10_day 67 = .ok (.invokevirtual 253, 3) := by decide +kernel
theorem dX10_day_70 : decode cX10_day 70 = .ok (.ireturn, 1) := by decide +kernel
theorem dX10_day_71 : decode cX10_day 71 = .ok (.aload_n 0, 1) := by decide +kernel
theorem dX10_day_72 : decode cX10_day 72 = .ok (.getfield 28, 3) := by decide +kernel
theorem dX10_day_75 : decode cX10_day 75 = .ok (.invokevirtual 256, 3) := by decide +kernel
theorem dX10_day_78 : decode cX10_day 78 = .ok (.ireturn, 1) := by decide +kernel
theorem dX10_day_79 : decode cX10_day 79 = .ok (.aload_n 0, 1) := by decide +kernel
theorem dX10_day_80 : decode cX10_day 80 = .ok (.getfield 28, 3) := by decide +kernel
theorem dX10_day_83 : decode cX10_day 83 = .ok (.invokevirtual 233, 3) := by decide +kernel
theorem dX10_day_86 : decode cX10_day 86 = .ok (.ireturn, 1) := by decide +kernel
theorem dX10_day_87 : decode cX10_day 87 = .ok (.aload_n 0, 1) := by decide +kernel
theorem dX10_day_88 : decode cX10_day 88 = .ok (.getfield 28, 3) := by decide +kernel
theorem dX10_day_91 : decode cX10_day 91 = .ok (.invokevirtual 257, 3) := by decide +kernel
theorem dX10_day_94 : decode cX10_day 94 = .ok (.ireturn, 1) := by decide +kernel
theorem dX10_day_95 : decode cX10_day 95 = .ok (.aload_n 0, 1) := by decide +kernel
theorem dX10_day_96 : decode cX10_day 96 = .ok (.getfield 20, 3) := by decide +kernel
theorem dX10_day_99 : decode cX10_day 99 = .ok (.ireturn, 1) := by decide +kernel
theorem dX10_day_100 : decode cX10_day 100 = .ok (.aload_n 0, 1) := by decide +kernel
theorem dX10_day_101 : decode cX10_day 101 = .ok (.getfield 38, 3) := by decide +kernel
theorem dX10_day_104 : decode cX10_day 104 = .ok (.ireturn, 1) := by decide +kernel
theorem dX10_day_105 : decode cX10_day 105 = .ok (.bipush (-3), 2) := by decide +kernel
theorem dX10_day_107 : decode cX10_day 107 = .ok (.ireturn, 1) := by decide +kernel
theorem dX10_gone_0 : decode cX10_gone 0 = .ok (.iload_n 1, 1) := by decide +kernel
theorem dX10_gone_1 : decode cX10_gone 1 = .ok (.invokestatic 45, 3) := by decide +kernel
theorem dX10_gone_4 : decode cX10_gone 4 = .ok (.ifCond .ne 6, 3) := by decide +kernel
theorem dX10_gone_7 : decode cX10_gone 7 = .ok (.bipush (-3), 2) := by decide +kernel
theorem dX10_gone_9 : decode cX10_gone 9 = .ok (.ireturn, 1) := by decide +kernel
theorem dX10_gone_10 : decode cX10_gone 10 = .ok (.iconst 0, 1) := by decide +kernel
theorem dX10_gone_11 : decode cX10_gone 11 = .ok (.istore_n 2, 1) := by decide +kernel
theorem dX10_gone_12 : decode cX10_gone 12 = .ok (.aload_n 0, 1) := by decide +kernel
theorem dX10_gone_13 : decode cX10_gone 13 = .ok (.getfield 28, 3) := by decide +kernel
theorem dX10_gone_16 : decode cX10_gone 16 = .ok (.getfield 185, 3) := by decide +kernel
theorem dX10_gone_19 : decode cX10_gone 19 = .ok (.astore_n 3, 1) := by decide +kernel
theorem dX10_gone_20 : decode cX10_gone 20 = .ok (.aload_n 3, 1) := by decide +kernel
theorem dX10_gone_21 : decode cX10_gone 21 = .ok (.arraylength, 1) := by decide +kernel
theorem dX10_gone_22 : decode cX10_gone 22 = .ok (.istore 4, 2) := by decide +kernel
theorem dX10_gone_24 : decode cX10_gone 24 = .ok (.iconst 0, 1) := by decide +kernel
theorem dX10_gone_25 : decode cX10_gone 25 = .ok (.istore 5, 2) := by decide +kernel
theorem dX10_gone_27 : decode cX10_gone 27 = .ok (.iload 5, 2) := by decide +kernel
theorem dX10_gone_29 : decode cX10_gone 29 = .ok (.iload 4, 2) := by decide +kernel
theorem dX10_gone_31 : decode cX10_gone 31 = .ok (.if_icmp .ge 35, 3) := by decide +kernel
theorem dX10_gone_34 : decode cX10_gone 34 = .ok (.aload_n 3, 1) := by decide +kernel
theorem dX10_gone_35 : decode cX10_gone 35 = .ok (.iload 5, 2) := by decide +kernel
theorem dX10_gone_37 : decode cX10_gone 37 = .ok (.aaload, 1) := by decide +kernel
theorem dX10_gone_38 : decode cX10_gone 38 = .ok (.astore 6, 2) := by decide +kernel
theorem dX10_gone_40 : decode cX10_gone 40 = .ok (.aload 6, 2) := by decide +kernel
theorem dX10_gone_42 : decode cX10_gone 42 = .ok (.getfield 201, 3) := by decide +kernel
theorem dX10_gone_45 : decode cX10_gone 45 = .ok (.ifnull 15, 3) := by decide +kernel
theorem dX10_gone_48 : decode cX10_gone 48 = .ok (.iload_n 2, 1) := by decide +kernel
theorem dX10_gone_49 : decode cX10_gone 49 = .ok (.aload 6, 2) := by decide +kernel
theorem dX10_gone_51 : decode cX10_gone 51 = .ok (.getfield 201, 3) := by decide +kernel
theorem dX10_gone_54 : decode cX10_gone 54 = .ok (.iload_n 1, 1) := by decide +kernel
theorem dX10_gone_55 : decode cX10_gone 55 = .ok (.invokevirtual 260, 3) := by decide +kernel
theorem dX10_gone_58 : decode cX10_gone 58 = .ok (.iadd, 1) := by decide +kernel
theorem dX10_gone_59 : decode cX10_gone 59 = .ok (.istore_n 2, 1) := by decide +kernel
theorem dX10_gone_60 : decode cX10_gone 60 = .ok (.iinc 5 1, 3) := by decide +kernel
theorem dX10_gone_63 : decode cX10_gone 63 = .ok (.goto (-36), 3) := by decide +kernel
theorem dX10_gone_66 : decode cX10_gone 66 = .ok (.iload_n 2, 1) := by decide +kernel
theorem dX10_gone_67 : decode cX10_gone 67 = .ok (.ireturn, 1) := by decide +kernel
theorem dX10_undo_0 : decode cX10_undo 0 = .ok (.aload_n 0, 1) := by decide +kernel
theorem dX10_undo_1 : decode cX10_undo 1 = .ok (.getfield 38, 3) := by decide +kernel
theorem dX10_undo_4 : decode cX10_undo 4 = .ok (.ifCond .gt 5, 3) := by decide +kernel
theorem dX10_undo_7 : decode cX10_undo 7 = .ok (.iconst (-1), 1) := by decide +kernel
theorem dX10_undo_8 : decode cX10_undo 8 = .ok (.ireturn, 1) := by decide +kernel
theorem dX10_undo_9 : decode cX10_undo 9 = .ok (.aload_n 0, 1) := by decide +kernel
theorem dX10_undo_10 : decode cX10_undo 10 = .ok (.dup, 1) := by decide +kernel
theorem dX10_undo_11 : decode cX10_undo 11 = .ok (.getfield 38, 3) := by decide +kernel
theorem dX10_undo_14 : decode cX10_undo 14 = .ok (.iconst 1, 1) := by decide +kernel
theorem dX10_undo_15 : decode cX10_undo 15 = .ok (.isub, 1) := by decide +kernel
theorem dX10_undo_16 : decode cX10_undo 16 = .ok (.putfield 38, 3) := by decide +kernel
theorem dX10_undo_19 : decode cX10_undo 19 = .ok (.aload_n 0, 1) := by decide +kernel
theorem dX10_undo_20 : decode cX10_undo 20 = .ok (.aload_n 0, 1) := by decide +kernel
theorem dX10_undo_21 : decode cX10_undo 21 = .ok (.getfield 34, 3) := by decide +kernel
theorem dX10_undo_24 : decode cX10_undo 24 = .ok (.aload_n 0, 1) := by decide +kernel
theorem dX10_undo_25 : decode cX10_undo 25 = .ok (.getfield 38, 3) := by decide +kernel
theorem dX10_undo_28 : decode cX10_undo 28 = .ok (.aaload, 1) := by decide +kernel
theorem dX10_undo_29 : decode cX10_undo 29 = .ok (.putfield 28, 3) := by decide +kernel
theorem dX10_undo_32 : decode cX10_undo 32 = .ok (.aload_n 0, 1) := by decide +kernel
theorem dX10_undo_33 : decode cX10_undo 33 = .ok (.getfield 38, 3) := by decide +kernel
theorem dX10_undo_36 : decode cX10_undo 36 = .ok (.ireturn, 1) := by decide +kernel
theorem dX10_within_0 : decode cX10_within 0 = .ok (.iload_n 0, 1) := by decide +kernel
theorem dX10_within_1 : decode cX10_within 1 = .ok (.iload_n 1, 1) := by decide +kernel
theorem dX10_within_2 : decode cX10_within 2 = .ok (.if_icmp .lt 12, 3) := by decide +kernel
theorem dX10_within_5 : decode cX10_within 5 = .ok (.iload_n 0, 1) := by decide +kernel
theorem dX10_within_6 : decode cX10_within 6 = .ok (.iload_n 2, 1) := by decide +kernel
theorem dX10_within_7 : decode cX10_within 7 = .ok (.if_icmp .gt 7, 3) := by decide +kernel
theorem dX10_within_10 : decode cX10_within 10 = .ok (.iconst 1, 1) := by decide +kernel
theorem dX10_within_11 : decode cX10_within 11 = .ok (.goto 4, 3) := by decide +kernel
theorem dX10_within_14 : decode cX10_within 14 = .ok (.iconst 0, 1) := by decide +kernel
theorem dX10_within_15 : decode cX10_within 15 = .ok (.ireturn, 1) := by decide +kernel
theorem dX10_isPlace_0 : decode cX10_isPlace 0 = .ok (.iload_n 0, 1) := by decide +kernel
theorem dX10_isPlace_1 : decode cX10_isPlace 1 = .ok (.iconst 0, 1) := by decide +kernel
theorem dX10_isPlace_2 : decode cX10_isPlace 2 = .ok (.bipush 9, 2) := by decide +kernel
theorem dX10_isPlace_4 : decode cX10_isPlace 4 = .ok (.invokestatic 48, 3) := by decide +kernel
theorem dX10_isPlace_7 : decode cX10_isPlace 7 = .ok (.ireturn, 1) := by decide +kernel
theorem dX10_isFace_0 : decode cX10_isFace 0 = .ok (.iload_n 0, 1) := by decide +kernel
theorem dX10_isFace_1 : decode cX10_isFace 1 = .ok (.iconst 1, 1) := by decide +kernel
theorem dX10_isFace_2 : decode cX10_isFace 2 = .ok (.sipush 500, 3) := by decide +kernel
theorem dX10_isFace_5 : decode cX10_isFace 5 = .ok (.invokestatic 48, 3) := by decide +kernel
theorem dX10_isFace_8 : decode cX10_isFace 8 = .ok (.ireturn, 1) := by decide +kernel
theorem dX10_isWay_0 : decode cX10_isWay 0 = .ok (.iload_n 0, 1) := by decide +kernel
theorem dX10_isWay_1 : decode cX10_isWay 1 = .ok (.iconst 0, 1) := by decide +kernel
theorem dX10_isWay_2 : decode cX10_isWay 2 = .ok (.iconst 5, 1) := by decide +kernel
theorem dX10_isWay_3 : decode cX10_isWay 3 = .ok (.invokestatic 48, 3) := by decide +kernel
theorem dX10_isWay_6 : decode cX10_isWay 6 = .ok (.ireturn, 1) := by decide +kernel
theorem dX10_isLetter_0 : decode cX10_isLetter 0 = .ok (.iload_n 1, 1) := by decide +kernel
theorem dX10_isLetter_1 : decode cX10_isLetter 1 = .ok (.iconst 0, 1) := by decide +kernel
theorem dX10_isLetter_2 : decode cX10_isLetter 2 = .ok (.aload_n 0, 1) := by decide +kernel
theorem dX10_isLetter_3 : decode cX10_isLetter 3 = .ok (.getfield 28, 3) := by decide +kernel
theorem dX10_isLetter_6 : decode cX10_isLetter 6 = .ok (.getfield 185, 3) := by decide +kernel
theorem dX10_isLetter_9 : decode cX10_isLetter 9 = .ok (.arraylength, 1) := by decide +kernel
theorem dX10_isLetter_10 : decode cX10_isLetter 10 = .ok (.iconst 1, 1) := by decide +kernel
theorem dX10_isLetter_11 : decode cX10_isLetter 11 = .ok (.isub, 1) := by decide +kernel
theorem dX10_isLetter_12 : decode cX10_isLetter 12 = .ok (.invokestatic 48, 3) := by decide +kernel
theorem dX10_isLetter_15 : decode cX10_isLetter 15 = .ok (.ireturn, 1) := by decide +kernel
theorem dX10_isWeight_0 : decode cX10_isWeight 0 = .ok (.fload_n 0, 1) := by decide +kernel
theorem dX10_isWeight_1 : decode cX10_isWeight 1 = .ok (.fconst 0, 1) := by decide +kernel
theorem dX10_isWeight_2 : decode cX10_isWeight 2 = .ok (.fcmp .l, 1) := by decide +kernel
theorem dX10_isWeight_3 : decode cX10_isWeight 3 = .ok (.ifCond .lt 15, 3) := by decide +kernel
theorem dX10_isWeight_6 : decode cX10_isWeight 6 = .ok (.fload_n 0, 1) := by decide +kernel
theorem dX10_isWeight_7 : decode cX10_isWeight 7 = .ok (.ldc_w 263, 3) := by decide +kernel
theorem dX10_isWeight_10 : decode cX10_isWeight 10 = .ok (.fcmp .g, 1) := by decide +kernel
theorem dX10_isWeight_11 : decode cX10_isWeight 11 = .ok (.ifCond .gt 7, 3) := by decide +kernel
theorem dX10_isWeight_14 : decode cX10_isWeight 14 = .ok (.iconst 1, 1) := by decide +kernel
theorem dX10_isWeight_15 : decode cX10_isWeight 15 = .ok (.goto 4, 3) := by decide +kernel
theorem dX10_isWeight_18 : decode cX10_isWeight 18 = .ok (.iconst 0, 1) := by decide +kernel
theorem dX10_isWeight_19 : decode cX10_isWeight 19 = .ok (.ireturn, 1) := by decide +kernel
theorem dX10_wholeGrams_0 : decode cX10_wholeGrams 0 = .ok (.fload_n 0, 1) := by decide +kernel
theorem dX10_wholeGrams_1 : decode cX10_wholeGrams 1 = .ok (.f2i, 1) := by decide +kernel
theorem dX10_wholeGrams_2 : decode cX10_wholeGrams 2 = .ok (.istore_n 1, 1) := by decide +kernel
theorem dX10_wholeGrams_3 : decode cX10_wholeGrams 3 = .ok (.iload_n 1, 1) := by decide +kernel
theorem dX10_wholeGrams_4 : decode cX10_wholeGrams 4 = .ok (.i2f, 1) := by decide +kernel
theorem dX10_wholeGrams_5 : decode cX10_wholeGrams 5 = .ok (.fload_n 0, 1) := by decide +kernel
theorem dX10_wholeGrams_6 : decode cX10_wholeGrams 6 = .ok (.fcmp .g, 1) := by decide +kernel
theorem dX10_wholeGrams_7 : decode cX10_wholeGrams 7 = .ok (.ifCond .ge 9, 3) := by decide +kernel
theorem dX10_wholeGrams_10 : decode cX10_wholeGrams 10 = .ok (.iload_n 1, 1) := by decide +kernel
theorem dX10_wholeGrams_11 : decode cX10_wholeGrams 11 = .ok (.iconst 1, 1) := by decide +kernel
theorem dX10_wholeGrams_12 : decode cX10_wholeGrams 12 = .ok (.iadd, 1) := by decide +kernel
theorem dX10_wholeGrams_13 : decode cX10_wholeGrams 13 = .ok (.goto 4, 3) := by decide +kernel
theorem dX10_wholeGrams_16 : decode cX10_wholeGrams 16 = .ok (.iload_n 1, 1) := by decide +kernel
theorem dX10_wholeGrams_17 : decode cX10_wholeGrams 17 = .ok (.ireturn, 1) := by decide +kernel
theorem dX10_emptyState_0 : decode cX10_emptyState 0 = .ok (.bipush 6, 2) := by decide +kernel
theorem dX10_emptyState_2 : decode cX10_emptyState 2 = .ok (.anewarray 144, 3) := by decide +kernel
theorem dX10_emptyState_5 : decode cX10_emptyState 5 = .ok (.astore_n 0, 1) := by decide +kernel
theorem dX10_emptyState_6 : decode cX10_emptyState 6 = .ok (.new 144, 3) := by decide +kernel
theorem dX10_emptyState_9 : decode cX10_emptyState 9 = .ok (.dup, 1) := by decide +kernel
theorem dX10_emptyState_10 : decode cX10_emptyState 10 = .ok (.iconst 0, 1) := by decide +kernel
theorem dX10_emptyState_11 : decode cX10_emptyState 11 = .ok (.newarray .int, 2) := by decide +kernel
theorem dX10_emptyState_13 : decode cX10_emptyState 13 = .ok (.iconst 0, 1) := by decide +kernel
theorem dX10_emptyState_14 : decode cX10_emptyState 14 = .ok (.newarray .int, 2) := by decide +kernel
theorem dX10_emptyState_16 : decode cX10_emptyState 16 = .ok (.invokespecial 264, 3) := by decide +kernel
theorem dX10_emptyState_19 : decode cX10_emptyState 19 = .ok (.astore_n 1, 1) := by decide +kernel
theorem dX10_emptyState_20 : decode cX10_emptyState 20 = .ok (.iconst 0, 1) := by decide +kernel
theorem dX10_emptyState_21 : decode cX10_emptyState 21 = .ok (.istore_n 2, 1) := by decide +kernel
theorem dX10_emptyState_22 : decode cX10_emptyState 22 = .ok (.iload_n 2, 1) := by decide +kernel
theorem dX10_emptyState_23 : decode cX10_emptyState 23 = .ok (.bipush 6, 2) := by decide +kernel
theorem dX10_emptyState_25 : decode cX10_emptyState 25 = .ok (.if_icmp .ge 13, 3) := by decide +kernel
theorem dX10_emptyState_28 : decode cX10_emptyState 28 = .ok (.aload_n 0, 1) := by decide +kernel
theorem dX10_emptyState_29 : decode cX10_emptyState 29 = .ok (.iload_n 2, 1) := by decide +kernel
theorem dX10_emptyState_30 : decode cX10_emptyState 30 = .ok (.aload_n 1, 1) := by decide +kernel
theorem dX10_emptyState_31 : decode cX10_emptyState 31 = .ok (.aastore, 1) := by decide +kernel
theorem dX10_emptyState_32 : decode cX10_emptyState 32 = .ok (.iinc 2 1, 3) := by decide +kernel
theorem dX10_emptyState_35 : decode cX10_emptyState 35 = .ok (.goto (-13), 3) := by decide +kernel
theorem dX10_emptyState_38 : decode cX10_emptyState 38 = .ok (.new 32, 3) := by decide +kernel
theorem dX10_emptyState_41 : decode cX10_emptyState 41 = .ok (.dup, 1) := by decide +kernel
theorem dX10_emptyState_42 : decode cX10_emptyState 42 = .ok (.bipush 10, 2) := by decide +kernel
theorem dX10_emptyState_44 : decode cX10_emptyState 44 = .ok (.anewarray 52, 3) := by decide +kernel
theorem dX10_emptyState_47 : decode cX10_emptyState 47 = .ok (.iconst 0, 1) := by decide +kernel
theorem dX10_emptyState_48 : decode cX10_emptyState 48 = .ok (.anewarray 189, 3) := by decide +kernel
theorem dX10_emptyState_51 : decode cX10_emptyState 51 = .ok (.aload_n 0, 1) := by decide +kernel
theorem dX10_emptyState_52 : decode cX10_emptyState 52 = .ok (.iconst 4, 1) := by decide +kernel
theorem dX10_emptyState_53 : decode cX10_emptyState 53 = .ok (.newarray .int, 2) := by decide +kernel
theorem dX10_emptyState_55 : decode cX10_emptyState 55 = .ok (.invokespecial 267, 3) := by decide +kernel
theorem dX10_emptyState_58 : decode cX10_emptyState 58 = .ok (.areturn, 1) := by decide +kernel
theorem dX10_putNew_0 : decode cX10_putNew 0 = .ok (.aload_n 0, 1) := by decide +kernel
theorem dX10_putNew_1 : decode cX10_putNew 1 = .ok (.getfield 28, 3) := by decide +kernel
theorem dX10_putNew_4 : decode cX10_putNew 4 = .ok (.getfield 66, 3) := by decide +kernel
theorem dX10_putNew_7 : decode cX10_putNew 7 = .ok (.iload_n 1, 1) := by decide +kernel
theorem dX10_putNew_8 : decode cX10_putNew 8 = .ok (.aaload, 1) := by decide +kernel
theorem dX10_putNew_9 : decode cX10_putNew 9 = .ok (.ifnull 6, 3) := by decide +kernel
theorem dX10_putNew_12 : decode cX10_putNew 12 = .ok (.bipush (-4), 2) := by decide +kernel
theorem dX10_putNew_14 : decode cX10_putNew 14 = .ok (.ireturn, 1) := by decide +kernel
theorem dX10_putNew_15 : decode cX10_putNew 15 = .ok (.aload_n 0, 1) := by decide +kernel
theorem dX10_putNew_16 : decode cX10_putNew 16 = .ok (.aload_n 0, 1) := by decide +kernel
theorem dX10_putNew_17 : decode cX10_putNew 17 = .ok (.getfield 28, 3) := by decide +kernel
theorem dX10_putNew_20 : decode cX10_putNew 20 = .ok (.iload_n 1, 1) := by decide +kernel
theorem dX10_putNew_21 : decode cX10_putNew 21 = .ok (.aload_n 2, 1) := by decide +kernel
theorem dX10_putNew_22 : decode cX10_putNew 22 = .ok (.invokevirtual 98, 3) := by decide +kernel
theorem dX10_putNew_25 : decode cX10_putNew 25 = .ok (.invokevirtual 102, 3) := by decide +kernel
theorem dX10_putNew_28 : decode cX10_putNew 28 = .ok (.aload_n 2, 1) := by decide +kernel
theorem dX10_putNew_29 : decode cX10_putNew 29 = .ok (.getfield 122, 3) := by decide +kernel
theorem dX10_putNew_32 : decode cX10_putNew 32 = .ok (.ireturn, 1) := by decide +kernel
theorem dX10_act_0 : decode cX10_act 0 = .ok (.aload_n 0, 1) := by decide +kernel
theorem dX10_act_1 : decode cX10_act 1 = .ok (.getfield 38, 3) := by decide +kernel
theorem dX10_act_4 : decode cX10_act 4 = .ok (.bipush 32, 2) := by decide +kernel
theorem dX10_act_6 : decode cX10_act 6 = .ok (.if_icmp .lt 37, 3) := by decide +kernel
theorem dX10_act_9 : decode cX10_act 9 = .ok (.iconst 1, 1) := by decide +kernel
theorem dX10_act_10 : decode cX10_act 10 = .ok (.istore_n 2, 1) := by decide +kernel
theorem dX10_act_11 : decode cX10_act 11 = .ok (.iload_n 2, 1) := by decide +kernel
theorem dX10_act_12 : decode cX10_act 12 = .ok (.bipush 32, 2) := by decide +kernel
theorem dX10_act_14 : decode cX10_act 14 = .ok (.if_icmp .ge 23, 3) := by decide +kernel
theorem dX10_act_17 : decode cX10_act 17 = .ok (.aload_n 0, 1) := by decide +kernel
theorem dX10_act_18 : decode cX10_act 18 = .ok (.getfield 34, 3) := by decide +kernel
theorem dX10_act_21 : decode cX10_act 21 = .ok (.iload_n 2, 1) := by decide +kernel
theorem dX10_act_22 : decode cX10_act 22 = .ok (.iconst 1, 1) := by decide +kernel
theorem dX10_act_23 : decode cX10_act 23 = .ok (.isub, 1) := by decide +kernel
theorem dX10_act_24 : decode cX10_act 24 = .ok (.aload_n 0, 1) := by decide +kernel
theorem dX10_act_25 : decode cX10_act 25 = .ok (.getfield 34, 3) := by decide +kernel
theorem dX10_act_28 : decode cX10_act 28 = .ok (.iload_n 2, 1) := by decide +kernel
theorem dX10_act_29 : decode cX10_act 29 = .ok (.aaload, 1) := by decide +kernel
theorem dX10_act_30 : decode cX10_act 30 = .ok (.aastore, 1) := by decide +kernel
theorem dX10_act_31 : decode cX10_act 31 = .ok (.iinc 2 1, 3) := by decide +kernel
theorem dX10_act_34 : decode cX10_act 34 = .ok (.goto (-23), 3) := by decide +kernel
theorem dX10_act_37 : decode cX10_act 37 = .ok (.aload_n 0, 1) := by decide +kernel
theorem dX10_act_38 : decode cX10_act 38 = .ok (.bipush 31, 2) := by decide +kernel
theorem dX10_act_40 : decode cX10_act 40 = .ok (.putfield 38, 3) := by decide +kernel
theorem dX10_act_43 : decode cX10_act 43 = .ok (.aload_n 0, 1) := by decide +kernel
theorem dX10_act_44 : decode cX10_act 44 = .ok (.getfield 34, 3) := by decide +kernel
theorem dX10_act_47 : decode cX10_act 47 = .ok (.aload_n 0, 1) := by decide +kernel
theorem dX10_act_48 : decode cX10_act 48 = .ok (.getfield 38, 3) := by decide +kernel
theorem dX10_act_51 : decode cX10_act 51 = .ok (.aload_n 0, 1) := by decide +kernel
theorem dX10_act_52 : decode cX10_act 52 = .ok (.getfield 28, 3) := by decide +kernel
theorem dX10_act_55 : decode cX10_act 55 = .ok (.aastore, 1) := by decide +kernel
theorem dX10_act_56 : decode cX10_act 56 = .ok (.aload_n 0, 1) := by decide +kernel
theorem dX10_act_57 : decode cX10_act 57 = .ok (.dup, 1) := by decide +kernel
theorem dX10_act_58 : decode cX10_act 58 = .ok (.getfield 38, 3) := by decide +kernel
theorem dX10_act_61 : decode cX10_act 61 = .ok (.iconst 1, 1) := by decide +kernel
theorem dX10_act_62 : decode cX10_act 62 = .ok (.iadd, 1) := by decide +kernel
theorem dX10_act_63 : decode cX10_act 63 = .ok (.putfield 38, 3) := by decide +kernel
theorem dX10_act_66 : decode cX10_act 66 = .ok (.aload_n 0, 1) := by decide +kernel
theorem dX10_act_67 : decode cX10_act 67 = .ok (.aload_n 1, 1) := by decide +kernel
theorem dX10_act_68 : decode cX10_act 68 = .ok (.putfield 28, 3) := by decide +kernel
theorem dX10_act_71 : decode cX10_act 71 = .ok (.return_, 1) := by decide +kernel
theorem dX10_leastFrom_0 : decode cX10_leastFrom 0 = .ok (.aload_n 0, 1) := by decide +kernel
theorem dX10_leastFrom_1 : decode cX10_leastFrom 1 = .ok (.getfield 28, 3) := by decide +kernel
theorem dX10_leastFrom_4 : decode cX10_leastFrom 4 = .ok (.invokevirtual 233, 3) := by decide +kernel
theorem dX10_leastFrom_7 : decode cX10_leastFrom 7 = .ok (.istore_n 2, 1) := by decide +kernel
theorem dX10_leastFrom_8 : decode cX10_leastFrom 8 = .ok (.iload_n 2, 1) := by decide +kernel
theorem dX10_leastFrom_9 : decode cX10_leastFrom 9 = .ok (.iload_n 1, 1) := by decide +kernel
theorem dX10_leastFrom_10 : decode cX10_leastFrom 10 = .ok (.if_icmp .ge 5, 3) := by decide +kernel
theorem dX10_leastFrom_13 : decode cX10_leastFrom 13 = .ok (.iconst (-1), 1) := by decide +kernel
theorem dX10_leastFrom_14 : decode cX10_leastFrom 14 = .ok (.ireturn, 1) := by decide +kernel
theorem dX10_leastFrom_15 : decode cX10_leastFrom 15 = .ok (.aload_n 0, 1) := by decide +kernel
theorem dX10_leastFrom_16 : decode cX10_leastFrom 16 = .ok (.getfield 12, 3) := by decide +kernel
theorem dX10_leastFrom_19 : decode cX10_leastFrom 19 = .ok (.aload_n 0, 1) := by decide +kernel
theorem dX10_leastFrom_20 : decode cX10_leastFrom 20 = .ok (.getfield 28, 3) := by decide +kernel
theorem dX10_leastFrom_23 : decode cX10_leastFrom 23 = .ok (.getfield 66, 3) := by decide +kernel
theorem dX10_leastFrom_26 : decode cX10_leastFrom 26 = .ok (.iload_n 2, 1) := by decide +kernel
theorem dX10_leastFrom_27 : decode cX10_leastFrom 27 = .ok (.iload_n 1, 1) := by decide +kernel
theorem dX10_leastFrom_28 : decode cX10_leastFrom 28 = .ok (.sipush 1000, 3) := by decide +kernel
theorem dX10_leastFrom_31 : decode cX10_leastFrom 31 = .ok (.iadd, 1) := by decide +kernel
theorem dX10_leastFrom_32 : decode cX10_leastFrom 32 = .ok (.iconst 1, 1) := by decide +kernel
theorem dX10_leastFrom_33 : decode cX10_leastFrom 33 = .ok (.isub, 1) := by decide +kernel
theorem dX10_leastFrom_34 : decode cX10_leastFrom 34 = .ok (.invokestatic 270, 3) := by decide +kernel
theorem dX10_leastFrom_37 : decode cX10_leastFrom 37 = .ok (.invokevirtual 246, 3) := by decide +kernel
theorem dX10_leastFrom_40 : decode cX10_leastFrom 40 = .ok (.aload_n 0, 1) := by decide +kernel
theorem dX10_leastFrom_41 : decode cX10_leastFrom 41 = .ok (.getfield 12, 3) := by decide +kernel
theorem dX10_leastFrom_44 : decode cX10_leastFrom 44 = .ok (.iload_n 1, 1) := by decide +kernel
theorem dX10_leastFrom_45 : decode cX10_leastFrom 45 = .ok (.invokevirtual 273, 3) := by decide +kernel
theorem dX10_leastFrom_48 : decode cX10_leastFrom 48 = .ok (.ireturn, 1) := by decide +kernel
theorem dX10_dayOfPaid_0 : decode cX10_dayOfPaid 0 = .ok (.iconst 0, 1) := by decide +kernel
theorem dX10_dayOfPaid_1 : decode cX10_dayOfPaid 1 = .ok (.istore_n 2, 1) := by decide +kernel
theorem dX10_dayOfPaid_2 : decode cX10_dayOfPaid 2 = .ok (.aload_n 0, 1) := by decide +kernel
theorem dX10_dayOfPaid_3 : decode cX10_dayOfPaid 3 = .ok (.getfield 28, 3) := by decide +kernel
theorem dX10_dayOfPaid_6 : decode cX10_dayOfPaid 6 = .ok (.getfield 185, 3) := by decide +kernel
theorem dX10_dayOfPaid_9 : decode cX10_dayOfPaid 9 = .ok (.astore_n 3, 1) := by decide +kernel
theorem dX10_dayOfPaid_10 : decode cX10_dayOfPaid 10 = .ok (.aload_n 3, 1) := by decide +kernel
theorem dX10_dayOfPaid_11 : decode cX10_dayOfPaid 11 = .ok (.arraylength, 1) := by decide +kernel
theorem dX10_dayOfPaid_12 : decode cX10_dayOfPaid 12 = .ok (.istore 4, 2) := by decide +kernel
theorem dX10_dayOfPaid_14 : decode cX10_dayOfPaid 14 = .ok (.iconst 0, 1) := by decide +kernel
theorem dX10_dayOfPaid_15 : decode cX10_dayOfPaid 15 = .ok (.istore 5, 2) := by decide +kernel
theorem dX10_dayOfPaid_17 : decode cX10_dayOfPaid 17 = .ok (.iload 5, 2) := by decide +kernel
theorem dX10_dayOfPaid_19 : decode cX10_dayOfPaid 19 = .ok (.iload 4, 2) := by decide +kernel
theorem dX10_dayOfPaid_21 : decode cX10_dayOfPaid 21 = .ok (.if_icmp .ge 91, 3) := by decide +kernel
theorem dX10_dayOfPaid_24 : decode cX10_dayOfPaid 24 = .ok (.aload_n 3, 1) := by decide +kernel
theorem dX10_dayOfPaid_25 : decode cX10_dayOfPaid 25 = .ok (.iload 5, 2) := by decide +kernel
theorem dX10_dayOfPaid_27 : decode cX10_dayOfPaid 27 = .ok (.aaload, 1) := by decide +kernel
theorem dX10_dayOfPaid_28 : decode cX10_dayOfPaid 28 = .ok (.astore 6, 2) := by decide +kernel
theorem dX10_dayOfPaid_30 : decode cX10_dayOfPaid 30 = .ok (.aload 6, 2) := by decide +kernel
theorem dX10_dayOfPaid_32 : decode cX10_dayOfPaid 32 = .ok (.getfield 201, 3) := by decide +kernel
theorem dX10_dayOfPaid_35 : decode cX10_dayOfPaid 35 = .ok (.ifnull 71, 3) := by decide +kernel
theorem dX10_dayOfPaid_38 : decode cX10_dayOfPaid 38 = .ok (.iload_n 1, 1) := by decide +kernel
theorem dX10_dayOfPaid_39 : decode cX10_dayOfPaid 39 = .ok (.tableswitch 56 1 3 #[25, 31, 42], 25) := by decide +kernel
theorem dX10_dayOfPaid_64 : decode cX10_dayOfPaid 64 = .ok (.iinc 2 1, 3) := by decide +kernel
theorem dX10_dayOfPaid_67 : decode cX10_dayOfPaid 67 = .ok (.goto 39, 3) := by decide +kernel
theorem dX10_dayOfPaid_70 : decode cX10_dayOfPaid 70 = .ok (.iload_n 2, 1) := by decide +kernel
theorem dX10_dayOfPaid_71 : decode cX10_dayOfPaid 71 = .ok (.aload 6, 2) := by decide +kernel
theorem dX10_dayOfPaid_73 : decode cX10_dayOfPaid 73 = .ok (.getfield 205, 3) := by decide +kernel
theorem dX10_dayOfPaid_76 : decode cX10_dayOfPaid 76 = .ok (.iadd, 1) := by decide +kernel
theorem dX10_dayOfPaid_77 : decode cX10_dayOfPaid 77 = .ok (.istore_n 2, 1) := by decide +kernel
theorem dX10_dayOfPaid_78 : decode cX10_dayOfPaid 78 = .ok (.goto 28, 3) := by decide +kernel
theorem dX10_dayOfPaid_81 : decode cX10_dayOfPaid 81 = .ok (.iload_n 2, 1) := by decide +kernel
theorem dX10_dayOfPaid_82 : decode cX10_dayOfPaid 82 = .ok (.aload 6, 2) := by decide +kernel
theorem dX10_dayOfPaid_84 : decode cX10_dayOfPaid 84 = .ok (.getfield 201, 3) := by decide +kernel
theorem dX10_dayOfPaid_87 : decode cX10_dayOfPaid 87 = .ok (.getfield 227, 3) := by decide +kernel
theorem dX10_dayOfPaid_90 : decode cX10_dayOfPaid 90 = .ok (.iadd, 1) := by decide +kernel
theorem dX10_dayOfPaid_91 : decode cX10_dayOfPaid 91 = .ok (.istore_n 2, 1) := by decide +kernel
theorem dX10_dayOfPaid_92 : decode cX10_dayOfPaid 92 = .ok (.goto 14, 3) := by decide +kernel
theorem dX10_dayOfPaid_95 : decode cX10_dayOfPaid 95 = .ok (.iload_n 2, 1) := by decide +kernel
theorem dX10_dayOfPaid_96 : decode cX10_dayOfPaid 96 = .ok (.aload 6, 2) := by decide +kernel
theorem dX10_dayOfPaid_98 : decode cX10_dayOfPaid 98 = .ok (.getfield 201, 3) := by decide +kernel
theorem dX10_dayOfPaid_101 : decode cX10_dayOfPaid 101 = .ok (.invokevirtual 230, 3) := by decide +kernel
theorem dX10_dayOfPaid_104 : decode cX10_dayOfPaid 104 = .ok (.iadd, 1) := by decide +kernel
theorem dX10_dayOfPaid_105 : decode cX10_dayOfPaid 105 = .ok (.istore_n 2, 1) := by decide +kernel
theorem dX10_dayOfPaid_106 : decode cX10_dayOfPaid 106 = .ok (.iinc 5 1, 3) := by decide +kernel
theorem dX10_dayOfPaid_109 : decode cX10_dayOfPaid 109 = .ok (.goto (-92), 3) := by decide +kernel
theorem dX10_dayOfPaid_112 : decode cX10_dayOfPaid 112 = .ok (.iload_n 2, 1) := by decide +kernel
theorem dX10_dayOfPaid_113 : decode cX10_dayOfPaid 113 = .ok (.ireturn, 1) := by decide +kernel
theorem dX11_init_0 : decode cX11_init 0 = .ok (.aload_n 0, 1) := by decide +kernel
theorem dX11_init_1 : decode cX11_init 1 = .ok (.invokespecial 1, 3) := by decide +kernel
theorem dX11_init_4 : decode cX11_init 4 = .ok (.aload_n 0, 1) := by decide +kernel
theorem dX11_init_5 : decode cX11_init 5 = .ok (.sipush 3828, 3) := by decide +kernel
theorem dX11_init_8 : decode cX11_init 8 = .ok (.newarray .int, 2) := by decide +kernel
theorem dX11_init_10 : decode cX11_init 10 = .ok (.putfield 7, 3) := by decide +kernel
theorem dX11_init_13 : decode cX11_init 13 = .ok (.aload_n 0, 1) := by decide +kernel
theorem dX11_init_14 : decode cX11_init 14 = .ok (.ldc 13, 2) := by decide +kernel
theorem dX11_init_16 : decode cX11_init 16 = .ok (.newarray .int, 2) := by decide +kernel
theorem dX11_init_18 : decode cX11_init 18 = .ok (.putfield 14, 3) := by decide +kernel
theorem dX11_init_21 : decode cX11_init 21 = .ok (.aload_n 0, 1) := by decide +kernel
theorem dX11_init_22 : decode cX11_init 22 = .ok (.bipush 40, 2) := by decide +kernel
theorem dX11_init_24 : decode cX11_init 24 = .ok (.newarray .int, 2) := by decide +kernel
theorem dX11_init_26 : decode cX11_init 26 = .ok (.putfield 17, 3) := by decide +kernel
theorem dX11_init_29 : decode cX11_init 29 = .ok (.aload_n 0, 1) := by decide +kernel
theorem dX11_init_30 : decode cX11_init 30 = .ok (.bipush 64, 2) := by decide +kernel
theorem dX11_init_32 : decode cX11_init 32 = .ok (.newarray .int, 2) := by decide +kernel
theorem dX11_init_34 : decode cX11_init 34 = .ok (.putfield 20, 3) := by decide +kernel
theorem dX11_init_37 : decode cX11_init 37 = .ok (.aload_n 0, 1) := by decide +kernel
theorem dX11_init_38 : decode cX11_init 38 = .ok (.ldc 23, 2) := by decide +kernel
theorem dX11_init_40 : decode cX11_init 40 = .ok (.newarray .int, 2) := by decide +kernel
theorem dX11_init_42 : decode cX11_init 42 = .ok (.putfield 24, 3) := by decide +kernel
theorem dX11_init_45 : decode cX11_init 45 = .ok (.iconst 0, 1) := by decide +kernel
theorem dX11_init_46 : decode cX11_init 46 = .ok (.istore_n 1, 1) := by decide +kernel
theorem dX11_init_47 : decode cX11_init 47 = .ok (.iload_n 1, 1) := by decide +kernel
theorem dX11_init_48 : decode cX11_init 48 = .ok (.bipush 10, 2) := by decide +kernel
theorem dX11_init_50 : decode cX11_init 50 = .ok (.if_icmp .ge 18, 3) := by decide +kernel
theorem dX11_init_53 : decode cX11_init 53 = .ok (.aload_n 0, 1) := by decide +kernel
theorem dX11_init_54 : decode cX11_init 54 = .ok (.getfield 7, 3) := by decide +kernel
theorem dX11_init_57 : decode cX11_init 57 = .ok (.iconst 0, 1) := by decide +kernel
theorem dX11_init_58 : decode cX11_init 58 = .ok (.iload_n 1, 1) := by decide +kernel
theorem dX11_init_59 : decode cX11_init 59 = .ok (.iadd, 1) := by decide +kernel
theorem dX11_init_60 : decode cX11_init 60 = .ok (.iconst (-1), 1) := by decide +kernel
theorem dX11_init_61 : decode cX11_init 61 = .ok (.iastore, 1) := by decide +kernel
theorem dX11_init_62 : decode cX11_init 62 = .ok (.iinc 1 1, 3) := by decide +kernel
theorem dX11_init_65 : decode cX11_init 65 = .ok (.goto (-18), 3) := by decide +kernel
theorem dX11_init_68 : decode cX11_init 68 = .ok (.return_, 1) := by decide +kernel
theorem dX11_in_0 : decode cX11_in 0 = .ok (.iload_n 0, 1) := by decide +kernel
theorem dX11_in_1 : decode cX11_in 1 = .ok (.iload_n 1, 1) := by decide +kernel
theorem dX11_in_2 : decode cX11_in 2 = .ok (.if_icmp .lt 12, 3) := by decide +kernel
theorem dX11_in_5 : decode cX11_in 5 = .ok (.iload_n 0, 1) := by decide +kernel
theorem dX11_in_6 : decode cX11_in 6 = .ok (.iload_n 2, 1) := by decide +kernel
theorem dX11_in_7 : decode cX11_in 7 = .ok (.if_icmp .gt 7, 3) := by decide +kernel
theorem dX11_in_10 : decode cX11_in 10 = .ok (.iconst 1, 1) := by decide +kernel
theorem dX11_in_11 : decode cX11_in 11 = .ok (.goto 4, 3) := by decide +kernel
theorem dX11_in_14 : decode cX11_in 14 = .ok (.iconst 0, 1) := by decide +kernel
theorem dX11_in_15 : decode cX11_in 15 = .ok (.ireturn, 1) := by decide +kernel
theorem dX11_keep_0 : decode cX11_keep 0 = .ok (.iconst 0, 1) := by decide +kernel
theorem dX11_keep_1 : decode cX11_keep 1 = .ok (.istore_n 1, 1) := by decide +kernel
theorem dX11_keep_2 : decode cX11_keep 2 = .ok (.iload_n 1, 1) := by decide +kernel
theorem dX11_keep_3 : decode cX11_keep 3 = .ok (.sipush 3828, 3) := by decide +kernel
theorem dX11_keep_6 : decode cX11_keep 6 = .ok (.if_icmp .ge 30, 3) := by decide +kernel
theorem dX11_keep_9 : decode cX11_keep 9 = .ok (.aload_n 0, 1) := by decide +kernel
theorem dX11_keep_10 : decode cX11_keep 10 = .ok (.getfield 14, 3) := by decide +kernel
theorem dX11_keep_13 : decode cX11_keep 13 = .ok (.sipush 3828, 3) := by decide +kernel
theorem dX11_keep_16 : decode cX11_keep 16 = .ok (.aload_n 0, 1) := by decide +kernel
theorem dX11_keep_17 : decode cX11_keep 17 = .ok (.getfield 31, 3) := by decide +kernel
theorem dX11_keep_20 : decode cX11_keep 20 = .ok (.imul, 1) := by decide +kernel
theorem dX11_keep_21 : decode cX11_keep 21 = .ok (.iload_n 1, 1) := by decide +kernel
theorem dX11_keep_22 : decode cX11_keep 22 = .ok (.iadd, 1) := by decide +kernel
theorem dX11_keep_23 : decode cX11_keep 23 = .ok (.aload_n 0, 1) := by decide +kernel
theorem dX11_keep_24 : decode cX11_keep 24 = .ok (.getfield 7, 3) := by decide +kernel
theorem dX11_keep_27 : decode cX11_keep 27 = .ok (.iload_n 1, 1) := by decide +kernel
theorem dX11_keep_28 : decode cX11_keep 28 = .ok (.iaload, 1) := by decide +kernel
theorem dX11_keep_29 : decode cX11_keep 29 = .ok (.iastore, 1) := by decide +kernel
theorem dX11_keep_30 : decode cX11_keep 30 = .ok (.iinc 1 1, 3) := by decide +kernel
theorem dX11_keep_33 : decode cX11_keep 33 = .ok (.goto (-31), 3) := by decide +kernel
theorem dX11_keep_36 : decode cX11_keep 36 = .ok (.aload_n 0, 1) := by decide +kernel
theorem dX11_keep_37 : decode cX11_keep 37 = .ok (.aload_n 0, 1) := by decide +kernel
theorem dX11_keep_38 : decode cX11_keep 38 = .ok (.getfield 31, 3) := by decide +kernel
theorem dX11_keep_41 : decode cX11_keep 41 = .ok (.iconst 1, 1) := by decide +kernel
theorem dX11_keep_42 : decode cX11_keep 42 = .ok (.iadd, 1) := by decide +kernel
theorem dX11_keep_43 : decode cX11_keep 43 = .ok (.bipush 32, 2) := by decide +kernel
theorem dX11_keep_45 : decode cX11_keep 45 = .ok (.irem, 1) := by decide +kernel
theorem dX11_keep_46 : decode cX11_keep 46 = .ok (.putfield 31, 3) := by decide +kernel
theorem dX11_keep_49 : decode cX11_keep 49 = .ok (.aload_n 0, 1) := by decide +kernel
theorem dX11_keep_50 : decode cX11_keep 50 = .ok (.aload_n 0, 1) := by decide +kernel
theorem dX11_keep_51 : decode cX11_keep 51 = .ok (.getfield 34, 3) := by decide +kernel
theorem dX11_keep_54 : decode cX11_keep 54 = .ok (.bipush 32, 2) := by decide +kernel
theorem dX11_keep_56 : decode cX11_keep 56 = .ok (.if_icmp .ge 12, 3) := by decide +kernel
theorem dX11_keep_59 : decode cX11_keep 59 = .ok (.aload_n 0, 1) := by decide +kernel
theorem dX11_keep_60 : decode cX11_keep 60 = .ok (.getfield 34, 3) := by decide +kernel
theorem dX11_keep_63 : decode cX11_keep 63 = .ok (.iconst 1, 1) := by decide +kernel
theorem dX11_keep_64 : decode cX11_keep 64 = .ok (.iadd, 1) := by decide +kernel
theorem dX11_keep_65 : decode cX11_keep 65 = .ok (.goto 5, 3) := by decide +kernel
theorem dX11_keep_68 : decode cX11_keep 68 = .ok (.bipush 32, 2) := by decide +kernel
theorem dX11_keep_70 : decode cX11_keep 70 = .ok (.putfield 34, 3) := by decide +kernel
theorem dX11_keep_73 : decode cX11_keep 73 = .ok (.return_, 1) := by decide +kernel
theorem dX11_undo_0 : decode cX11_undo 0 = .ok (.aload_n 0, 1) := by decide +kernel
theorem dX11_undo_1 : decode cX11_undo 1 = .ok (.iconst 0, 1) := by decide +kernel
theorem dX11_undo_2 : decode cX11_undo 2 = .ok (.putfield 27, 3) := by decide +kernel
theorem dX11_undo_5 : decode cX11_undo 5 = .ok (.aload_n 0, 1) := by decide +kernel
theorem dX11_undo_6 : decode cX11_undo 6 = .ok (.getfield 34, 3) := by decide +kernel
theorem dX11_undo_9 : decode cX11_undo 9 = .ok (.ifCond .ne 5, 3) := by decide +kernel
theorem dX11_undo_12 : decode cX11_undo 12 = .ok (.iconst (-1), 1) := by decide +kernel
theorem dX11_undo_13 : decode cX11_undo 13 = .ok (.ireturn, 1) := by decide +kernel
theorem dX11_undo_14 : decode cX11_undo 14 = .ok (.aload_n 0, 1) := by decide +kernel
theorem dX11_undo_15 : decode cX11_undo 15 = .ok (.aload_n 0, 1) := by decide +kernel
theorem dX11_undo_16 : decode cX11_undo 16 = .ok (.getfield 31, 3) := by decide +kernel
theorem dX11_undo_19 : decode cX11_undo 19 = .ok (.bipush 31, 2) := by decide +kernel
theorem dX11_undo_21 : decode cX11_undo 21 = .ok (.iadd, 1) := by decide +kernel
theorem dX11_undo_22 : decode cX11_undo 22 = .ok (.bipush 32, 2) := by decide +kernel
theorem dX11_undo_24 : decode cX11_undo 24 = .ok (.irem, 1) := by decide +kernel
theorem dX11_undo_25 : decode cX11_undo 25 = .ok (.putfield 31, 3) := by decide +kernel
theorem dX11_undo_28 : decode cX11_undo 28 = .ok (.aload_n 0, 1) := by decide +kernel
theorem dX11_undo_29 : decode cX11_undo 29 = .ok (.dup, 1) := by decide +kernel
theorem dX11_undo_30 : decode cX11_undo 30 = .ok (.getfield 34, 3) := by decide +kernel
theorem dX11_undo_33 : decode cX11_undo 33 = .ok (.iconst 1, 1) := by decide +kernel
theorem dX11_undo_34 : decode cX11_undo 34 = .ok (.isub, 1) := by decide +kernel
theorem dX11_undo_35 : decode cX11_undo 35 = .ok (.putfield 34, 3) := by decide +kernel
theorem dX11_undo_38 : decode cX11_undo 38 = .ok (.iconst 0, 1) := by decide +kernel
theorem dX11_undo_39 : decode cX11_undo 39 = .ok (.istore_n 1, 1) := by decide +kernel
theorem dX11_undo_40 : decode cX11_undo 40 = .ok (.iload_n 1, 1) := by decide +kernel
theorem dX11_undo_41 : decode cX11_undo 41 = .ok (.sipush 3828, 3) := by decide +kernel
theorem dX11_undo_44 : decode cX11_undo 44 = .ok (.if_icmp .ge 30, 3) := by decide +kernel
theorem dX11_undo_47 : decode cX11_undo 47 = .ok (.aload_n 0, 1) := by decide +kernel
theorem dX11_undo_48 : decode cX11_undo 48 = .ok (.getfield 7, 3) := by decide +kernel
theorem dX11_undo_51 : decode cX11_undo 51 = .ok (.iload_n 1, 1) := by decide +kernel
theorem dX11_undo_52 : decode cX11_undo 52 = .ok (.aload_n 0, 1) := by decide +kernel
theorem dX11_undo_53 : decode cX11_undo 53 = .ok (.getfield 14, 3) := by decide +kernel
theorem dX11_undo_56 : decode cX11_undo 56 = .ok (.sipush 3828, 3) := by decide +kernel
theorem dX11_undo_59 : decode cX11_undo 59 = .ok (.aload_n 0, 1) := by decide +kernel
theorem dX11_undo_60 : decode cX11_undo 60 = .ok (.getfield 31, 3) := by decide +kernel
theorem dX11_undo_63 : decode cX11_undo 63 = .ok (.imul, 1) := by decide +kernel
theorem dX11_undo_64 : decode cX11_undo 64 = .ok (.iload_n 1, 1) := by decide +kernel
theorem dX11_undo_65 : decode cX11_undo 65 = .ok (.iadd, 1) := by decide +kernel
theorem dX11_undo_66 : decode cX11_undo 66 = .ok (.iaload, 1) := by decide +kernel
theorem dX11_undo_67 : decode cX11_undo 67 = .ok (.iastore, 1) := by decide +kernel
theorem dX11_undo_68 : decode cX11_undo 68 = .ok (.iinc 1 1, 3) := by decide +kernel
theorem dX11_undo_71 : decode cX11_undo 71 = .ok (.goto (-31), 3) := by decide +kernel
theorem dX11_undo_74 : decode cX11_undo 74 = .ok (.aload_n 0, 1) := by decide +kernel
theorem dX11_undo_75 : decode cX11_undo 75 = .ok (.getfield 34, 3) := by decide +kernel
theorem dX11_undo_78 : decode cX11_undo 78 = .ok (.ireturn, 1) := by decide +kernel
theorem dX11_isHeld_0 : decode cX11_isHeld 0 = .ok (.aload_n 0, 1) := by decide +kernel
theorem dX11_isHeld_1 : decode cX11_isHeld 1 = .ok (.getfield 7, 3) := by decide +kernel
theorem dX11_isHeld_4 : decode cX11_isHeld 4 = .ok (.iconst 0, 1) := by decide +kernel
theorem dX11_isHeld_5 : decode cX11_isHeld 5 = .ok (.iload_n 1, 1) := by decide +kernel
theorem dX11_isHeld_6 : decode cX11_isHeld 6 = .ok (.iadd, 1) := by decide +kernel
theorem dX11_isHeld_7 : decode cX11_isHeld 7 = .ok (.iaload, 1) := by decide +kernel
theorem dX11_isHeld_8 : decode cX11_isHeld 8 = .ok (.iconst (-1), 1) := by decide +kernel
theorem dX11_isHeld_9 : decode cX11_isHeld 9 = .ok (.if_icmp .eq 7, 3) := by decide +kernel
theorem dX11_isHeld_12 : decode cX11_isHeld 12 = .ok (.iconst 1, 1) := by decide +kernel
theorem dX11_isHeld_13 : decode cX11_isHeld 13 = .ok (.goto 4, 3) := by decide +kernel
theorem dX11_isHeld_16 : decode cX11_isHeld 16 = .ok (.iconst 0, 1) := by decide +kernel
theorem dX11_isHeld_17 : decode cX11_isHeld 17 = .ok (.ireturn, 1) := by decide +kernel
theorem dX11_isSheet_0 : decode cX11_isSheet 0 = .ok (.aload_n 0, 1) := by decide +kernel
theorem dX11_isSheet_1 : decode cX11_isSheet 1 = .ok (.getfield 7, 3) := by decide +kernel
theorem dX11_isSheet_4 : decode cX11_isSheet 4 = .ok (.iconst 0, 1) := by decide +kernel
theorem dX11_isSheet_5 : decode cX11_isSheet 5 = .ok (.iload_n 1, 1) := by decide +kernel
theorem dX11_isSheet_6 : decode cX11_isSheet 6 = .ok (.iadd, 1) := by decide +kernel
theorem dX11_isSheet_7 : decode cX11_isSheet 7 = .ok (.iaload, 1) := by decide +kernel
theorem dX11_isSheet_8 : decode cX11_isSheet 8 = .ok (.iconst 2, 1) := by decide +kernel
theorem dX11_isSheet_9 : decode cX11_isSheet 9 = .ok (.if_icmp .eq 15, 3) := by decide +kernel
theorem dX11_isSheet_12 : decode cX11_isSheet 12 = .ok (.aload_n 0, 1) := by decide +kernel
theorem dX11_isSheet_13 : decode cX11_isSheet 13 = .ok (.getfield 7, 3) := by decide +kernel
theorem dX11_isSheet_16 : decode cX11_isSheet 16 = .ok (.iconst 0, 1) := by decide +kernel
theorem dX11_isSheet_17 : decode cX11_isSheet 17 = .ok (.iload_n 1, 1) := by decide +kernel
theorem dX11_isSheet_18 : decode cX11_isSheet 18 = .ok (.iadd, 1) := by decide +kernel
theorem dX11_isSheet_19 : decode cX11_isSheet 19 = .ok (.iaload, 1) := by decide +kernel
theorem dX11_isSheet_20 : decode cX11_isSheet 20 = .ok (.iconst 3, 1) := by decide +kernel
theorem dX11_isSheet_21 : decode cX11_isSheet 21 = .ok (.if_icmp .ne 7, 3) := by decide +kernel
theorem dX11_isSheet_24 : decode cX11_isSheet 24 = .ok (.iconst 1, 1) := by decide +kernel
theorem dX11_isSheet_25 : decode cX11_isSheet 25 = .ok (.goto 4, 3) := by decide +kernel
theorem dX11_isSheet_28 : decode cX11_isSheet 28 = .ok (.iconst 0, 1) := by decide +kernel
theorem dX11_isSheet_29 : decode cX11_isSheet 29 = .ok (.ireturn, 1) := by decide +kernel
theorem dX11_squareAt_0 : decode cX11_squareAt 0 = .ok (.sipush 460, 3) := by decide +kernel
theorem dX11_squareAt_3 : decode cX11_squareAt 3 = .ok (.bipush 64, 2) := by decide +kernel
theorem dX11_squareAt_5 : decode cX11_squareAt 5 = .ok (.iload_n 1, 1) := by decide +kernel
theorem dX11_squareAt_6 : decode cX11_squareAt 6 = .ok (.imul, 1) := by decide +kernel
theorem dX11_squareAt_7 : decode cX11_squareAt 7 = .ok (.iadd, 1) := by decide +kernel
theorem dX11_squareAt_8 : decode cX11_squareAt 8 = .ok (.iload_n 2, 1) := by decide +kernel
theorem dX11_squareAt_9 : decode cX11_squareAt 9 = .ok (.iadd, 1) := by decide +kernel
theorem dX11_squareAt_10 : decode cX11_squareAt 10 = .ok (.ireturn, 1) := by decide +kernel
theorem dX11_stampAt_0 : decode cX11_stampAt 0 = .ok (.bipush 60, 2) := by decide +kernel
theorem dX11_stampAt_2 : decode cX11_stampAt 2 = .ok (.bipush 40, 2) := by decide +kernel
theorem dX11_stampAt_4 : decode cX11_stampAt 4 = .ok (.iload_n 1, 1) := by decide +kernel
theorem dX11_stampAt_5 : decode cX11_stampAt 5 = .ok (.imul, 1) := by decide +kernel
theorem dX11_stampAt_6 : decode cX11_stampAt 6 = .ok (.iadd, 1) := by decide +kernel
theorem dX11_stampAt_7 : decode cX11_stampAt 7 = .ok (.iload_n 2, 1) := by decide +kernel
theorem dX11_stampAt_8 : decode cX11_stampAt 8 = .ok (.iadd, 1) := by decide +kernel
theorem dX11_stampAt_9 : decode cX11_stampAt 9 = .ok (.ireturn, 1) := by decide +kernel
theorem dX11_squares_0 : decode cX11_squares 0 = .ok (.aload_n 0, 1) := by decide +kernel
theorem dX11_squares_1 : decode cX11_squares 1 = .ok (.getfield 7, 3) := by decide +kernel
theorem dX11_squares_4 : decode cX11_squares 4 = .ok (.bipush 40, 2) := by decide +kernel
theorem dX11_squares_6 : decode cX11_squares 6 = .ok (.iload_n 1, 1) := by decide +kernel
theorem dX11_squares_7 : decode cX11_squares 7 = .ok (.iadd, 1) := by decide +kernel
theorem dX11_squares_8 : decode cX11_squares 8 = .ok (.iaload, 1) := by decide +kernel
theorem dX11_squares_9 : decode cX11_squares 9 = .ok (.aload_n 0, 1) := by decide +kernel
theorem dX11_squares_10 : decode cX11_squares 10 = .ok (.getfield 7, 3) := by decide +kernel
theorem dX11_squares_13 : decode cX11_squares 13 = .ok (.bipush 50, 2) := by decide +kernel
theorem dX11_squares_15 : decode cX11_squares 15 = .ok (.iload_n 1, 1) := by decide +kernel
theorem dX11_squares_16 : decode cX11_squares 16 = .ok (.iadd, 1) := by decide +kernel
theorem dX11_squares_17 : decode cX11_squares 17 = .ok (.iaload, 1) := by decide +kernel
theorem dX11_squares_18 : decode cX11_squares 18 = .ok (.imul, 1) := by decide +kernel
theorem dX11_squares_19 : decode cX11_squares 19 = .ok (.ireturn, 1) := by decide +kernel
theorem dX11_hold_0 : decode cX11_hold 0 = .ok (.aload_n 0, 1) := by decide +kernel
theorem dX11_hold_1 : decode cX11_hold 1 = .ok (.invokevirtual 37, 3) := by decide +kernel
theorem dX11_hold_4 : decode cX11_hold 4 = .ok (.aload_n 0, 1) := by decide +kernel
theorem dX11_hold_5 : decode cX11_hold 5 = .ok (.getfield 7, 3) := by decide +kernel
theorem dX11_hold_8 : decode cX11_hold 8 = .ok (.iconst 0, 1) := by decide +kernel
theorem dX11_hold_9 : decode cX11_hold 9 = .ok (.iload_n 1, 1) := by decide +kernel
theorem dX11_hold_10 : decode cX11_hold 10 = .ok (.iadd, 1) := by decide +kernel
theorem dX11_hold_11 : decode cX11_hold 11 = .ok (.iload_n 2, 1) := by decide +kernel
theorem dX11_hold_12 : decode cX11_hold 12 = .ok (.iastore, 1) := by decide +kernel
theorem dX11_hold_13 : decode cX11_hold 13 = .ok (.aload_n 0, 1) := by decide +kernel
theorem dX11_hold_14 : decode cX11_hold 14 = .ok (.getfield 7, 3) := by decide +kernel
theorem dX11_hold_17 : decode cX11_hold 17 = .ok (.bipush 20, 2) := by decide +kernel
theorem dX11_hold_19 : decode cX11_hold 19 = .ok (.iload_n 1, 1) := by decide +kernel
theorem dX11_hold_20 : decode cX11_hold 20 = .ok (.iadd, 1) := by decide +kernel
theorem dX11_hold_21 : decode cX11_hold 21 = .ok (.iload_n 3, 1) := by decide +kernel
theorem dX11_hold_22 : decode cX11_hold 22 = .ok (.iastore, 1) := by decide +kernel
theorem dX11_hold_23 : decode cX11_hold 23 = .ok (.aload_n 0, 1) := by decide +kernel
theorem dX11_hold_24 : decode cX11_hold 24 = .ok (.getfield 7, 3) := by decide +kernel
theorem dX11_hold_27 : decode cX11_hold 27 = .ok (.bipush 30, 2) := by decide +kernel
theorem dX11_hold_29 : decode cX11_hold 29 = .ok (.iload_n 1, 1) := by decide +kernel
theorem dX11_hold_30 : decode cX11_hold 30 = .ok (.iadd, 1) := by decide +kernel
theorem dX11_hold_31 : decode cX11_hold 31 = .ok (.iload 4, 2) := by decide +kernel
theorem dX11_hold_33 : decode cX11_hold 33 = .ok (.iastore, 1) := by decide +kernel
theorem dX11_hold_34 : decode cX11_hold 34 = .ok (.aload_n 0, 1) := by decide +kernel
theorem dX11_hold_35 : decode cX11_hold 35 = .ok (.getfield 7, 3) := by decide +kernel
theorem dX11_hold_38 : decode cX11_hold 38 = .ok (.bipush 10, 2) := by decide +kernel
theorem dX11_hold_40 : decode cX11_hold 40 = .ok (.iload_n 1, 1) := by decide +kernel
theorem dX11_hold_41 : decode cX11_hold 41 = .ok (.iadd, 1) := by decide +kernel
theorem dX11_hold_42 : decode cX11_hold 42 = .ok (.iload 5, 2) := by decide +kernel
theorem dX11_hold_44 : decode cX11_hold 44 = .ok (.iastore, 1) := by decide +kernel
theorem dX11_hold_45 : decode cX11_hold 45 = .ok (.aload_n 0, 1) := by decide +kernel
theorem dX11_hold_46 : decode cX11_hold 46 = .ok (.getfield 7, 3) := by decide +kernel
theorem dX11_hold_49 : decode cX11_hold 49 = .ok (.bipush 40, 2) := by decide +kernel
theorem dX11_hold_51 : decode cX11_hold 51 = .ok (.iload_n 1, 1) := by decide +kernel
theorem dX11_hold_52 : decode cX11_hold 52 = .ok (.iadd, 1) := by decide +kernel
theorem dX11_hold_53 : decode cX11_hold 53 = .ok (.iconst 0, 1) := by decide +kernel
theorem dX11_hold_54 : decode cX11_hold 54 = .ok (.iastore, 1) := by decide +kernel
theorem dX11_hold_55 : decode cX11_hold 55 = .ok (.aload_n 0, 1) := by decide +kernel
theorem dX11_hold_56 : decode cX11_hold 56 = .ok (.getfield 7, 3) := by decide +kernel
theorem dX11_hold_59 : decode cX11_hold 59 = .ok (.bipush 50, 2) := by decide +kernel
theorem dX11_hold_61 : decode cX11_hold 61 = .ok (.iload_n 1, 1) := by decide +kernel
theorem dX11_hold_62 : decode cX11_hold 62 = .ok (.iadd, 1) := by decide +kernel
theorem dX11_hold_63 : decode cX11_hold 63 = .ok (.iconst 0, 1) := by decide +kernel
theorem dX11_hold_64 : decode cX11_hold 64 = .ok (.iastore, 1) := by decide +kernel
theorem dX11_hold_65 : decode cX11_hold 65 = .ok (.iconst 0, 1) := by decide +kernel
theorem dX11_hold_66 : decode cX11_hold 66 = .ok (.istore 6, 2) := by decide +kernel
theorem dX11_hold_68 : decode cX11_hold 68 = .ok (.iload 6, 2) := by decide +kernel
theorem dX11_hold_70 : decode cX11_hold 70 = .ok (.bipush 8, 2) := by decide +kernel
theorem dX11_hold_72 : decode cX11_hold 72 = .ok (.if_icmp .ge 26, 3) := by decide +kernel
theorem dX11_hold_75 : decode cX11_hold 75 = .ok (.aload_n 0, 1) := by decide +kernel
theorem dX11_hold_76 : decode cX11_hold 76 = .ok (.getfield 7, 3) := by decide +kernel
theorem dX11_hold_79 : decode cX11_hold 79 = .ok (.sipush 1100, 3) := by decide +kernel
theorem dX11_hold_82 : decode cX11_hold 82 = .ok (.bipush 8, 2) := by decide +kernel
theorem dX11_hold_84 : decode cX11_hold 84 = .ok (.iload_n 1, 1) := by decide +kernel
theorem dX11_hold_85 : decode cX11_hold 85 = .ok (.imul, 1) := by decide +kernel
theorem dX11_hold_86 : decode cX11_hold 86 = .ok (.iadd, 1) := by decide +kernel
theorem dX11_hold_87 : decode cX11_hold 87 = .ok (.iload 6, 2) := by decide +kernel
theorem dX11_hold_89 : decode cX11_hold 89 = .ok (.iadd, 1) := by decide +kernel
theorem dX11_hold_90 : decode cX11_hold 90 = .ok (.iconst 0, 1) := by decide +kernel
theorem dX11_hold_91 : decode cX11_hold 91 = .ok (.iastore, 1) := by decide +kernel
theorem dX11_hold_92 : decode cX11_hold 92 = .ok (.iinc 6 1, 3) := by decide +kernel
theorem dX11_hold_95 : decode cX11_hold 95 = .ok (.goto (-27), 3) := by decide +kernel
theorem dX11_hold_98 : decode cX11_hold 98 = .ok (.iconst 0, 1) := by decide +kernel
theorem dX11_hold_99 : decode cX11_hold 99 = .ok (.istore 6, 2) := by decide +kernel
theorem dX11_hold_101 : decode cX11_hold 101 = .ok (.iload 6, 2) := by decide +kernel
theorem dX11_hold_103 : decode cX11_hold 103 = .ok (.bipush 64, 2) := by decide +kernel
theorem dX11_hold_105 : decode cX11_hold 105 = .ok (.if_icmp .ge 22, 3) := by decide +kernel
theorem dX11_hold_108 : decode cX11_hold 108 = .ok (.aload_n 0, 1) := by decide +kernel
theorem dX11_hold_109 : decode cX11_hold 109 = .ok (.getfield 7, 3) := by decide +kernel
theorem dX11_hold_112 : decode cX11_hold 112 = .ok (.aload_n 0, 1) := by decide +kernel
theorem dX11_hold_113 : decode cX11_hold 113 = .ok (.iload_n 1, 1) := by decide +kernel
theorem dX11_hold_114 : decode cX11_hold 114 = .ok (.iload 6, 2) := by decide +kernel
theorem dX11_hold_116 : decode cX11_hold 116 = .ok (.invokevirtual 40, 3) := by decide +kernel
theorem dX11_hold_119 : decode cX11_hold 119 = .ok (.iconst 0, 1) := by decide +kernel
theorem dX11_hold_120 : decode cX11_hold 120 = .ok (.iastore, 1) := by decide +kernel
theorem dX11_hold_121 : decode cX11_hold 121 = .ok (.iinc 6 1, 3) := by decide +kernel
theorem dX11_hold_124 : decode cX11_hold 124 = .ok (.goto (-23), 3) := by decide +kernel
theorem dX11_hold_127 : decode cX11_hold 127 = .ok (.return_, 1) := by decide +kernel
theorem dX11_pile_0 : decode cX11_pile 0 = .ok (.aload_n 0, 1) := by decide +kernel
theorem dX11_pile_1 : decode cX11_pile 1 = .ok (.iconst 0, 1) := by decide +kernel
theorem dX11_pile_2 : decode cX11_pile 2 = .ok (.putfield 27, 3) := by decide +kernel
theorem dX11_pile_5 : decode cX11_pile 5 = .ok (.iload_n 1, 1) := by decide +kernel
theorem dX11_pile_6 : decode cX11_pile 6 = .ok (.iconst 0, 1) := by decide +kernel
theorem dX11_pile_7 : decode cX11_pile 7 = .ok (.bipush 9, 2) := by decide +kernel
theorem dX11_pile_9 : decode cX11_pile 9 = .ok (.invokestatic 44, 3) := by decide +kernel
theorem dX11_pile_12 : decode cX11_pile 12 = .ok (.ifCond .eq 24, 3) := by decide +kernel
theorem dX11_pile_15 : decode cX11_pile 15 = .ok (.iload_n 2, 1) := by decide +kernel
theorem dX11_pile_16 : decode cX11_pile 16 = .ok (.iconst 1, 1) := by decide +kernel
theorem dX11_pile_17 : decode cX11_pile 17 = .ok (.sipush 500, 3) := by decide +kernel
