theorem dX11_pile_20 : decode cX11_pile 20 = .ok (.invokestatic 44, 3) := by decide +kernel
theorem dX11_pile_23 : decode cX11_pile 23 = .ok (.ifCond .eq 13, 3) := by decide +kernel
theorem dX11_pile_26 : decode cX11_pile 26 = .ok (.iload_n 3, 1) := by decide +kernel
theorem dX11_pile_27 : decode cX11_pile 27 = .ok (.iconst 0, 1) := by decide +kernel
theorem dX11_pile_28 : decode cX11_pile 28 = .ok (.bipush 60, 2) := by decide +kernel
theorem dX11_pile_30 : decode cX11_pile 30 = .ok (.invokestatic 44, 3) := by decide +kernel
theorem dX11_pile_33 : decode cX11_pile 33 = .ok (.ifCond .ne 6, 3) := by decide +kernel
theorem dX11_pile_36 : decode cX11_pile 36 = .ok (.bipush (-3), 2) := by decide +kernel
theorem dX11_pile_38 : decode cX11_pile 38 = .ok (.ireturn, 1) := by decide +kernel
theorem dX11_pile_39 : decode cX11_pile 39 = .ok (.aload_n 0, 1) := by decide +kernel
theorem dX11_pile_40 : decode cX11_pile 40 = .ok (.iload_n 1, 1) := by decide +kernel
theorem dX11_pile_41 : decode cX11_pile 41 = .ok (.invokevirtual 48, 3) := by decide +kernel
theorem dX11_pile_44 : decode cX11_pile 44 = .ok (.ifCond .eq 6, 3) := by decide +kernel
theorem dX11_pile_47 : decode cX11_pile 47 = .ok (.bipush (-4), 2) := by decide +kernel
theorem dX11_pile_49 : decode cX11_pile 49 = .ok (.ireturn, 1) := by decide +kernel
theorem dX11_pile_50 : decode cX11_pile 50 = .ok (.aload_n 0, 1) := by decide +kernel
theorem dX11_pile_51 : decode cX11_pile 51 = .ok (.iload_n 1, 1) := by decide +kernel
theorem dX11_pile_52 : decode cX11_pile 52 = .ok (.iconst 0, 1) := by decide +kernel
theorem dX11_pile_53 : decode cX11_pile 53 = .ok (.iload_n 2, 1) := by decide +kernel
theorem dX11_pile_54 : decode cX11_pile 54 = .ok (.iconst 0, 1) := by decide +kernel
theorem dX11_pile_55 : decode cX11_pile 55 = .ok (.iload_n 3, 1) := by decide +kernel
theorem dX11_pile_56 : decode cX11_pile 56 = .ok (.invokevirtual 52, 3) := by decide +kernel
theorem dX11_pile_59 : decode cX11_pile 59 = .ok (.iload_n 3, 1) := by decide +kernel
theorem dX11_pile_60 : decode cX11_pile 60 = .ok (.ireturn, 1) := by decide +kernel
theorem dX11_over_0 : decode cX11_over 0 = .ok (.aload_n 0, 1) := by decide +kernel
theorem dX11_over_1 : decode cX11_over 1 = .ok (.iconst 0, 1) := by decide +kernel
theorem dX11_over_2 : decode cX11_over 2 = .ok (.putfield 27, 3) := by decide +kernel
theorem dX11_over_5 : decode cX11_over 5 = .ok (.iload_n 1, 1) := by decide +kernel
theorem dX11_over_6 : decode cX11_over 6 = .ok (.iconst 0, 1) := by decide +kernel
theorem dX11_over_7 : decode cX11_over 7 = .ok (.bipush 9, 2) := by decide +kernel
theorem dX11_over_9 : decode cX11_over 9 = .ok (.invokestatic 44, 3) := by decide +kernel
theorem dX11_over_12 : decode cX11_over 12 = .ok (.ifCond .eq 36, 3) := by decide +kernel
theorem dX11_over_15 : decode cX11_over 15 = .ok (.iload_n 2, 1) := by decide +kernel
theorem dX11_over_16 : decode cX11_over 16 = .ok (.iconst 1, 1) := by decide +kernel
theorem dX11_over_17 : decode cX11_over 17 = .ok (.sipush 500, 3) := by decide +kernel
theorem dX11_over_20 : decode cX11_over 20 = .ok (.invokestatic 44, 3) := by decide +kernel
theorem dX11_over_23 : decode cX11_over 23 = .ok (.ifCond .eq 25, 3) := by decide +kernel
theorem dX11_over_26 : decode cX11_over 26 = .ok (.iload_n 3, 1) := by decide +kernel
theorem dX11_over_27 : decode cX11_over 27 = .ok (.iconst 1, 1) := by decide +kernel
theorem dX11_over_28 : decode cX11_over 28 = .ok (.sipush 500, 3) := by decide +kernel
theorem dX11_over_31 : decode cX11_over 31 = .ok (.invokestatic 44, 3) := by decide +kernel
theorem dX11_over_34 : decode cX11_over 34 = .ok (.ifCond .eq 14, 3) := by decide +kernel
theorem dX11_over_37 : decode cX11_over 37 = .ok (.iload 4, 2) := by decide +kernel
theorem dX11_over_39 : decode cX11_over 39 = .ok (.iconst 0, 1) := by decide +kernel
theorem dX11_over_40 : decode cX11_over 40 = .ok (.bipush 60, 2) := by decide +kernel
theorem dX11_over_42 : decode cX11_over 42 = .ok (.invokestatic 44, 3) := by decide +kernel
theorem dX11_over_45 : decode cX11_over 45 = .ok (.ifCond .ne 6, 3) := by decide +kernel
theorem dX11_over_48 : decode cX11_over 48 = .ok (.bipush (-3), 2) := by decide +kernel
theorem dX11_over_50 : decode cX11_over 50 = .ok (.ireturn, 1) := by decide +kernel
theorem dX11_over_51 : decode cX11_over 51 = .ok (.aload_n 0, 1) := by decide +kernel
theorem dX11_over_52 : decode cX11_over 52 = .ok (.iload_n 1, 1) := by decide +kernel
theorem dX11_over_53 : decode cX11_over 53 = .ok (.invokevirtual 48, 3) := by decide +kernel
theorem dX11_over_56 : decode cX11_over 56 = .ok (.ifCond .eq 6, 3) := by decide +kernel
theorem dX11_over_59 : decode cX11_over 59 = .ok (.bipush (-4), 2) := by decide +kernel
theorem dX11_over_61 : decode cX11_over 61 = .ok (.ireturn, 1) := by decide +kernel
theorem dX11_over_62 : decode cX11_over 62 = .ok (.aload_n 0, 1) := by decide +kernel
theorem dX11_over_63 : decode cX11_over 63 = .ok (.iload_n 1, 1) := by decide +kernel
theorem dX11_over_64 : decode cX11_over 64 = .ok (.iconst 4, 1) := by decide +kernel
theorem dX11_over_65 : decode cX11_over 65 = .ok (.iload_n 3, 1) := by decide +kernel
theorem dX11_over_66 : decode cX11_over 66 = .ok (.iload_n 2, 1) := by decide +kernel
theorem dX11_over_67 : decode cX11_over 67 = .ok (.iload 4, 2) := by decide +kernel
theorem dX11_over_69 : decode cX11_over 69 = .ok (.invokevirtual 52, 3) := by decide +kernel
theorem dX11_over_72 : decode cX11_over 72 = .ok (.iload 4, 2) := by decide +kernel
theorem dX11_over_74 : decode cX11_over 74 = .ok (.ireturn, 1) := by decide +kernel
theorem dX11_reel_0 : decode cX11_reel 0 = .ok (.aload_n 0, 1) := by decide +kernel
theorem dX11_reel_1 : decode cX11_reel 1 = .ok (.iconst 0, 1) := by decide +kernel
theorem dX11_reel_2 : decode cX11_reel 2 = .ok (.putfield 27, 3) := by decide +kernel
theorem dX11_reel_5 : decode cX11_reel 5 = .ok (.iload_n 1, 1) := by decide +kernel
theorem dX11_reel_6 : decode cX11_reel 6 = .ok (.iconst 1, 1) := by decide +kernel
theorem dX11_reel_7 : decode cX11_reel 7 = .ok (.sipush 500, 3) := by decide +kernel
theorem dX11_reel_10 : decode cX11_reel 10 = .ok (.invokestatic 44, 3) := by decide +kernel
theorem dX11_reel_13 : decode cX11_reel 13 = .ok (.ifCond .ne 6, 3) := by decide +kernel
theorem dX11_reel_16 : decode cX11_reel 16 = .ok (.bipush (-3), 2) := by decide +kernel
theorem dX11_reel_18 : decode cX11_reel 18 = .ok (.ireturn, 1) := by decide +kernel
theorem dX11_reel_19 : decode cX11_reel 19 = .ok (.aload_n 0, 1) := by decide +kernel
theorem dX11_reel_20 : decode cX11_reel 20 = .ok (.getfield 56, 3) := by decide +kernel
theorem dX11_reel_23 : decode cX11_reel 23 = .ok (.bipush 40, 2) := by decide +kernel
theorem dX11_reel_25 : decode cX11_reel 25 = .ok (.if_icmp .ne 6, 3) := by decide +kernel
theorem dX11_reel_28 : decode cX11_reel 28 = .ok (.bipush (-5), 2) := by decide +kernel
theorem dX11_reel_30 : decode cX11_reel 30 = .ok (.ireturn, 1) := by decide +kernel
theorem dX11_reel_31 : decode cX11_reel 31 = .ok (.aload_n 0, 1) := by decide +kernel
theorem dX11_reel_32 : decode cX11_reel 32 = .ok (.getfield 17, 3) := by decide +kernel
theorem dX11_reel_35 : decode cX11_reel 35 = .ok (.aload_n 0, 1) := by decide +kernel
theorem dX11_reel_36 : decode cX11_reel 36 = .ok (.getfield 56, 3) := by decide +kernel
theorem dX11_reel_39 : decode cX11_reel 39 = .ok (.iload_n 1, 1) := by decide +kernel
theorem dX11_reel_40 : decode cX11_reel 40 = .ok (.iastore, 1) := by decide +kernel
theorem dX11_reel_41 : decode cX11_reel 41 = .ok (.aload_n 0, 1) := by decide +kernel
theorem dX11_reel_42 : decode cX11_reel 42 = .ok (.dup, 1) := by decide +kernel
theorem dX11_reel_43 : decode cX11_reel 43 = .ok (.getfield 56, 3) := by decide +kernel
theorem dX11_reel_46 : decode cX11_reel 46 = .ok (.iconst 1, 1) := by decide +kernel
theorem dX11_reel_47 : decode cX11_reel 47 = .ok (.iadd, 1) := by decide +kernel
theorem dX11_reel_48 : decode cX11_reel 48 = .ok (.putfield 56, 3) := by decide +kernel
theorem dX11_reel_51 : decode cX11_reel 51 = .ok (.aload_n 0, 1) := by decide +kernel
theorem dX11_reel_52 : decode cX11_reel 52 = .ok (.getfield 56, 3) := by decide +kernel
theorem dX11_reel_55 : decode cX11_reel 55 = .ok (.ireturn, 1) := by decide +kernel
theorem dX11_strip_0 : decode cX11_strip 0 = .ok (.aload_n 0, 1) := by decide +kernel
theorem dX11_strip_1 : decode cX11_strip 1 = .ok (.iconst 0, 1) := by decide +kernel
theorem dX11_strip_2 : decode cX11_strip 2 = .ok (.putfield 27, 3) := by decide +kernel
theorem dX11_strip_5 : decode cX11_strip 5 = .ok (.iload_n 1, 1) := by decide +kernel
theorem dX11_strip_6 : decode cX11_strip 6 = .ok (.iconst 0, 1) := by decide +kernel
theorem dX11_strip_7 : decode cX11_strip 7 = .ok (.bipush 9, 2) := by decide +kernel
theorem dX11_strip_9 : decode cX11_strip 9 = .ok (.invokestatic 44, 3) := by decide +kernel
theorem dX11_strip_12 : decode cX11_strip 12 = .ok (.ifCond .ne 6, 3) := by decide +kernel
theorem dX11_strip_15 : decode cX11_strip 15 = .ok (.bipush (-3), 2) := by decide +kernel
theorem dX11_strip_17 : decode cX11_strip 17 = .ok (.ireturn, 1) := by decide +kernel
theorem dX11_strip_18 : decode cX11_strip 18 = .ok (.aload_n 0, 1) := by decide +kernel
theorem dX11_strip_19 : decode cX11_strip 19 = .ok (.iload_n 1, 1) := by decide +kernel
theorem dX11_strip_20 : decode cX11_strip 20 = .ok (.invokevirtual 48, 3) := by decide +kernel
theorem dX11_strip_23 : decode cX11_strip 23 = .ok (.ifCond .eq 6, 3) := by decide +kernel
theorem dX11_strip_26 : decode cX11_strip 26 = .ok (.bipush (-4), 2) := by decide +kernel
theorem dX11_strip_28 : decode cX11_strip 28 = .ok (.ireturn, 1) := by decide +kernel
theorem dX11_strip_29 : decode cX11_strip 29 = .ok (.aload_n 0, 1) := by decide +kernel
theorem dX11_strip_30 : decode cX11_strip 30 = .ok (.iload_n 1, 1) := by decide +kernel
theorem dX11_strip_31 : decode cX11_strip 31 = .ok (.iconst 1, 1) := by decide +kernel
theorem dX11_strip_32 : decode cX11_strip 32 = .ok (.iconst 0, 1) := by decide +kernel
theorem dX11_strip_33 : decode cX11_strip 33 = .ok (.iconst 0, 1) := by decide +kernel
theorem dX11_strip_34 : decode cX11_strip 34 = .ok (.aload_n 0, 1) := by decide +kernel
theorem dX11_strip_35 : decode cX11_strip 35 = .ok (.getfield 56, 3) := by decide +kernel
theorem dX11_strip_38 : decode cX11_strip 38 = .ok (.invokevirtual 52, 3) := by decide +kernel
theorem dX11_strip_41 : decode cX11_strip 41 = .ok (.iconst 0, 1) := by decide +kernel
theorem dX11_strip_42 : decode cX11_strip 42 = .ok (.istore_n 2, 1) := by decide +kernel
theorem dX11_strip_43 : decode cX11_strip 43 = .ok (.iload_n 2, 1) := by decide +kernel
theorem dX11_strip_44 : decode cX11_strip 44 = .ok (.aload_n 0, 1) := by decide +kernel
theorem dX11_strip_45 : decode cX11_strip 45 = .ok (.getfield 56, 3) := by decide +kernel
theorem dX11_strip_48 : decode cX11_strip 48 = .ok (.if_icmp .ge 26, 3) := by decide +kernel
theorem dX11_strip_51 : decode cX11_strip 51 = .ok (.aload_n 0, 1) := by decide +kernel
theorem dX11_strip_52 : decode cX11_strip 52 = .ok (.getfield 7, 3) := by decide +kernel
theorem dX11_strip_55 : decode cX11_strip 55 = .ok (.aload_n 0, 1) := by decide +kernel
theorem dX11_strip_56 : decode cX11_strip 56 = .ok (.iload_n 1, 1) := by decide +kernel
theorem dX11_strip_57 : decode cX11_strip 57 = .ok (.iload_n 2, 1) := by decide +kernel
theorem dX11_strip_58 : decode cX11_strip 58 = .ok (.invokevirtual 59, 3) := by decide +kernel
theorem dX11_strip_61 : decode cX11_strip 61 = .ok (.aload_n 0, 1) := by decide +kernel
theorem dX11_strip_62 : decode cX11_strip 62 = .ok (.getfield 17, 3) := by decide +kernel
theorem dX11_strip_65 : decode cX11_strip 65 = .ok (.iload_n 2, 1) := by decide +kernel
theorem dX11_strip_66 : decode cX11_strip 66 = .ok (.iaload, 1) := by decide +kernel
theorem dX11_strip_67 : decode cX11_strip 67 = .ok (.iastore, 1) := by decide +kernel
theorem dX11_strip_68 : decode cX11_strip 68 = .ok (.iinc 2 1, 3) := by decide +kernel
theorem dX11_strip_71 : decode cX11_strip 71 = .ok (.goto (-28), 3) := by decide +kernel
theorem dX11_strip_74 : decode cX11_strip 74 = .ok (.aload_n 0, 1) := by decide +kernel
theorem dX11_strip_75 : decode cX11_strip 75 = .ok (.iconst 0, 1) := by decide +kernel
theorem dX11_strip_76 : decode cX11_strip 76 = .ok (.putfield 56, 3) := by decide +kernel
theorem dX11_strip_79 : decode cX11_strip 79 = .ok (.aload_n 0, 1) := by decide +kernel
theorem dX11_strip_80 : decode cX11_strip 80 = .ok (.getfield 7, 3) := by decide +kernel
theorem dX11_strip_83 : decode cX11_strip 83 = .ok (.bipush 10, 2) := by decide +kernel
theorem dX11_strip_85 : decode cX11_strip 85 = .ok (.iload_n 1, 1) := by decide +kernel
theorem dX11_strip_86 : decode cX11_strip 86 = .ok (.iadd, 1) := by decide +kernel
theorem dX11_strip_87 : decode cX11_strip 87 = .ok (.iaload, 1) := by decide +kernel
theorem dX11_strip_88 : decode cX11_strip 88 = .ok (.ireturn, 1) := by decide +kernel
theorem dX11_sheet_0 : decode cX11_sheet 0 = .ok (.aload_n 0, 1) := by decide +kernel
theorem dX11_sheet_1 : decode cX11_sheet 1 = .ok (.iconst 0, 1) := by decide +kernel
theorem dX11_sheet_2 : decode cX11_sheet 2 = .ok (.putfield 27, 3) := by decide +kernel
theorem dX11_sheet_5 : decode cX11_sheet 5 = .ok (.iload_n 1, 1) := by decide +kernel
theorem dX11_sheet_6 : decode cX11_sheet 6 = .ok (.iconst 0, 1) := by decide +kernel
theorem dX11_sheet_7 : decode cX11_sheet 7 = .ok (.bipush 9, 2) := by decide +kernel
theorem dX11_sheet_9 : decode cX11_sheet 9 = .ok (.invokestatic 44, 3) := by decide +kernel
theorem dX11_sheet_12 : decode cX11_sheet 12 = .ok (.ifCond .eq 37, 3) := by decide +kernel
theorem dX11_sheet_15 : decode cX11_sheet 15 = .ok (.iload_n 2, 1) := by decide +kernel
theorem dX11_sheet_16 : decode cX11_sheet 16 = .ok (.iconst 2, 1) := by decide +kernel
theorem dX11_sheet_17 : decode cX11_sheet 17 = .ok (.iconst 3, 1) := by decide +kernel
theorem dX11_sheet_18 : decode cX11_sheet 18 = .ok (.invokestatic 44, 3) := by decide +kernel
theorem dX11_sheet_21 : decode cX11_sheet 21 = .ok (.ifCond .eq 28, 3) := by decide +kernel
theorem dX11_sheet_24 : decode cX11_sheet 24 = .ok (.iload 5, 2) := by decide +kernel
theorem dX11_sheet_26 : decode cX11_sheet 26 = .ok (.iconst 1, 1) := by decide +kernel
theorem dX11_sheet_27 : decode cX11_sheet 27 = .ok (.sipush 500, 3) := by decide +kernel
theorem dX11_sheet_30 : decode cX11_sheet 30 = .ok (.invokestatic 44, 3) := by decide +kernel
theorem dX11_sheet_33 : decode cX11_sheet 33 = .ok (.ifCond .eq 16, 3) := by decide +kernel
theorem dX11_sheet_36 : decode cX11_sheet 36 = .ok (.iload_n 3, 1) := by decide +kernel
theorem dX11_sheet_37 : decode cX11_sheet 37 = .ok (.bipush 8, 2) := by decide +kernel
theorem dX11_sheet_39 : decode cX11_sheet 39 = .ok (.if_icmp .gt 10, 3) := by decide +kernel
theorem dX11_sheet_42 : decode cX11_sheet 42 = .ok (.iload 4, 2) := by decide +kernel
theorem dX11_sheet_44 : decode cX11_sheet 44 = .ok (.bipush 8, 2) := by decide +kernel
theorem dX11_sheet_46 : decode cX11_sheet 46 = .ok (.if_icmp .le 6, 3) := by decide +kernel
theorem dX11_sheet_49 : decode cX11_sheet 49 = .ok (.bipush (-3), 2) := by decide +kernel
theorem dX11_sheet_51 : decode cX11_sheet 51 = .ok (.ireturn, 1) := by decide +kernel
theorem dX11_sheet_52 : decode cX11_sheet 52 = .ok (.aload_n 0, 1) := by decide +kernel
theorem dX11_sheet_53 : decode cX11_sheet 53 = .ok (.iload_n 1, 1) := by decide +kernel
theorem dX11_sheet_54 : decode cX11_sheet 54 = .ok (.invokevirtual 48, 3) := by decide +kernel
theorem dX11_sheet_57 : decode cX11_sheet 57 = .ok (.ifCond .eq 6, 3) := by decide +kernel
theorem dX11_sheet_60 : decode cX11_sheet 60 = .ok (.bipush (-4), 2) := by decide +kernel
theorem dX11_sheet_62 : decode cX11_sheet 62 = .ok (.ireturn, 1) := by decide +kernel
theorem dX11_sheet_63 : decode cX11_sheet 63 = .ok (.iload_n 3, 1) := by decide +kernel
theorem dX11_sheet_64 : decode cX11_sheet 64 = .ok (.ifCond .lt 8, 3) := by decide +kernel
theorem dX11_sheet_67 : decode cX11_sheet 67 = .ok (.iload 4, 2) := by decide +kernel
theorem dX11_sheet_69 : decode cX11_sheet 69 = .ok (.ifCond .ge 6, 3) := by decide +kernel
theorem dX11_sheet_72 : decode cX11_sheet 72 = .ok (.bipush (-14), 2) := by decide +kernel
theorem dX11_sheet_74 : decode cX11_sheet 74 = .ok (.ireturn, 1) := by decide +kernel
theorem dX11_sheet_75 : decode cX11_sheet 75 = .ok (.iload_n 3, 1) := by decide +kernel
theorem dX11_sheet_76 : decode cX11_sheet 76 = .ok (.ifCond .eq 21, 3) := by decide +kernel
theorem dX11_sheet_79 : decode cX11_sheet 79 = .ok (.iload 4, 2) := by decide +kernel
theorem dX11_sheet_81 : decode cX11_sheet 81 = .ok (.ifCond .eq 16, 3) := by decide +kernel
theorem dX11_sheet_84 : decode cX11_sheet 84 = .ok (.iload_n 2, 1) := by decide +kernel
theorem dX11_sheet_85 : decode cX11_sheet 85 = .ok (.iconst 3, 1) := by decide +kernel
theorem dX11_sheet_86 : decode cX11_sheet 86 = .ok (.if_icmp .ne 14, 3) := by decide +kernel
theorem dX11_sheet_89 : decode cX11_sheet 89 = .ok (.iload 4, 2) := by decide +kernel
theorem dX11_sheet_91 : decode cX11_sheet 91 = .ok (.iconst 2, 1) := by decide +kernel
theorem dX11_sheet_92 : decode cX11_sheet 92 = .ok (.irem, 1) := by decide +kernel
theorem dX11_sheet_93 : decode cX11_sheet 93 = .ok (.iconst 1, 1) := by decide +kernel
theorem dX11_sheet_94 : decode cX11_sheet 94 = .ok (.if_icmp .ne 6, 3) := by decide +kernel
theorem dX11_sheet_97 : decode cX11_sheet 97 = .ok (.bipush (-3), 2) := by decide +kernel
theorem dX11_sheet_99 : decode cX11_sheet 99 = .ok (.ireturn, 1) := by decide +kernel
theorem dX11_sheet_100 : decode cX11_sheet 100 = .ok (.aload_n 0, 1) := by decide +kernel
theorem dX11_sheet_101 : decode cX11_sheet 101 = .ok (.iload_n 1, 1) := by decide +kernel
theorem dX11_sheet_102 : decode cX11_sheet 102 = .ok (.iload_n 2, 1) := by decide +kernel
theorem dX11_sheet_103 : decode cX11_sheet 103 = .ok (.iload 5, 2) := by decide +kernel
theorem dX11_sheet_105 : decode cX11_sheet 105 = .ok (.iconst 0, 1) := by decide +kernel
theorem dX11_sheet_106 : decode cX11_sheet 106 = .ok (.iload_n 3, 1) := by decide +kernel
theorem dX11_sheet_107 : decode cX11_sheet 107 = .ok (.iload 4, 2) := by decide +kernel
theorem dX11_sheet_109 : decode cX11_sheet 109 = .ok (.imul, 1) := by decide +kernel
theorem dX11_sheet_110 : decode cX11_sheet 110 = .ok (.invokevirtual 52, 3) := by decide +kernel
theorem dX11_sheet_113 : decode cX11_sheet 113 = .ok (.aload_n 0, 1) := by decide +kernel
theorem dX11_sheet_114 : decode cX11_sheet 114 = .ok (.getfield 7, 3) := by decide +kernel
theorem dX11_sheet_117 : decode cX11_sheet 117 = .ok (.bipush 40, 2) := by decide +kernel
theorem dX11_sheet_119 : decode cX11_sheet 119 = .ok (.iload_n 1, 1) := by decide +kernel
theorem dX11_sheet_120 : decode cX11_sheet 120 = .ok (.iadd, 1) := by decide +kernel
theorem dX11_sheet_121 : decode cX11_sheet 121 = .ok (.iload_n 3, 1) := by decide +kernel
theorem dX11_sheet_122 : decode cX11_sheet 122 = .ok (.iastore, 1) := by decide +kernel
theorem dX11_sheet_123 : decode cX11_sheet 123 = .ok (.aload_n 0, 1) := by decide +kernel
theorem dX11_sheet_124 : decode cX11_sheet 124 = .ok (.getfield 7, 3) := by decide +kernel
theorem dX11_sheet_127 : decode cX11_sheet 127 = .ok (.bipush 50, 2) := by decide +kernel
theorem dX11_sheet_129 : decode cX11_sheet 129 = .ok (.iload_n 1, 1) := by decide +kernel
theorem dX11_sheet_130 : decode cX11_sheet 130 = .ok (.iadd, 1) := by decide +kernel
theorem dX11_sheet_131 : decode cX11_sheet 131 = .ok (.iload 4, 2) := by decide +kernel
theorem dX11_sheet_133 : decode cX11_sheet 133 = .ok (.iastore, 1) := by decide +kernel
theorem dX11_sheet_134 : decode cX11_sheet 134 = .ok (.iconst 0, 1) := by decide +kernel
theorem dX11_sheet_135 : decode cX11_sheet 135 = .ok (.istore 6, 2) := by decide +kernel
theorem dX11_sheet_137 : decode cX11_sheet 137 = .ok (.iload 6, 2) := by decide +kernel
theorem dX11_sheet_139 : decode cX11_sheet 139 = .ok (.iload_n 3, 1) := by decide +kernel
theorem dX11_sheet_140 : decode cX11_sheet 140 = .ok (.iload 4, 2) := by decide +kernel
theorem dX11_sheet_142 : decode cX11_sheet 142 = .ok (.imul, 1) := by decide +kernel
theorem dX11_sheet_143 : decode cX11_sheet 143 = .ok (.if_icmp .ge 23, 3) := by decide +kernel
theorem dX11_sheet_146 : decode cX11_sheet 146 = .ok (.aload_n 0, 1) := by decide +kernel
theorem dX11_sheet_147 : decode cX11_sheet 147 = .ok (.getfield 7, 3) := by decide +kernel
theorem dX11_sheet_150 : decode cX11_sheet 150 = .ok (.aload_n 0, 1) := by decide +kernel
theorem dX11_sheet_151 : decode cX11_sheet 151 = .ok (.iload_n 1, 1) := by decide +kernel
theorem dX11_sheet_152 : decode cX11_sheet 152 = .ok (.iload 6, 2) := by decide +kernel
theorem dX11_sheet_154 : decode cX11_sheet 154 = .ok (.invokevirtual 40, 3) := by decide +kernel
theorem dX11_sheet_157 : decode cX11_sheet 157 = .ok (.iload 5, 2) := by decide +kernel
theorem dX11_sheet_159 : decode cX11_sheet 159 = .ok (.iastore, 1) := by decide +kernel
theorem dX11_sheet_160 : decode cX11_sheet 160 = .ok (.iinc 6 1, 3) := by decide +kernel
theorem dX11_sheet_163 : decode cX11_sheet 163 = .ok (.goto (-26), 3) := by decide +kernel
theorem dX11_sheet_166 : decode cX11_sheet 166 = .ok (.iload_n 3, 1) := by decide +kernel
theorem dX11_sheet_167 : decode cX11_sheet 167 = .ok (.iload 4, 2) := by decide +kernel
theorem dX11_sheet_169 : decode cX11_sheet 169 = .ok (.imul, 1) := by decide +kernel
theorem dX11_sheet_170 : decode cX11_sheet 170 = .ok (.ireturn, 1) := by decide +kernel
theorem dX11_lack_0 : decode cX11_lack 0 = .ok (.aload_n 0, 1) := by decide +kernel
theorem dX11_lack_1 : decode cX11_lack 1 = .ok (.iconst 0, 1) := by decide +kernel
theorem dX11_lack_2 : decode cX11_lack 2 = .ok (.putfield 27, 3) := by decide +kernel
theorem dX11_lack_5 : decode cX11_lack 5 = .ok (.iload_n 1, 1) := by decide +kernel
theorem dX11_lack_6 : decode cX11_lack 6 = .ok (.iconst 0, 1) := by decide +kernel
theorem dX11_lack_7 : decode cX11_lack 7 = .ok (.bipush 9, 2) := by decide +kernel
theorem dX11_lack_9 : decode cX11_lack 9 = .ok (.invokestatic 44, 3) := by decide +kernel
theorem dX11_lack_12 : decode cX11_lack 12 = .ok (.ifCond .ne 6, 3) := by decide +kernel
theorem dX11_lack_15 : decode cX11_lack 15 = .ok (.bipush (-3), 2) := by decide +kernel
theorem dX11_lack_17 : decode cX11_lack 17 = .ok (.ireturn, 1) := by decide +kernel
theorem dX11_lack_18 : decode cX11_lack 18 = .ok (.aload_n 0, 1) := by decide +kernel
theorem dX11_lack_19 : decode cX11_lack 19 = .ok (.iload_n 1, 1) := by decide +kernel
theorem dX11_lack_20 : decode cX11_lack 20 = .ok (.invokevirtual 48, 3) := by decide +kernel
theorem dX11_lack_23 : decode cX11_lack 23 = .ok (.ifCond .ne 6, 3) := by decide +kernel
theorem dX11_lack_26 : decode cX11_lack 26 = .ok (.bipush (-11), 2) := by decide +kernel
theorem dX11_lack_28 : decode cX11_lack 28 = .ok (.ireturn, 1) := by decide +kernel
theorem dX11_lack_29 : decode cX11_lack 29 = .ok (.aload_n 0, 1) := by decide +kernel
theorem dX11_lack_30 : decode cX11_lack 30 = .ok (.iload_n 1, 1) := by decide +kernel
theorem dX11_lack_31 : decode cX11_lack 31 = .ok (.invokevirtual 62, 3) := by decide +kernel
theorem dX11_lack_34 : decode cX11_lack 34 = .ok (.ifCond .ne 6, 3) := by decide +kernel
theorem dX11_lack_37 : decode cX11_lack 37 = .ok (.bipush (-12), 2) := by decide +kernel
theorem dX11_lack_39 : decode cX11_lack 39 = .ok (.ireturn, 1) := by decide +kernel
theorem dX11_lack_40 : decode cX11_lack 40 = .ok (.iload_n 2, 1) := by decide +kernel
theorem dX11_lack_41 : decode cX11_lack 41 = .ok (.iconst 0, 1) := by decide +kernel
theorem dX11_lack_42 : decode cX11_lack 42 = .ok (.aload_n 0, 1) := by decide +kernel
theorem dX11_lack_43 : decode cX11_lack 43 = .ok (.getfield 7, 3) := by decide +kernel
theorem dX11_lack_46 : decode cX11_lack 46 = .ok (.bipush 40, 2) := by decide +kernel
theorem dX11_lack_48 : decode cX11_lack 48 = .ok (.iload_n 1, 1) := by decide +kernel
theorem dX11_lack_49 : decode cX11_lack 49 = .ok (.iadd, 1) := by decide +kernel
theorem dX11_lack_50 : decode cX11_lack 50 = .ok (.iaload, 1) := by decide +kernel
theorem dX11_lack_51 : decode cX11_lack 51 = .ok (.iconst 1, 1) := by decide +kernel
theorem dX11_lack_52 : decode cX11_lack 52 = .ok (.isub, 1) := by decide +kernel
theorem dX11_lack_53 : decode cX11_lack 53 = .ok (.invokestatic 44, 3) := by decide +kernel
theorem dX11_lack_56 : decode cX11_lack 56 = .ok (.ifCond .ne 6, 3) := by decide +kernel
theorem dX11_lack_59 : decode cX11_lack 59 = .ok (.bipush (-13), 2) := by decide +kernel
theorem dX11_lack_61 : decode cX11_lack 61 = .ok (.ireturn, 1) := by decide +kernel
theorem dX11_lack_62 : decode cX11_lack 62 = .ok (.aload_n 0, 1) := by decide +kernel
theorem dX11_lack_63 : decode cX11_lack 63 = .ok (.getfield 7, 3) := by decide +kernel
theorem dX11_lack_66 : decode cX11_lack 66 = .ok (.sipush 1100, 3) := by decide +kernel
theorem dX11_lack_69 : decode cX11_lack 69 = .ok (.bipush 8, 2) := by decide +kernel
theorem dX11_lack_71 : decode cX11_lack 71 = .ok (.iload_n 1, 1) := by decide +kernel
theorem dX11_lack_72 : decode cX11_lack 72 = .ok (.imul, 1) := by decide +kernel
theorem dX11_lack_73 : decode cX11_lack 73 = .ok (.iadd, 1) := by decide +kernel
theorem dX11_lack_74 : decode cX11_lack 74 = .ok (.iload_n 2, 1) := by decide +kernel
theorem dX11_lack_75 : decode cX11_lack 75 = .ok (.iadd, 1) := by decide +kernel
theorem dX11_lack_76 : decode cX11_lack 76 = .ok (.iaload, 1) := by decide +kernel
theorem dX11_lack_77 : decode cX11_lack 77 = .ok (.iconst 1, 1) := by decide +kernel
theorem dX11_lack_78 : decode cX11_lack 78 = .ok (.if_icmp .ne 6, 3) := by decide +kernel
theorem dX11_lack_81 : decode cX11_lack 81 = .ok (.bipush (-11), 2) := by decide +kernel
theorem dX11_lack_83 : decode cX11_lack 83 = .ok (.ireturn, 1) := by decide +kernel
theorem dX11_lack_84 : decode cX11_lack 84 = .ok (.aload_n 0, 1) := by decide +kernel
theorem dX11_lack_85 : decode cX11_lack 85 = .ok (.invokevirtual 37, 3) := by decide +kernel
theorem dX11_lack_88 : decode cX11_lack 88 = .ok (.aload_n 0, 1) := by decide +kernel
theorem dX11_lack_89 : decode cX11_lack 89 = .ok (.getfield 7, 3) := by decide +kernel
theorem dX11_lack_92 : decode cX11_lack 92 = .ok (.sipush 1100, 3) := by decide +kernel
theorem dX11_lack_95 : decode cX11_lack 95 = .ok (.bipush 8, 2) := by decide +kernel
theorem dX11_lack_97 : decode cX11_lack 97 = .ok (.iload_n 1, 1) := by decide +kernel
theorem dX11_lack_98 : decode cX11_lack 98 = .ok (.imul, 1) := by decide +kernel
theorem dX11_lack_99 : decode cX11_lack 99 = .ok (.iadd, 1) := by decide +kernel
theorem dX11_lack_100 : decode cX11_lack 100 = .ok (.iload_n 2, 1) := by decide +kernel
theorem dX11_lack_101 : decode cX11_lack 101 = .ok (.iadd, 1) := by decide +kernel
theorem dX11_lack_102 : decode cX11_lack 102 = .ok (.iconst 1, 1) := by decide +kernel
theorem dX11_lack_103 : decode cX11_lack 103 = .ok (.iastore, 1) := by decide +kernel
theorem dX11_lack_104 : decode cX11_lack 104 = .ok (.iconst 0, 1) := by decide +kernel
theorem dX11_lack_105 : decode cX11_lack 105 = .ok (.istore_n 3, 1) := by decide +kernel
theorem dX11_lack_106 : decode cX11_lack 106 = .ok (.aload_n 0, 1) := by decide +kernel
theorem dX11_lack_107 : decode cX11_lack 107 = .ok (.getfield 7, 3) := by decide +kernel
theorem dX11_lack_110 : decode cX11_lack 110 = .ok (.bipush 50, 2) := by decide +kernel
theorem dX11_lack_112 : decode cX11_lack 112 = .ok (.iload_n 1, 1) := by decide +kernel
theorem dX11_lack_113 : decode cX11_lack 113 = .ok (.iadd, 1) := by decide +kernel
theorem dX11_lack_114 : decode cX11_lack 114 = .ok (.iaload, 1) := by decide +kernel
theorem dX11_lack_115 : decode cX11_lack 115 = .ok (.istore 4, 2) := by decide +kernel
theorem dX11_lack_117 : decode cX11_lack 117 = .ok (.iconst 0, 1) := by decide +kernel
theorem dX11_lack_118 : decode cX11_lack 118 = .ok (.istore 5, 2) := by decide +kernel
theorem dX11_lack_120 : decode cX11_lack 120 = .ok (.iload 5, 2) := by decide +kernel
theorem dX11_lack_122 : decode cX11_lack 122 = .ok (.iload 4, 2) := by decide +kernel
theorem dX11_lack_124 : decode cX11_lack 124 = .ok (.if_icmp .ge 55, 3) := by decide +kernel
theorem dX11_lack_127 : decode cX11_lack 127 = .ok (.iload_n 3, 1) := by decide +kernel
theorem dX11_lack_128 : decode cX11_lack 128 = .ok (.aload_n 0, 1) := by decide +kernel
theorem dX11_lack_129 : decode cX11_lack 129 = .ok (.getfield 7, 3) := by decide +kernel
theorem dX11_lack_132 : decode cX11_lack 132 = .ok (.aload_n 0, 1) := by decide +kernel
theorem dX11_lack_133 : decode cX11_lack 133 = .ok (.iload_n 1, 1) := by decide +kernel
theorem dX11_lack_134 : decode cX11_lack 134 = .ok (.iload 4, 2) := by decide +kernel
theorem dX11_lack_136 : decode cX11_lack 136 = .ok (.iload_n 2, 1) := by decide +kernel
theorem dX11_lack_137 : decode cX11_lack 137 = .ok (.imul, 1) := by decide +kernel
theorem dX11_lack_138 : decode cX11_lack 138 = .ok (.iload 5, 2) := by decide +kernel
theorem dX11_lack_140 : decode cX11_lack 140 = .ok (.iadd, 1) := by decide +kernel
theorem dX11_lack_141 : decode cX11_lack 141 = .ok (.invokevirtual 40, 3) := by decide +kernel
theorem dX11_lack_144 : decode cX11_lack 144 = .ok (.iaload, 1) := by decide +kernel
theorem dX11_lack_145 : decode cX11_lack 145 = .ok (.ifCond .le 7, 3) := by decide +kernel
theorem dX11_lack_148 : decode cX11_lack 148 = .ok (.iconst 1, 1) := by decide +kernel
theorem dX11_lack_149 : decode cX11_lack 149 = .ok (.goto 4, 3) := by decide +kernel
theorem dX11_lack_152 : decode cX11_lack 152 = .ok (.iconst 0, 1) := by decide +kernel
theorem dX11_lack_153 : decode cX11_lack 153 = .ok (.iadd, 1) := by decide +kernel
theorem dX11_lack_154 : decode cX11_lack 154 = .ok (.istore_n 3, 1) := by decide +kernel
theorem dX11_lack_155 : decode cX11_lack 155 = .ok (.aload_n 0, 1) := by decide +kernel
theorem dX11_lack_156 : decode cX11_lack 156 = .ok (.getfield 7, 3) := by decide +kernel
theorem dX11_lack_159 : decode cX11_lack 159 = .ok (.aload_n 0, 1) := by decide +kernel
theorem dX11_lack_160 : decode cX11_lack 160 = .ok (.iload_n 1, 1) := by decide +kernel
theorem dX11_lack_161 : decode cX11_lack 161 = .ok (.iload 4, 2) := by decide +kernel
theorem dX11_lack_163 : decode cX11_lack 163 = .ok (.iload_n 2, 1) := by decide +kernel
theorem dX11_lack_164 : decode cX11_lack 164 = .ok (.imul, 1) := by decide +kernel
theorem dX11_lack_165 : decode cX11_lack 165 = .ok (.iload 5, 2) := by decide +kernel
theorem dX11_lack_167 : decode cX11_lack 167 = .ok (.iadd, 1) := by decide +kernel
theorem dX11_lack_168 : decode cX11_lack 168 = .ok (.invokevirtual 40, 3) := by decide +kernel
theorem dX11_lack_171 : decode cX11_lack 171 = .ok (.iconst 0, 1) := by decide +kernel
theorem dX11_lack_172 : decode cX11_lack 172 = .ok (.iastore, 1) := by decide +kernel
theorem dX11_lack_173 : decode cX11_lack 173 = .ok (.iinc 5 1, 3) := by decide +kernel
theorem dX11_lack_176 : decode cX11_lack 176 = .ok (.goto (-56), 3) := by decide +kernel
theorem dX11_lack_179 : decode cX11_lack 179 = .ok (.aload_n 0, 1) := by decide +kernel
theorem dX11_lack_180 : decode cX11_lack 180 = .ok (.getfield 7, 3) := by decide +kernel
theorem dX11_lack_183 : decode cX11_lack 183 = .ok (.bipush 10, 2) := by decide +kernel
theorem dX11_lack_185 : decode cX11_lack 185 = .ok (.iload_n 1, 1) := by decide +kernel
theorem dX11_lack_186 : decode cX11_lack 186 = .ok (.iadd, 1) := by decide +kernel
theorem dX11_lack_187 : decode cX11_lack 187 = .ok (.dup2, 1) := by decide +kernel
theorem dX11_lack_188 : decode cX11_lack 188 = .ok (.iaload, 1) := by decide +kernel
theorem dX11_lack_189 : decode cX11_lack 189 = .ok (.iload_n 3, 1) := by decide +kernel
theorem dX11_lack_190 : decode cX11_lack 190 = .ok (.isub, 1) := by decide +kernel
theorem dX11_lack_191 : decode cX11_lack 191 = .ok (.iastore, 1) := by decide +kernel
theorem dX11_lack_192 : decode cX11_lack 192 = .ok (.iload_n 3, 1) := by decide +kernel
theorem dX11_lack_193 : decode cX11_lack 193 = .ok (.ireturn, 1) := by decide +kernel
theorem dX11_clear_0 : decode cX11_clear 0 = .ok (.aload_n 0, 1) := by decide +kernel
theorem dX11_clear_1 : decode cX11_clear 1 = .ok (.iconst 0, 1) := by decide +kernel
theorem dX11_clear_2 : decode cX11_clear 2 = .ok (.putfield 27, 3) := by decide +kernel
theorem dX11_clear_5 : decode cX11_clear 5 = .ok (.iload_n 1, 1) := by decide +kernel
theorem dX11_clear_6 : decode cX11_clear 6 = .ok (.iconst 0, 1) := by decide +kernel
theorem dX11_clear_7 : decode cX11_clear 7 = .ok (.bipush 9, 2) := by decide +kernel
theorem dX11_clear_9 : decode cX11_clear 9 = .ok (.invokestatic 44, 3) := by decide +kernel
theorem dX11_clear_12 : decode cX11_clear 12 = .ok (.ifCond .ne 6, 3) := by decide +kernel
theorem dX11_clear_15 : decode cX11_clear 15 = .ok (.bipush (-3), 2) := by decide +kernel
theorem dX11_clear_17 : decode cX11_clear 17 = .ok (.ireturn, 1) := by decide +kernel
theorem dX11_clear_18 : decode cX11_clear 18 = .ok (.aload_n 0, 1) := by decide +kernel
theorem dX11_clear_19 : decode cX11_clear 19 = .ok (.iload_n 1, 1) := by decide +kernel
theorem dX11_clear_20 : decode cX11_clear 20 = .ok (.invokevirtual 48, 3) := by decide +kernel
theorem dX11_clear_23 : decode cX11_clear 23 = .ok (.ifCond .ne 6, 3) := by decide +kernel
theorem dX11_clear_26 : decode cX11_clear 26 = .ok (.bipush (-11), 2) := by decide +kernel
theorem dX11_clear_28 : decode cX11_clear 28 = .ok (.ireturn, 1) := by decide +kernel
theorem dX11_clear_29 : decode cX11_clear 29 = .ok (.aload_n 0, 1) := by decide +kernel
theorem dX11_clear_30 : decode cX11_clear 30 = .ok (.invokevirtual 37, 3) := by decide +kernel
theorem dX11_clear_33 : decode cX11_clear 33 = .ok (.aload_n 0, 1) := by decide +kernel
theorem dX11_clear_34 : decode cX11_clear 34 = .ok (.getfield 7, 3) := by decide +kernel
theorem dX11_clear_37 : decode cX11_clear 37 = .ok (.iconst 0, 1) := by decide +kernel
theorem dX11_clear_38 : decode cX11_clear 38 = .ok (.iload_n 1, 1) := by decide +kernel
theorem dX11_clear_39 : decode cX11_clear 39 = .ok (.iadd, 1) := by decide +kernel
theorem dX11_clear_40 : decode cX11_clear 40 = .ok (.iconst (-1), 1) := by decide +kernel
theorem dX11_clear_41 : decode cX11_clear 41 = .ok (.iastore, 1) := by decide +kernel
theorem dX11_clear_42 : decode cX11_clear 42 = .ok (.aload_n 0, 1) := by decide +kernel
theorem dX11_clear_43 : decode cX11_clear 43 = .ok (.getfield 7, 3) := by decide +kernel
theorem dX11_clear_46 : decode cX11_clear 46 = .ok (.bipush 10, 2) := by decide +kernel
theorem dX11_clear_48 : decode cX11_clear 48 = .ok (.iload_n 1, 1) := by decide +kernel
theorem dX11_clear_49 : decode cX11_clear 49 = .ok (.iadd, 1) := by decide +kernel
theorem dX11_clear_50 : decode cX11_clear 50 = .ok (.iconst 0, 1) := by decide +kernel
theorem dX11_clear_51 : decode cX11_clear 51 = .ok (.iastore, 1) := by decide +kernel
theorem dX11_clear_52 : decode cX11_clear 52 = .ok (.iconst 1, 1) := by decide +kernel
theorem dX11_clear_53 : decode cX11_clear 53 = .ok (.ireturn, 1) := by decide +kernel
theorem dX11_isOf_0 : decode cX11_isOf 0 = .ok (.aload_n 0, 1) := by decide +kernel
theorem dX11_isOf_1 : decode cX11_isOf 1 = .ok (.getfield 7, 3) := by decide +kernel
theorem dX11_isOf_4 : decode cX11_isOf 4 = .ok (.iconst 0, 1) := by decide +kernel
theorem dX11_isOf_5 : decode cX11_isOf 5 = .ok (.iload_n 1, 1) := by decide +kernel
theorem dX11_isOf_6 : decode cX11_isOf 6 = .ok (.iadd, 1) := by decide +kernel
theorem dX11_isOf_7 : decode cX11_isOf 7 = .ok (.iaload, 1) := by decide +kernel
theorem dX11_isOf_8 : decode cX11_isOf 8 = .ok (.istore_n 3, 1) := by decide +kernel
theorem dX11_isOf_9 : decode cX11_isOf 9 = .ok (.iload_n 2, 1) := by decide +kernel
theorem dX11_isOf_10 : decode cX11_isOf 10 = .ok (.ifCond .eq 18, 3) := by decide +kernel
theorem dX11_isOf_13 : decode cX11_isOf 13 = .ok (.iload_n 3, 1) := by decide +kernel
theorem dX11_isOf_14 : decode cX11_isOf 14 = .ok (.iload_n 2, 1) := by decide +kernel
theorem dX11_isOf_15 : decode cX11_isOf 15 = .ok (.if_icmp .eq 13, 3) := by decide +kernel
theorem dX11_isOf_18 : decode cX11_isOf 18 = .ok (.iload_n 2, 1) := by decide +kernel
theorem dX11_isOf_19 : decode cX11_isOf 19 = .ok (.iconst 2, 1) := by decide +kernel
theorem dX11_isOf_20 : decode cX11_isOf 20 = .ok (.if_icmp .ne 12, 3) := by decide +kernel
theorem dX11_isOf_23 : decode cX11_isOf 23 = .ok (.iload_n 3, 1) := by decide +kernel
theorem dX11_isOf_24 : decode cX11_isOf 24 = .ok (.iconst 3, 1) := by decide +kernel
theorem dX11_isOf_25 : decode cX11_isOf 25 = .ok (.if_icmp .ne 7, 3) := by decide +kernel
theorem dX11_isOf_28 : decode cX11_isOf 28 = .ok (.iconst 1, 1) := by decide +kernel
theorem dX11_isOf_29 : decode cX11_isOf 29 = .ok (.goto 4, 3) := by decide +kernel
theorem dX11_isOf_32 : decode cX11_isOf 32 = .ok (.iconst 0, 1) := by decide +kernel
theorem dX11_isOf_33 : decode cX11_isOf 33 = .ok (.ireturn, 1) := by decide +kernel
theorem dX11_look_0 : decode cX11_look 0 = .ok (.aload_n 0, 1) := by decide +kernel
theorem dX11_look_1 : decode cX11_look 1 = .ok (.iconst 0, 1) := by decide +kernel
theorem dX11_look_2 : decode cX11_look 2 = .ok (.putfield 27, 3) := by decide +kernel
theorem dX11_look_5 : decode cX11_look 5 = .ok (.iload_n 1, 1) := by decide +kernel
theorem dX11_look_6 : decode cX11_look 6 = .ok (.iconst 0, 1) := by decide +kernel
theorem dX11_look_7 : decode cX11_look 7 = .ok (.bipush 9, 2) := by decide +kernel
theorem dX11_look_9 : decode cX11_look 9 = .ok (.invokestatic 44, 3) := by decide +kernel
theorem dX11_look_12 : decode cX11_look 12 = .ok (.ifCond .eq 12, 3) := by decide +kernel
theorem dX11_look_15 : decode cX11_look 15 = .ok (.iload_n 2, 1) := by decide +kernel
theorem dX11_look_16 : decode cX11_look 16 = .ok (.iconst 0, 1) := by decide +kernel
theorem dX11_look_17 : decode cX11_look 17 = .ok (.iconst 4, 1) := by decide +kernel
theorem dX11_look_18 : decode cX11_look 18 = .ok (.invokestatic 44, 3) := by decide +kernel
theorem dX11_look_21 : decode cX11_look 21 = .ok (.ifCond .ne 6, 3) := by decide +kernel
theorem dX11_look_24 : decode cX11_look 24 = .ok (.bipush (-3), 2) := by decide +kernel
theorem dX11_look_26 : decode cX11_look 26 = .ok (.ireturn, 1) := by decide +kernel
theorem dX11_look_27 : decode cX11_look 27 = .ok (.aload_n 0, 1) := by decide +kernel
theorem dX11_look_28 : decode cX11_look 28 = .ok (.iload_n 1, 1) := by decide +kernel
theorem dX11_look_29 : decode cX11_look 29 = .ok (.invokevirtual 48, 3) := by decide +kernel
theorem dX11_look_32 : decode cX11_look 32 = .ok (.ifCond .ne 6, 3) := by decide +kernel
theorem dX11_look_35 : decode cX11_look 35 = .ok (.bipush (-11), 2) := by decide +kernel
theorem dX11_look_37 : decode cX11_look 37 = .ok (.ireturn, 1) := by decide +kernel
theorem dX11_look_38 : decode cX11_look 38 = .ok (.aload_n 0, 1) := by decide +kernel
theorem dX11_look_39 : decode cX11_look 39 = .ok (.iload_n 1, 1) := by decide +kernel
theorem dX11_look_40 : decode cX11_look 40 = .ok (.iload_n 2, 1) := by decide +kernel
theorem dX11_look_41 : decode cX11_look 41 = .ok (.invokevirtual 65, 3) := by decide +kernel
theorem dX11_look_44 : decode cX11_look 44 = .ok (.ifCond .ne 6, 3) := by decide +kernel
theorem dX11_look_47 : decode cX11_look 47 = .ok (.bipush (-12), 2) := by decide +kernel
theorem dX11_look_49 : decode cX11_look 49 = .ok (.ireturn, 1) := by decide +kernel
theorem dX11_look_50 : decode cX11_look 50 = .ok (.iload_n 2, 1) := by decide +kernel
theorem dX11_look_51 : decode cX11_look 51 = .ok (.ifCond .ne 13, 3) := by decide +kernel
theorem dX11_look_54 : decode cX11_look 54 = .ok (.aload_n 0, 1) := by decide +kernel
theorem dX11_look_55 : decode cX11_look 55 = .ok (.getfield 7, 3) := by decide +kernel
theorem dX11_look_58 : decode cX11_look 58 = .ok (.bipush 10, 2) := by decide +kernel
theorem dX11_look_60 : decode cX11_look 60 = .ok (.iload_n 1, 1) := by decide +kernel
theorem dX11_look_61 : decode cX11_look 61 = .ok (.iadd, 1) := by decide +kernel
theorem dX11_look_62 : decode cX11_look 62 = .ok (.iaload, 1) := by decide +kernel
theorem dX11_look_63 : decode cX11_look 63 = .ok (.ireturn, 1) := by decide +kernel
theorem dX11_look_64 : decode cX11_look 64 = .ok (.iload_n 2, 1) := by decide +kernel
theorem dX11_look_65 : decode cX11_look 65 = .ok (.iconst 4, 1) := by decide +kernel
theorem dX11_look_66 : decode cX11_look 66 = .ok (.if_icmp .ne 13, 3) := by decide +kernel
theorem dX11_look_69 : decode cX11_look 69 = .ok (.aload_n 0, 1) := by decide +kernel
theorem dX11_look_70 : decode cX11_look 70 = .ok (.getfield 7, 3) := by decide +kernel
theorem dX11_look_73 : decode cX11_look 73 = .ok (.bipush 30, 2) := by decide +kernel
theorem dX11_look_75 : decode cX11_look 75 = .ok (.iload_n 1, 1) := by decide +kernel
theorem dX11_look_76 : decode cX11_look 76 = .ok (.iadd, 1) := by decide +kernel
theorem dX11_look_77 : decode cX11_look 77 = .ok (.iaload, 1) := by decide +kernel
theorem dX11_look_78 : decode cX11_look 78 = .ok (.ireturn, 1) := by decide +kernel
theorem dX11_look_79 : decode cX11_look 79 = .ok (.iload_n 2, 1) := by decide +kernel
theorem dX11_look_80 : decode cX11_look 80 = .ok (.iconst 1, 1) := by decide +kernel
theorem dX11_look_81 : decode cX11_look 81 = .ok (.if_icmp .ne 39, 3) := by decide +kernel
theorem dX11_look_84 : decode cX11_look 84 = .ok (.iload_n 3, 1) := by decide +kernel
theorem dX11_look_85 : decode cX11_look 85 = .ok (.iconst 0, 1) := by decide +kernel
theorem dX11_look_86 : decode cX11_look 86 = .ok (.aload_n 0, 1) := by decide +kernel
theorem dX11_look_87 : decode cX11_look 87 = .ok (.getfield 7, 3) := by decide +kernel
theorem dX11_look_90 : decode cX11_look 90 = .ok (.bipush 10, 2) := by decide +kernel
theorem dX11_look_92 : decode cX11_look 92 = .ok (.iload_n 1, 1) := by decide +kernel
theorem dX11_look_93 : decode cX11_look 93 = .ok (.iadd, 1) := by decide +kernel
theorem dX11_look_94 : decode cX11_look 94 = .ok (.iaload, 1) := by decide +kernel
theorem dX11_look_95 : decode cX11_look 95 = .ok (.iconst 1, 1) := by decide +kernel
theorem dX11_look_96 : decode cX11_look 96 = .ok (.isub, 1) := by decide +kernel
theorem dX11_look_97 : decode cX11_look 97 = .ok (.invokestatic 44, 3) := by decide +kernel
theorem dX11_look_100 : decode cX11_look 100 = .ok (.ifCond .eq 17, 3) := by decide +kernel
theorem dX11_look_103 : decode cX11_look 103 = .ok (.aload_n 0, 1) := by decide +kernel
theorem dX11_look_104 : decode cX11_look 104 = .ok (.getfield 7, 3) := by decide +kernel
theorem dX11_look_107 : decode cX11_look 107 = .ok (.aload_n 0, 1) := by decide +kernel
theorem dX11_look_108 : decode cX11_look 108 = .ok (.iload_n 1, 1) := by decide +kernel
theorem dX11_look_109 : decode cX11_look 109 = .ok (.iload_n 3, 1) := by decide +kernel
theorem dX11_look_110 : decode cX11_look 110 = .ok (.invokevirtual 59, 3) := by decide +kernel
theorem dX11_look_113 : decode cX11_look 113 = .ok (.iaload, 1) := by decide +kernel
theorem dX11_look_114 : decode cX11_look 114 = .ok (.goto 5, 3) := by decide +kernel
theorem dX11_look_117 : decode cX11_look 117 = .ok (.bipush (-13), 2) := by decide +kernel
theorem dX11_look_119 : decode cX11_look 119 = .ok (.ireturn, 1) := by decide +kernel
theorem dX11_look_120 : decode cX11_look 120 = .ok (.iload_n 3, 1) := by decide +kernel
theorem dX11_look_121 : decode cX11_look 121 = .ok (.iconst 0, 1) := by decide +kernel
theorem dX11_look_122 : decode cX11_look 122 = .ok (.aload_n 0, 1) := by decide +kernel
theorem dX11_look_123 : decode cX11_look 123 = .ok (.getfield 7, 3) := by decide +kernel
theorem dX11_look_126 : decode cX11_look 126 = .ok (.bipush 40, 2) := by decide +kernel
theorem dX11_look_128 : decode cX11_look 128 = .ok (.iload_n 1, 1) := by decide +kernel
theorem dX11_look_129 : decode cX11_look 129 = .ok (.iadd, 1) := by decide +kernel
theorem dX11_look_130 : decode cX11_look 130 = .ok (.iaload, 1) := by decide +kernel
theorem dX11_look_131 : decode cX11_look 131 = .ok (.iconst 1, 1) := by decide +kernel
theorem dX11_look_132 : decode cX11_look 132 = .ok (.isub, 1) := by decide +kernel
theorem dX11_look_133 : decode cX11_look 133 = .ok (.invokestatic 44, 3) := by decide +kernel
theorem dX11_look_136 : decode cX11_look 136 = .ok (.ifCond .ne 6, 3) := by decide +kernel
theorem dX11_look_139 : decode cX11_look 139 = .ok (.bipush (-13), 2) := by decide +kernel
theorem dX11_look_141 : decode cX11_look 141 = .ok (.ireturn, 1) := by decide +kernel
theorem dX11_look_142 : decode cX11_look 142 = .ok (.aload_n 0, 1) := by decide +kernel
theorem dX11_look_143 : decode cX11_look 143 = .ok (.getfield 7, 3) := by decide +kernel
theorem dX11_look_146 : decode cX11_look 146 = .ok (.sipush 1100, 3) := by decide +kernel
theorem dX11_look_149 : decode cX11_look 149 = .ok (.bipush 8, 2) := by decide +kernel
theorem dX11_look_151 : decode cX11_look 151 = .ok (.iload_n 1, 1) := by decide +kernel
theorem dX11_look_152 : decode cX11_look 152 = .ok (.imul, 1) := by decide +kernel
theorem dX11_look_153 : decode cX11_look 153 = .ok (.iadd, 1) := by decide +kernel
theorem dX11_look_154 : decode cX11_look 154 = .ok (.iload_n 3, 1) := by decide +kernel
theorem dX11_look_155 : decode cX11_look 155 = .ok (.iadd, 1) := by decide +kernel
theorem dX11_look_156 : decode cX11_look 156 = .ok (.iaload, 1) := by decide +kernel
theorem dX11_look_157 : decode cX11_look 157 = .ok (.iconst 1, 1) := by decide +kernel
theorem dX11_look_158 : decode cX11_look 158 = .ok (.if_icmp .ne 6, 3) := by decide +kernel
theorem dX11_look_161 : decode cX11_look 161 = .ok (.bipush (-11), 2) := by decide +kernel
theorem dX11_look_163 : decode cX11_look 163 = .ok (.ireturn, 1) := by decide +kernel
theorem dX11_look_164 : decode cX11_look 164 = .ok (.aload_n 0, 1) := by decide +kernel
theorem dX11_look_165 : decode cX11_look 165 = .ok (.getfield 7, 3) := by decide +kernel
theorem dX11_look_168 : decode cX11_look 168 = .ok (.bipush 50, 2) := by decide +kernel
theorem dX11_look_170 : decode cX11_look 170 = .ok (.iload_n 1, 1) := by decide +kernel
theorem dX11_look_171 : decode cX11_look 171 = .ok (.iadd, 1) := by decide +kernel
theorem dX11_look_172 : decode cX11_look 172 = .ok (.iaload, 1) := by decide +kernel
theorem dX11_look_173 : decode cX11_look 173 = .ok (.istore 5, 2) := by decide +kernel
theorem dX11_look_175 : decode cX11_look 175 = .ok (.iload_n 2, 1) := by decide +kernel
theorem dX11_look_176 : decode cX11_look 176 = .ok (.iconst 2, 1) := by decide +kernel
theorem dX11_look_177 : decode cX11_look 177 = .ok (.if_icmp .ne 39, 3) := by decide +kernel
theorem dX11_look_180 : decode cX11_look 180 = .ok (.iload 4, 2) := by decide +kernel
theorem dX11_look_182 : decode cX11_look 182 = .ok (.iconst 0, 1) := by decide +kernel
theorem dX11_look_183 : decode cX11_look 183 = .ok (.iload 5, 2) := by decide +kernel
theorem dX11_look_185 : decode cX11_look 185 = .ok (.iconst 1, 1) := by decide +kernel
theorem dX11_look_186 : decode cX11_look 186 = .ok (.isub, 1) := by decide +kernel
theorem dX11_look_187 : decode cX11_look 187 = .ok (.invokestatic 44, 3) := by decide +kernel
theorem dX11_look_190 : decode cX11_look 190 = .ok (.ifCond .eq 23, 3) := by decide +kernel
theorem dX11_look_193 : decode cX11_look 193 = .ok (.aload_n 0, 1) := by decide +kernel
theorem dX11_look_194 : decode cX11_look 194 = .ok (.getfield 7, 3) := by decide +kernel
theorem dX11_look_197 : decode cX11_look 197 = .ok (.aload_n 0, 1) := by decide +kernel
theorem dX11_look_198 : decode cX11_look 198 = .ok (.iload_n 1, 1) := by decide +kernel
theorem dX11_look_199 : decode cX11_look 199 = .ok (.iload 5, 2) := by decide +kernel
theorem dX11_look_201 : decode cX11_look 201 = .ok (.iload_n 3, 1) := by decide +kernel
theorem dX11_look_202 : decode cX11_look 202 = .ok (.imul, 1) := by decide +kernel
theorem dX11_look_203 : decode cX11_look 203 = .ok (.iload 4, 2) := by decide +kernel
theorem dX11_look_205 : decode cX11_look 205 = .ok (.iadd, 1) := by decide +kernel
theorem dX11_look_206 : decode cX11_look 206 = .ok (.invokevirtual 40, 3) := by decide +kernel
theorem dX11_look_209 : decode cX11_look 209 = .ok (.iaload, 1) := by decide +kernel
theorem dX11_look_210 : decode cX11_look 210 = .ok (.goto 5, 3) := by decide +kernel
theorem dX11_look_213 : decode cX11_look 213 = .ok (.bipush (-13), 2) := by decide +kernel
theorem dX11_look_215 : decode cX11_look 215 = .ok (.ireturn, 1) := by decide +kernel
theorem dX11_look_216 : decode cX11_look 216 = .ok (.iload 4, 2) := by decide +kernel
theorem dX11_look_218 : decode cX11_look 218 = .ok (.iconst 0, 1) := by decide +kernel
theorem dX11_look_219 : decode cX11_look 219 = .ok (.iload 5, 2) := by decide +kernel
theorem dX11_look_221 : decode cX11_look 221 = .ok (.iconst 2, 1) := by decide +kernel
theorem dX11_look_222 : decode cX11_look 222 = .ok (.idiv, 1) := by decide +kernel
theorem dX11_look_223 : decode cX11_look 223 = .ok (.iconst 1, 1) := by decide +kernel
theorem dX11_look_224 : decode cX11_look 224 = .ok (.isub, 1) := by decide +kernel
theorem dX11_look_225 : decode cX11_look 225 = .ok (.invokestatic 44, 3) := by decide +kernel
theorem dX11_look_228 : decode cX11_look 228 = .ok (.ifCond .eq 47, 3) := by decide +kernel
theorem dX11_look_231 : decode cX11_look 231 = .ok (.aload_n 0, 1) := by decide +kernel
theorem dX11_look_232 : decode cX11_look 232 = .ok (.getfield 7, 3) := by decide +kernel
theorem dX11_look_235 : decode cX11_look 235 = .ok (.aload_n 0, 1) := by decide +kernel
theorem dX11_look_236 : decode cX11_look 236 = .ok (.iload_n 1, 1) := by decide +kernel
theorem dX11_look_237 : decode cX11_look 237 = .ok (.iload 5, 2) := by decide +kernel
theorem dX11_look_239 : decode cX11_look 239 = .ok (.iload_n 3, 1) := by decide +kernel
theorem dX11_look_240 : decode cX11_look 240 = .ok (.imul, 1) := by decide +kernel
theorem dX11_look_241 : decode cX11_look 241 = .ok (.iconst 2, 1) := by decide +kernel
theorem dX11_look_242 : decode cX11_look 242 = .ok (.iload 4, 2) := by decide +kernel
theorem dX11_look_244 : decode cX11_look 244 = .ok (.imul, 1) := by decide +kernel
theorem dX11_look_245 : decode cX11_look 245 = .ok (.iadd, 1) := by decide +kernel
theorem dX11_look_246 : decode cX11_look 246 = .ok (.invokevirtual 40, 3) := by decide +kernel
theorem dX11_look_249 : decode cX11_look 249 = .ok (.iaload, 1) := by decide +kernel
theorem dX11_look_250 : decode cX11_look 250 = .ok (.aload_n 0, 1) := by decide +kernel
theorem dX11_look_251 : decode cX11_look 251 = .ok (.getfield 7, 3) := by decide +kernel
theorem dX11_look_254 : decode cX11_look 254 = .ok (.aload_n 0, 1) := by decide +kernel
theorem dX11_look_255 : decode cX11_look 255 = .ok (.iload_n 1, 1) := by decide +kernel
theorem dX11_look_256 : decode cX11_look 256 = .ok (.iload 5, 2) := by decide +kernel
theorem dX11_look_258 : decode cX11_look 258 = .ok (.iload_n 3, 1) := by decide +kernel
theorem dX11_look_259 : decode cX11_look 259 = .ok (.imul, 1) := by decide +kernel
theorem dX11_look_260 : decode cX11_look 260 = .ok (.iconst 2, 1) := by decide +kernel
theorem dX11_look_261 : decode cX11_look 261 = .ok (.iload 4, 2) := by decide +kernel
theorem dX11_look_263 : decode cX11_look 263 = .ok (.imul, 1) := by decide +kernel
theorem dX11_look_264 : decode cX11_look 264 = .ok (.iadd, 1) := by decide +kernel
theorem dX11_look_265 : decode cX11_look 265 = .ok (.iconst 1, 1) := by decide +kernel
theorem dX11_look_266 : decode cX11_look 266 = .ok (.iadd, 1) := by decide +kernel
theorem dX11_look_267 : decode cX11_look 267 = .ok (.invokevirtual 40, 3) := by decide +kernel
theorem dX11_look_270 : decode cX11_look 270 = .ok (.iaload, 1) := by decide +kernel
theorem dX11_look_271 : decode cX11_look 271 = .ok (.iadd, 1) := by decide +kernel
theorem dX11_look_272 : decode cX11_look 272 = .ok (.goto 5, 3) := by decide +kernel
theorem dX11_look_275 : decode cX11_look 275 = .ok (.bipush (-13), 2) := by decide +kernel
theorem dX11_look_277 : decode cX11_look 277 = .ok (.ireturn, 1) := by decide +kernel
theorem dX11_pieces_0 : decode cX11_pieces 0 = .ok (.iconst 0, 1) := by decide +kernel
theorem dX11_pieces_1 : decode cX11_pieces 1 = .ok (.istore_n 3, 1) := by decide +kernel
theorem dX11_pieces_2 : decode cX11_pieces 2 = .ok (.iconst 0, 1) := by decide +kernel
theorem dX11_pieces_3 : decode cX11_pieces 3 = .ok (.istore 4, 2) := by decide +kernel
theorem dX11_pieces_5 : decode cX11_pieces 5 = .ok (.iload 4, 2) := by decide +kernel
theorem dX11_pieces_7 : decode cX11_pieces 7 = .ok (.iload_n 1, 1) := by decide +kernel
theorem dX11_pieces_8 : decode cX11_pieces 8 = .ok (.iload_n 2, 1) := by decide +kernel
theorem dX11_pieces_9 : decode cX11_pieces 9 = .ok (.imul, 1) := by decide +kernel
theorem dX11_pieces_10 : decode cX11_pieces 10 = .ok (.if_icmp .ge 30, 3) := by decide +kernel
theorem dX11_pieces_13 : decode cX11_pieces 13 = .ok (.aload_n 0, 1) := by decide +kernel
theorem dX11_pieces_14 : decode cX11_pieces 14 = .ok (.getfield 20, 3) := by decide +kernel
theorem dX11_pieces_17 : decode cX11_pieces 17 = .ok (.iload 4, 2) := by decide +kernel
theorem dX11_pieces_19 : decode cX11_pieces 19 = .ok (.iaload, 1) := by decide +kernel
theorem dX11_pieces_20 : decode cX11_pieces 20 = .ok (.ifCond .le 14, 3) := by decide +kernel
theorem dX11_pieces_23 : decode cX11_pieces 23 = .ok (.iinc 3 1, 3) := by decide +kernel
theorem dX11_pieces_26 : decode cX11_pieces 26 = .ok (.aload_n 0, 1) := by decide +kernel
theorem dX11_pieces_27 : decode cX11_pieces 27 = .ok (.iload 4, 2) := by decide +kernel
theorem dX11_pieces_29 : decode cX11_pieces 29 = .ok (.iload_n 1, 1) := by decide +kernel
theorem dX11_pieces_30 : decode cX11_pieces 30 = .ok (.iload_n 2, 1) := by decide +kernel
theorem dX11_pieces_31 : decode cX11_pieces 31 = .ok (.invokevirtual 69, 3) := by decide +kernel
theorem dX11_pieces_34 : decode cX11_pieces 34 = .ok (.iinc 4 1, 3) := by decide +kernel
theorem dX11_pieces_37 : decode cX11_pieces 37 = .ok (.goto (-32), 3) := by decide +kernel
theorem dX11_pieces_40 : decode cX11_pieces 40 = .ok (.iload_n 3, 1) := by decide +kernel
theorem dX11_pieces_41 : decode cX11_pieces 41 = .ok (.ireturn, 1) := by decide +kernel
theorem dX11_wipe_0 : decode cX11_wipe 0 = .ok (.aload_n 0, 1) := by decide +kernel
theorem dX11_wipe_1 : decode cX11_wipe 1 = .ok (.getfield 20, 3) := by decide +kernel
theorem dX11_wipe_4 : decode cX11_wipe 4 = .ok (.iload_n 1, 1) := by decide +kernel
theorem dX11_wipe_5 : decode cX11_wipe 5 = .ok (.iconst (-1), 1) := by decide +kernel
theorem dX11_wipe_6 : decode cX11_wipe 6 = .ok (.iastore, 1) := by decide +kernel
theorem dX11_wipe_7 : decode cX11_wipe 7 = .ok (.iconst 1, 1) := by decide +kernel
theorem dX11_wipe_8 : decode cX11_wipe 8 = .ok (.istore 4, 2) := by decide +kernel
theorem dX11_wipe_10 : decode cX11_wipe 10 = .ok (.iload 4, 2) := by decide +kernel
theorem dX11_wipe_12 : decode cX11_wipe 12 = .ok (.ifCond .eq 152, 3) := by decide +kernel
theorem dX11_wipe_15 : decode cX11_wipe 15 = .ok (.iconst 0, 1) := by decide +kernel
theorem dX11_wipe_16 : decode cX11_wipe 16 = .ok (.istore 4, 2) := by decide +kernel
theorem dX11_wipe_18 : decode cX11_wipe 18 = .ok (.iconst 0, 1) := by decide +kernel
theorem dX11_wipe_19 : decode cX11_wipe 19 = .ok (.istore 5, 2) := by decide +kernel
theorem dX11_wipe_21 : decode cX11_wipe 21 = .ok (.iload 5, 2) := by decide +kernel
theorem dX11_wipe_23 : decode cX11_wipe 23 = .ok (.iload_n 2, 1) := by decide +kernel
theorem dX11_wipe_24 : decode cX11_wipe 24 = .ok (.iload_n 3, 1) := by decide +kernel
theorem dX11_wipe_25 : decode cX11_wipe 25 = .ok (.imul, 1) := by decide +kernel
theorem dX11_wipe_26 : decode cX11_wipe 26 = .ok (.if_icmp .ge 135, 3) := by decide +kernel
theorem dX11_wipe_29 : decode cX11_wipe 29 = .ok (.iload 5, 2) := by decide +kernel
theorem dX11_wipe_31 : decode cX11_wipe 31 = .ok (.iload_n 3, 1) := by decide +kernel
theorem dX11_wipe_32 : decode cX11_wipe 32 = .ok (.irem, 1) := by decide +kernel
theorem dX11_wipe_33 : decode cX11_wipe 33 = .ok (.ifCond .le 15, 3) := by decide +kernel
theorem dX11_wipe_36 : decode cX11_wipe 36 = .ok (.aload_n 0, 1) := by decide +kernel
theorem dX11_wipe_37 : decode cX11_wipe 37 = .ok (.getfield 20, 3) := by decide +kernel
theorem dX11_wipe_40 : decode cX11_wipe 40 = .ok (.iload 5, 2) := by decide +kernel
theorem dX11_wipe_42 : decode cX11_wipe 42 = .ok (.iconst 1, 1) := by decide +kernel
theorem dX11_wipe_43 : decode cX11_wipe 43 = .ok (.isub, 1) := by decide +kernel
theorem dX11_wipe_44 : decode cX11_wipe 44 = .ok (.iaload, 1) := by decide +kernel
theorem dX11_wipe_45 : decode cX11_wipe 45 = .ok (.ifCond .lt 25, 3) := by decide +kernel
theorem dX11_wipe_48 : decode cX11_wipe 48 = .ok (.iload 5, 2) := by decide +kernel
theorem dX11_wipe_50 : decode cX11_wipe 50 = .ok (.iload_n 3, 1) := by decide +kernel
theorem dX11_wipe_51 : decode cX11_wipe 51 = .ok (.irem, 1) := by decide +kernel
theorem dX11_wipe_52 : decode cX11_wipe 52 = .ok (.iload_n 3, 1) := by decide +kernel
theorem dX11_wipe_53 : decode cX11_wipe 53 = .ok (.iconst 1, 1) := by decide +kernel
theorem dX11_wipe_54 : decode cX11_wipe 54 = .ok (.isub, 1) := by decide +kernel
theorem dX11_wipe_55 : decode cX11_wipe 55 = .ok (.if_icmp .ge 19, 3) := by decide +kernel
theorem dX11_wipe_58 : decode cX11_wipe 58 = .ok (.aload_n 0, 1) := by decide +kernel
theorem dX11_wipe_59 : decode cX11_wipe 59 = .ok (.getfield 20, 3) := by decide +kernel
theorem dX11_wipe_62 : decode cX11_wipe 62 = .ok (.iload 5, 2) := by decide +kernel
theorem dX11_wipe_64 : decode cX11_wipe 64 = .ok (.iconst 1, 1) := by decide +kernel
theorem dX11_wipe_65 : decode cX11_wipe 65 = .ok (.iadd, 1) := by decide +kernel
theorem dX11_wipe_66 : decode cX11_wipe 66 = .ok (.iaload, 1) := by decide +kernel
theorem dX11_wipe_67 : decode cX11_wipe 67 = .ok (.ifCond .ge 7, 3) := by decide +kernel
theorem dX11_wipe_70 : decode cX11_wipe 70 = .ok (.iconst 1, 1) := by decide +kernel
theorem dX11_wipe_71 : decode cX11_wipe 71 = .ok (.goto 4, 3) := by decide +kernel
theorem dX11_wipe_74 : decode cX11_wipe 74 = .ok (.iconst 0, 1) := by decide +kernel
theorem dX11_wipe_75 : decode cX11_wipe 75 = .ok (.istore 6, 2) := by decide +kernel
theorem dX11_wipe_77 : decode cX11_wipe 77 = .ok (.iload 5, 2) := by decide +kernel
theorem dX11_wipe_79 : decode cX11_wipe 79 = .ok (.iload_n 3, 1) := by decide +kernel
theorem dX11_wipe_80 : decode cX11_wipe 80 = .ok (.if_icmp .lt 15, 3) := by decide +kernel
theorem dX11_wipe_83 : decode cX11_wipe 83 = .ok (.aload_n 0, 1) := by decide +kernel
theorem dX11_wipe_84 : decode cX11_wipe 84 = .ok (.getfield 20, 3) := by decide +kernel
theorem dX11_wipe_87 : decode cX11_wipe 87 = .ok (.iload 5, 2) := by decide +kernel
theorem dX11_wipe_89 : decode cX11_wipe 89 = .ok (.iload_n 3, 1) := by decide +kernel
theorem dX11_wipe_90 : decode cX11_wipe 90 = .ok (.isub, 1) := by decide +kernel
theorem dX11_wipe_91 : decode cX11_wipe 91 = .ok (.iaload, 1) := by decide +kernel
theorem dX11_wipe_92 : decode cX11_wipe 92 = .ok (.ifCond .lt 25, 3) := by decide +kernel
theorem dX11_wipe_95 : decode cX11_wipe 95 = .ok (.iload 5, 2) := by decide +kernel
theorem dX11_wipe_97 : decode cX11_wipe 97 = .ok (.iload_n 3, 1) := by decide +kernel
theorem dX11_wipe_98 : decode cX11_wipe 98 = .ok (.iadd, 1) := by decide +kernel
theorem dX11_wipe_99 : decode cX11_wipe 99 = .ok (.iload_n 2, 1) := by decide +kernel
theorem dX11_wipe_100 : decode cX11_wipe 100 = .ok (.iload_n 3, 1) := by decide +kernel
theorem dX11_wipe_101 : decode cX11_wipe 101 = .ok (.imul, 1) := by decide +kernel
theorem dX11_wipe_102 : decode cX11_wipe 102 = .ok (.if_icmp .ge 19, 3) := by decide +kernel
theorem dX11_wipe_105 : decode cX11_wipe 105 = .ok (.aload_n 0, 1) := by decide +kernel
theorem dX11_wipe_106 : decode cX11_wipe 106 = .ok (.getfield 20, 3) := by decide +kernel
theorem dX11_wipe_109 : decode cX11_wipe 109 = .ok (.iload 5, 2) := by decide +kernel
theorem dX11_wipe_111 : decode cX11_wipe 111 = .ok (.iload_n 3, 1) := by decide +kernel
theorem dX11_wipe_112 : decode cX11_wipe 112 = .ok (.iadd, 1) := by decide +kernel
theorem dX11_wipe_113 : decode cX11_wipe 113 = .ok (.iaload, 1) := by decide +kernel
theorem dX11_wipe_114 : decode cX11_wipe 114 = .ok (.ifCond .ge 7, 3) := by decide +kernel
theorem dX11_wipe_117 : decode cX11_wipe 117 = .ok (.iconst 1, 1) := by decide +kernel
theorem dX11_wipe_118 : decode cX11_wipe 118 = .ok (.goto 4, 3) := by decide +kernel
theorem dX11_wipe_121 : decode cX11_wipe 121 = .ok (.iconst 0, 1) := by decide +kernel
theorem dX11_wipe_122 : decode cX11_wipe 122 = .ok (.istore 7, 2) := by decide +kernel
theorem dX11_wipe_124 : decode cX11_wipe 124 = .ok (.aload_n 0, 1) := by decide +kernel
theorem dX11_wipe_125 : decode cX11_wipe 125 = .ok (.getfield 20, 3) := by decide +kernel
theorem dX11_wipe_128 : decode cX11_wipe 128 = .ok (.iload 5, 2) := by decide +kernel
theorem dX11_wipe_130 : decode cX11_wipe 130 = .ok (.iaload, 1) := by decide +kernel
theorem dX11_wipe_131 : decode cX11_wipe 131 = .ok (.ifCond .le 24, 3) := by decide +kernel
theorem dX11_wipe_134 : decode cX11_wipe 134 = .ok (.iload 6, 2) := by decide +kernel
theorem dX11_wipe_136 : decode cX11_wipe 136 = .ok (.ifCond .ne 8, 3) := by decide +kernel
theorem dX11_wipe_139 : decode cX11_wipe 139 = .ok (.iload 7, 2) := by decide +kernel
theorem dX11_wipe_141 : decode cX11_wipe 141 = .ok (.ifCond .eq 14, 3) := by decide +kernel
theorem dX11_wipe_144 : decode cX11_wipe 144 = .ok (.aload_n 0, 1) := by decide +kernel
theorem dX11_wipe_145 : decode cX11_wipe 145 = .ok (.getfield 20, 3) := by decide +kernel
theorem dX11_wipe_148 : decode cX11_wipe 148 = .ok (.iload 5, 2) := by decide +kernel
theorem dX11_wipe_150 : decode cX11_wipe 150 = .ok (.iconst (-1), 1) := by decide +kernel
theorem dX11_wipe_151 : decode cX11_wipe 151 = .ok (.iastore, 1) := by decide +kernel
theorem dX11_wipe_152 : decode cX11_wipe 152 = .ok (.iconst 1, 1) := by decide +kernel
theorem dX11_wipe_153 : decode cX11_wipe 153 = .ok (.istore 4, 2) := by decide +kernel
theorem dX11_wipe_155 : decode cX11_wipe 155 = .ok (.iinc 5 1, 3) := by decide +kernel
theorem dX11_wipe_158 : decode cX11_wipe 158 = .ok (.goto (-137), 3) := by decide +kernel
theorem dX11_wipe_161 : decode cX11_wipe 161 = .ok (.goto (-151), 3) := by decide +kernel
theorem dX11_wipe_164 : decode cX11_wipe 164 = .ok (.iconst 0, 1) := by decide +kernel
theorem dX11_wipe_165 : decode cX11_wipe 165 = .ok (.istore 5, 2) := by decide +kernel
theorem dX11_wipe_167 : decode cX11_wipe 167 = .ok (.iload 5, 2) := by decide +kernel
theorem dX11_wipe_169 : decode cX11_wipe 169 = .ok (.iload_n 2, 1) := by decide +kernel
theorem dX11_wipe_170 : decode cX11_wipe 170 = .ok (.iload_n 3, 1) := by decide +kernel
theorem dX11_wipe_171 : decode cX11_wipe 171 = .ok (.imul, 1) := by decide +kernel
theorem dX11_wipe_172 : decode cX11_wipe 172 = .ok (.if_icmp .ge 37, 3) := by decide +kernel
theorem dX11_wipe_175 : decode cX11_wipe 175 = .ok (.aload_n 0, 1) := by decide +kernel
theorem dX11_wipe_176 : decode cX11_wipe 176 = .ok (.getfield 20, 3) := by decide +kernel
theorem dX11_wipe_179 : decode cX11_wipe 179 = .ok (.iload 5, 2) := by decide +kernel
theorem dX11_wipe_181 : decode cX11_wipe 181 = .ok (.aload_n 0, 1) := by decide +kernel
theorem dX11_wipe_182 : decode cX11_wipe 182 = .ok (.getfield 20, 3) := by decide +kernel
theorem dX11_wipe_185 : decode cX11_wipe 185 = .ok (.iload 5, 2) := by decide +kernel
theorem dX11_wipe_187 : decode cX11_wipe 187 = .ok (.iaload, 1) := by decide +kernel
theorem dX11_wipe_188 : decode cX11_wipe 188 = .ok (.ifCond .ge 7, 3) := by decide +kernel
theorem dX11_wipe_191 : decode cX11_wipe 191 = .ok (.iconst 0, 1) := by decide +kernel
theorem dX11_wipe_192 : decode cX11_wipe 192 = .ok (.goto 10, 3) := by decide +kernel
theorem dX11_wipe_195 : decode cX11_wipe 195 = .ok (.aload_n 0, 1) := by decide +kernel
theorem dX11_wipe_196 : decode cX11_wipe 196 = .ok (.getfield 20, 3) := by decide +kernel
theorem dX11_wipe_199 : decode cX11_wipe 199 = .ok (.iload 5, 2) := by decide +kernel
theorem dX11_wipe_201 : decode cX11_wipe 201 = .ok (.iaload, 1) := by decide +kernel
theorem dX11_wipe_202 : decode cX11_wipe 202 = .ok (.iastore, 1) := by decide +kernel
theorem dX11_wipe_203 : decode cX11_wipe 203 = .ok (.iinc 5 1, 3) := by decide +kernel
theorem dX11_wipe_206 : decode cX11_wipe 206 = .ok (.goto (-39), 3) := by decide +kernel
theorem dX11_wipe_209 : decode cX11_wipe 209 = .ok (.return_, 1) := by decide +kernel
theorem dX11_piecesWithout_0 : decode cX11_piecesWithout 0 = .ok (.iconst 0, 1) := by decide +kernel
theorem dX11_piecesWithout_1 : decode cX11_piecesWithout 1 = .ok (.istore 5, 2) := by decide +kernel
theorem dX11_piecesWithout_3 : decode cX11_piecesWithout 3 = .ok (.iload 5, 2) := by decide +kernel
theorem dX11_piecesWithout_5 : decode cX11_piecesWithout 5 = .ok (.aload_n 0, 1) := by decide +kernel
theorem dX11_piecesWithout_6 : decode cX11_piecesWithout 6 = .ok (.iload_n 1, 1) := by decide +kernel
theorem dX11_piecesWithout_7 : decode cX11_piecesWithout 7 = .ok (.invokevirtual 73, 3) := by decide +kernel
theorem dX11_piecesWithout_10 : decode cX11_piecesWithout 10 = .ok (.if_icmp .ge 88, 3) := by decide +kernel
theorem dX11_piecesWithout_13 : decode cX11_piecesWithout 13 = .ok (.iload_n 2, 1) := by decide +kernel
theorem dX11_piecesWithout_14 : decode cX11_piecesWithout 14 = .ok (.iconst (-1), 1) := by decide +kernel
theorem dX11_piecesWithout_15 : decode cX11_piecesWithout 15 = .ok (.if_icmp .eq 18, 3) := by decide +kernel
theorem dX11_piecesWithout_18 : decode cX11_piecesWithout 18 = .ok (.iload 5, 2) := by decide +kernel
theorem dX11_piecesWithout_20 : decode cX11_piecesWithout 20 = .ok (.iload_n 2, 1) := by decide +kernel
theorem dX11_piecesWithout_21 : decode cX11_piecesWithout 21 = .ok (.if_icmp .lt 12, 3) := by decide +kernel
theorem dX11_piecesWithout_24 : decode cX11_piecesWithout 24 = .ok (.iload 5, 2) := by decide +kernel
theorem dX11_piecesWithout_26 : decode cX11_piecesWithout 26 = .ok (.iload_n 2, 1) := by decide +kernel
theorem dX11_piecesWithout_27 : decode cX11_piecesWithout 27 = .ok (.iload 4, 2) := by decide +kernel
theorem dX11_piecesWithout_29 : decode cX11_piecesWithout 29 = .ok (.iadd, 1) := by decide +kernel
theorem dX11_piecesWithout_30 : decode cX11_piecesWithout 30 = .ok (.if_icmp .lt 23, 3) := by decide +kernel
theorem dX11_piecesWithout_33 : decode cX11_piecesWithout 33 = .ok (.iload_n 3, 1) := by decide +kernel
theorem dX11_piecesWithout_34 : decode cX11_piecesWithout 34 = .ok (.iconst (-1), 1) := by decide +kernel
theorem dX11_piecesWithout_35 : decode cX11_piecesWithout 35 = .ok (.if_icmp .eq 22, 3) := by decide +kernel
theorem dX11_piecesWithout_38 : decode cX11_piecesWithout 38 = .ok (.iload 5, 2) := by decide +kernel
theorem dX11_piecesWithout_40 : decode cX11_piecesWithout 40 = .ok (.iload_n 3, 1) := by decide +kernel
theorem dX11_piecesWithout_41 : decode cX11_piecesWithout 41 = .ok (.if_icmp .lt 16, 3) := by decide +kernel
theorem dX11_piecesWithout_44 : decode cX11_piecesWithout 44 = .ok (.iload 5, 2) := by decide +kernel
theorem dX11_piecesWithout_46 : decode cX11_piecesWithout 46 = .ok (.iload_n 3, 1) := by decide +kernel
theorem dX11_piecesWithout_47 : decode cX11_piecesWithout 47 = .ok (.iload 4, 2) := by decide +kernel
theorem dX11_piecesWithout_49 : decode cX11_piecesWithout 49 = .ok (.iadd, 1) := by decide +kernel
theorem dX11_piecesWithout_50 : decode cX11_piecesWithout 50 = .ok (.if_icmp .ge 7, 3) := by decide +kernel
theorem dX11_piecesWithout_53 : decode cX11_piecesWithout 53 = .ok (.iconst 1, 1) := by decide +kernel
theorem dX11_piecesWithout_54 : decode cX11_piecesWithout 54 = .ok (.goto 4, 3) := by decide +kernel
theorem dX11_piecesWithout_57 : decode cX11_piecesWithout 57 = .ok (.iconst 0, 1) := by decide +kernel
theorem dX11_piecesWithout_58 : decode cX11_piecesWithout 58 = .ok (.istore 6, 2) := by decide +kernel
theorem dX11_piecesWithout_60 : decode cX11_piecesWithout 60 = .ok (.aload_n 0, 1) := by decide +kernel
theorem dX11_piecesWithout_61 : decode cX11_piecesWithout 61 = .ok (.getfield 20, 3) := by decide +kernel
theorem dX11_piecesWithout_64 : decode cX11_piecesWithout 64 = .ok (.iload 5, 2) := by decide +kernel
theorem dX11_piecesWithout_66 : decode cX11_piecesWithout 66 = .ok (.iload 6, 2) := by decide +kernel
theorem dX11_piecesWithout_68 : decode cX11_piecesWithout 68 = .ok (.ifCond .ne 18, 3) := by decide +kernel
theorem dX11_piecesWithout_71 : decode cX11_piecesWithout 71 = .ok (.aload_n 0, 1) := by decide +kernel
theorem dX11_piecesWithout_72 : decode cX11_piecesWithout 72 = .ok (.getfield 7, 3) := by decide +kernel
theorem dX11_piecesWithout_75 : decode cX11_piecesWithout 75 = .ok (.aload_n 0, 1) := by decide +kernel
theorem dX11_piecesWithout_76 : decode cX11_piecesWithout 76 = .ok (.iload_n 1, 1) := by decide +kernel
theorem dX11_piecesWithout_77 : decode cX11_piecesWithout 77 = .ok (.iload 5, 2) := by decide +kernel
theorem dX11_piecesWithout_79 : decode cX11_piecesWithout 79 = .ok (.invokevirtual 40, 3) := by decide +kernel
theorem dX11_piecesWithout_82 : decode cX11_piecesWithout 82 = .ok (.iaload, 1) := by decide +kernel
theorem dX11_piecesWithout_83 : decode cX11_piecesWithout 83 = .ok (.ifCond .ne 7, 3) := by decide +kernel
theorem dX11_piecesWithout_86 : decode cX11_piecesWithout 86 = .ok (.iconst 0, 1) := by decide +kernel
theorem dX11_piecesWithout_87 : decode cX11_piecesWithout 87 = .ok (.goto 4, 3) := by decide +kernel
theorem dX11_piecesWithout_90 : decode cX11_piecesWithout 90 = .ok (.iconst 1, 1) := by decide +kernel
theorem dX11_piecesWithout_91 : decode cX11_piecesWithout 91 = .ok (.iastore, 1) := by decide +kernel
theorem dX11_piecesWithout_92 : decode cX11_piecesWithout 92 = .ok (.iinc 5 1, 3) := by decide +kernel
theorem dX11_piecesWithout_95 : decode cX11_piecesWithout 95 = .ok (.goto (-92), 3) := by decide +kernel
theorem dX11_piecesWithout_98 : decode cX11_piecesWithout 98 = .ok (.aload_n 0, 1) := by decide +kernel
theorem dX11_piecesWithout_99 : decode cX11_piecesWithout 99 = .ok (.aload_n 0, 1) := by decide +kernel
theorem dX11_piecesWithout_100 : decode cX11_piecesWithout 100 = .ok (.getfield 7, 3) := by decide +kernel
theorem dX11_piecesWithout_103 : decode cX11_piecesWithout 103 = .ok (.bipush 40, 2) := by decide +kernel
theorem dX11_piecesWithout_105 : decode cX11_piecesWithout 105 = .ok (.iload_n 1, 1) := by decide +kernel
theorem dX11_piecesWithout_106 : decode cX11_piecesWithout 106 = .ok (.iadd, 1) := by decide +kernel
theorem dX11_piecesWithout_107 : decode cX11_piecesWithout 107 = .ok (.iaload, 1) := by decide +kernel
theorem dX11_piecesWithout_108 : decode cX11_piecesWithout 108 = .ok (.aload_n 0, 1) := by decide +kernel
theorem dX11_piecesWithout_109 : decode cX11_piecesWithout 109 = .ok (.getfield 7, 3) := by decide +kernel
theorem dX11_piecesWithout_112 : decode cX11_piecesWithout 112 = .ok (.bipush 50, 2) := by decide +kernel
theorem dX11_piecesWithout_114 : decode cX11_piecesWithout 114 = .ok (.iload_n 1, 1) := by decide +kernel
theorem dX11_piecesWithout_115 : decode cX11_piecesWithout 115 = .ok (.iadd, 1) := by decide +kernel
theorem dX11_piecesWithout_116 : decode cX11_piecesWithout 116 = .ok (.iaload, 1) := by decide +kernel
theorem dX11_piecesWithout_117 : decode cX11_piecesWithout 117 = .ok (.invokevirtual 77, 3) := by decide +kernel
theorem dX11_piecesWithout_120 : decode cX11_piecesWithout 120 = .ok (.ireturn, 1) := by decide +kernel
theorem dX11_piecesOf_0 : decode cX11_piecesOf 0 = .ok (.aload_n 0, 1) := by decide +kernel
theorem dX11_piecesOf_1 : decode cX11_piecesOf 1 = .ok (.getfield 7, 3) := by decide +kernel
theorem dX11_piecesOf_4 : decode cX11_piecesOf 4 = .ok (.bipush 10, 2) := by decide +kernel
theorem dX11_piecesOf_6 : decode cX11_piecesOf 6 = .ok (.iload_n 1, 1) := by decide +kernel
theorem dX11_piecesOf_7 : decode cX11_piecesOf 7 = .ok (.iadd, 1) := by decide +kernel
theorem dX11_piecesOf_8 : decode cX11_piecesOf 8 = .ok (.iaload, 1) := by decide +kernel
theorem dX11_piecesOf_9 : decode cX11_piecesOf 9 = .ok (.ifCond .ne 7, 3) := by decide +kernel
theorem dX11_piecesOf_12 : decode cX11_piecesOf 12 = .ok (.iconst 0, 1) := by decide +kernel
theorem dX11_piecesOf_13 : decode cX11_piecesOf 13 = .ok (.goto 23, 3) := by decide +kernel
theorem dX11_piecesOf_16 : decode cX11_piecesOf 16 = .ok (.aload_n 0, 1) := by decide +kernel
theorem dX11_piecesOf_17 : decode cX11_piecesOf 17 = .ok (.iload_n 1, 1) := by decide +kernel
theorem dX11_piecesOf_18 : decode cX11_piecesOf 18 = .ok (.invokevirtual 62, 3) := by decide +kernel
theorem dX11_piecesOf_21 : decode cX11_piecesOf 21 = .ok (.ifCond .eq 14, 3) := by decide +kernel
theorem dX11_piecesOf_24 : decode cX11_piecesOf 24 = .ok (.aload_n 0, 1) := by decide +kernel
theorem dX11_piecesOf_25 : decode cX11_piecesOf 25 = .ok (.iload_n 1, 1) := by decide +kernel
theorem dX11_piecesOf_26 : decode cX11_piecesOf 26 = .ok (.iconst (-1), 1) := by decide +kernel
theorem dX11_piecesOf_27 : decode cX11_piecesOf 27 = .ok (.iconst (-1), 1) := by decide +kernel
theorem dX11_piecesOf_28 : decode cX11_piecesOf 28 = .ok (.iconst 1, 1) := by decide +kernel
theorem dX11_piecesOf_29 : decode cX11_piecesOf 29 = .ok (.invokevirtual 80, 3) := by decide +kernel
theorem dX11_piecesOf_32 : decode cX11_piecesOf 32 = .ok (.goto 4, 3) := by decide +kernel
theorem dX11_piecesOf_35 : decode cX11_piecesOf 35 = .ok (.iconst 1, 1) := by decide +kernel
theorem dX11_piecesOf_36 : decode cX11_piecesOf 36 = .ok (.ireturn, 1) := by decide +kernel
theorem dX11_facesOf_0 : decode cX11_facesOf 0 = .ok (.aload_n 0, 1) := by decide +kernel
theorem dX11_facesOf_1 : decode cX11_facesOf 1 = .ok (.getfield 7, 3) := by decide +kernel
theorem dX11_facesOf_4 : decode cX11_facesOf 4 = .ok (.iconst 0, 1) := by decide +kernel
theorem dX11_facesOf_5 : decode cX11_facesOf 5 = .ok (.iload_n 1, 1) := by decide +kernel
theorem dX11_facesOf_6 : decode cX11_facesOf 6 = .ok (.iadd, 1) := by decide +kernel
theorem dX11_facesOf_7 : decode cX11_facesOf 7 = .ok (.iaload, 1) := by decide +kernel
theorem dX11_facesOf_8 : decode cX11_facesOf 8 = .ok (.iconst 1, 1) := by decide +kernel
theorem dX11_facesOf_9 : decode cX11_facesOf 9 = .ok (.if_icmp .eq 23, 3) := by decide +kernel
theorem dX11_facesOf_12 : decode cX11_facesOf 12 = .ok (.aload_n 0, 1) := by decide +kernel
theorem dX11_facesOf_13 : decode cX11_facesOf 13 = .ok (.getfield 7, 3) := by decide +kernel
theorem dX11_facesOf_16 : decode cX11_facesOf 16 = .ok (.bipush 10, 2) := by decide +kernel
theorem dX11_facesOf_18 : decode cX11_facesOf 18 = .ok (.iload_n 1, 1) := by decide +kernel
theorem dX11_facesOf_19 : decode cX11_facesOf 19 = .ok (.iadd, 1) := by decide +kernel
theorem dX11_facesOf_20 : decode cX11_facesOf 20 = .ok (.iaload, 1) := by decide +kernel
theorem dX11_facesOf_21 : decode cX11_facesOf 21 = .ok (.aload_n 0, 1) := by decide +kernel
theorem dX11_facesOf_22 : decode cX11_facesOf 22 = .ok (.getfield 7, 3) := by decide +kernel
theorem dX11_facesOf_25 : decode cX11_facesOf 25 = .ok (.bipush 20, 2) := by decide +kernel
theorem dX11_facesOf_27 : decode cX11_facesOf 27 = .ok (.iload_n 1, 1) := by decide +kernel
theorem dX11_facesOf_28 : decode cX11_facesOf 28 = .ok (.iadd, 1) := by decide +kernel
theorem dX11_facesOf_29 : decode cX11_facesOf 29 = .ok (.iaload, 1) := by decide +kernel
theorem dX11_facesOf_30 : decode cX11_facesOf 30 = .ok (.imul, 1) := by decide +kernel
theorem dX11_facesOf_31 : decode cX11_facesOf 31 = .ok (.ireturn, 1) := by decide +kernel
theorem dX11_facesOf_32 : decode cX11_facesOf 32 = .ok (.iconst 0, 1) := by decide +kernel
theorem dX11_facesOf_33 : decode cX11_facesOf 33 = .ok (.istore_n 2, 1) := by decide +kernel
theorem dX11_facesOf_34 : decode cX11_facesOf 34 = .ok (.iconst 0, 1) := by decide +kernel
theorem dX11_facesOf_35 : decode cX11_facesOf 35 = .ok (.istore_n 3, 1) := by decide +kernel
theorem dX11_facesOf_36 : decode cX11_facesOf 36 = .ok (.iload_n 3, 1) := by decide +kernel
theorem dX11_facesOf_37 : decode cX11_facesOf 37 = .ok (.aload_n 0, 1) := by decide +kernel
theorem dX11_facesOf_38 : decode cX11_facesOf 38 = .ok (.getfield 7, 3) := by decide +kernel
theorem dX11_facesOf_41 : decode cX11_facesOf 41 = .ok (.bipush 10, 2) := by decide +kernel
theorem dX11_facesOf_43 : decode cX11_facesOf 43 = .ok (.iload_n 1, 1) := by decide +kernel
theorem dX11_facesOf_44 : decode cX11_facesOf 44 = .ok (.iadd, 1) := by decide +kernel
theorem dX11_facesOf_45 : decode cX11_facesOf 45 = .ok (.iaload, 1) := by decide +kernel
theorem dX11_facesOf_46 : decode cX11_facesOf 46 = .ok (.if_icmp .ge 23, 3) := by decide +kernel
theorem dX11_facesOf_49 : decode cX11_facesOf 49 = .ok (.iload_n 2, 1) := by decide +kernel
theorem dX11_facesOf_50 : decode cX11_facesOf 50 = .ok (.aload_n 0, 1) := by decide +kernel
theorem dX11_facesOf_51 : decode cX11_facesOf 51 = .ok (.getfield 7, 3) := by decide +kernel
theorem dX11_facesOf_54 : decode cX11_facesOf 54 = .ok (.aload_n 0, 1) := by decide +kernel
theorem dX11_facesOf_55 : decode cX11_facesOf 55 = .ok (.iload_n 1, 1) := by decide +kernel
theorem dX11_facesOf_56 : decode cX11_facesOf 56 = .ok (.iload_n 3, 1) := by decide +kernel
theorem dX11_facesOf_57 : decode cX11_facesOf 57 = .ok (.invokevirtual 59, 3) := by decide +kernel
theorem dX11_facesOf_60 : decode cX11_facesOf 60 = .ok (.iaload, 1) := by decide +kernel
theorem dX11_facesOf_61 : decode cX11_facesOf 61 = .ok (.iadd, 1) := by decide +kernel
theorem dX11_facesOf_62 : decode cX11_facesOf 62 = .ok (.istore_n 2, 1) := by decide +kernel
theorem dX11_facesOf_63 : decode cX11_facesOf 63 = .ok (.iinc 3 1, 3) := by decide +kernel
theorem dX11_facesOf_66 : decode cX11_facesOf 66 = .ok (.goto (-30), 3) := by decide +kernel
theorem dX11_facesOf_69 : decode cX11_facesOf 69 = .ok (.iload_n 2, 1) := by decide +kernel
theorem dX11_facesOf_70 : decode cX11_facesOf 70 = .ok (.ireturn, 1) := by decide +kernel
theorem dX11_holding_0 : decode cX11_holding 0 = .ok (.aload_n 0, 1) := by decide +kernel
theorem dX11_holding_1 : decode cX11_holding 1 = .ok (.iconst 0, 1) := by decide +kernel
theorem dX11_holding_2 : decode cX11_holding 2 = .ok (.putfield 27, 3) := by decide +kernel
theorem dX11_holding_5 : decode cX11_holding 5 = .ok (.iload_n 1, 1) := by decide +kernel
theorem dX11_holding_6 : decode cX11_holding 6 = .ok (.iconst 0, 1) := by decide +kernel
theorem dX11_holding_7 : decode cX11_holding 7 = .ok (.bipush 9, 2) := by decide +kernel
theorem dX11_holding_9 : decode cX11_holding 9 = .ok (.invokestatic 44, 3) := by decide +kernel
theorem dX11_holding_12 : decode cX11_holding 12 = .ok (.ifCond .eq 12, 3) := by decide +kernel
theorem dX11_holding_15 : decode cX11_holding 15 = .ok (.iload_n 2, 1) := by decide +kernel
theorem dX11_holding_16 : decode cX11_holding 16 = .ok (.iconst 0, 1) := by decide +kernel
theorem dX11_holding_17 : decode cX11_holding 17 = .ok (.iconst 4, 1) := by decide +kernel
theorem dX11_holding_18 : decode cX11_holding 18 = .ok (.invokestatic 44, 3) := by decide +kernel
theorem dX11_holding_21 : decode cX11_holding 21 = .ok (.ifCond .ne 6, 3) := by decide +kernel
theorem dX11_holding_24 : decode cX11_holding 24 = .ok (.bipush (-3), 2) := by decide +kernel
theorem dX11_holding_26 : decode cX11_holding 26 = .ok (.ireturn, 1) := by decide +kernel
theorem dX11_holding_27 : decode cX11_holding 27 = .ok (.aload_n 0, 1) := by decide +kernel
theorem dX11_holding_28 : decode cX11_holding 28 = .ok (.iload_n 1, 1) := by decide +kernel
theorem dX11_holding_29 : decode cX11_holding 29 = .ok (.invokevirtual 48, 3) := by decide +kernel
theorem dX11_holding_32 : decode cX11_holding 32 = .ok (.ifCond .ne 6, 3) := by decide +kernel
theorem dX11_holding_35 : decode cX11_holding 35 = .ok (.bipush (-11), 2) := by decide +kernel
theorem dX11_holding_37 : decode cX11_holding 37 = .ok (.ireturn, 1) := by decide +kernel
theorem dX11_holding_38 : decode cX11_holding 38 = .ok (.iload_n 2, 1) := by decide +kernel
theorem dX11_holding_39 : decode cX11_holding 39 = .ok (.tableswitch 114 0 3 #[29, 38, 48, 108], 29) := by decide +kernel
theorem dX11_holding_68 : decode cX11_holding 68 = .ok (.aload_n 0, 1) := by decide +kernel
theorem dX11_holding_69 : decode cX11_holding 69 = .ok (.getfield 7, 3) := by decide +kernel
theorem dX11_holding_72 : decode cX11_holding 72 = .ok (.iconst 0, 1) := by decide +kernel
theorem dX11_holding_73 : decode cX11_holding 73 = .ok (.iload_n 1, 1) := by decide +kernel
theorem dX11_holding_74 : decode cX11_holding 74 = .ok (.iadd, 1) := by decide +kernel
theorem dX11_holding_75 : decode cX11_holding 75 = .ok (.iaload, 1) := by decide +kernel
theorem dX11_holding_76 : decode cX11_holding 76 = .ok (.ireturn, 1) := by decide +kernel
theorem dX11_holding_77 : decode cX11_holding 77 = .ok (.aload_n 0, 1) := by decide +kernel
theorem dX11_holding_78 : decode cX11_holding 78 = .ok (.getfield 7, 3) := by decide +kernel
theorem dX11_holding_81 : decode cX11_holding 81 = .ok (.bipush 10, 2) := by decide +kernel
theorem dX11_holding_83 : decode cX11_holding 83 = .ok (.iload_n 1, 1) := by decide +kernel
theorem dX11_holding_84 : decode cX11_holding 84 = .ok (.iadd, 1) := by decide +kernel
theorem dX11_holding_85 : decode cX11_holding 85 = .ok (.iaload, 1) := by decide +kernel
theorem dX11_holding_86 : decode cX11_holding 86 = .ok (.ireturn, 1) := by decide +kernel
theorem dX11_holding_87 : decode cX11_holding 87 = .ok (.aload_n 0, 1) := by decide +kernel
theorem dX11_holding_88 : decode cX11_holding 88 = .ok (.getfield 7, 3) := by decide +kernel
theorem dX11_holding_91 : decode cX11_holding 91 = .ok (.iconst 0, 1) := by decide +kernel
theorem dX11_holding_92 : decode cX11_holding 92 = .ok (.iload_n 1, 1) := by decide +kernel
theorem dX11_holding_93 : decode cX11_holding 93 = .ok (.iadd, 1) := by decide +kernel
theorem dX11_holding_94 : decode cX11_holding 94 = .ok (.iaload, 1) := by decide +kernel
theorem dX11_holding_95 : decode cX11_holding 95 = .ok (.iconst 1, 1) := by decide +kernel
theorem dX11_holding_96 : decode cX11_holding 96 = .ok (.if_icmp .eq 13, 3) := by decide +kernel
theorem dX11_holding_99 : decode cX11_holding 99 = .ok (.aload_n 0, 1) := by decide +kernel
theorem dX11_holding_100 : decode cX11_holding 100 = .ok (.getfield 7, 3) := by decide +kernel
theorem dX11_holding_103 : decode cX11_holding 103 = .ok (.bipush 20, 2) := by decide +kernel
theorem dX11_holding_105 : decode cX11_holding 105 = .ok (.iload_n 1, 1) := by decide +kernel
theorem dX11_holding_106 : decode cX11_holding 106 = .ok (.iadd, 1) := by decide +kernel
theorem dX11_holding_107 : decode cX11_holding 107 = .ok (.iaload, 1) := by decide +kernel
theorem dX11_holding_108 : decode cX11_holding 108 = .ok (.ireturn, 1) := by decide +kernel
theorem dX11_holding_109 : decode cX11_holding 109 = .ok (.aload_n 0, 1) := by decide +kernel
theorem dX11_holding_110 : decode cX11_holding 110 = .ok (.getfield 7, 3) := by decide +kernel
theorem dX11_holding_113 : decode cX11_holding 113 = .ok (.bipush 10, 2) := by decide +kernel
theorem dX11_holding_115 : decode cX11_holding 115 = .ok (.iload_n 1, 1) := by decide +kernel
theorem dX11_holding_116 : decode cX11_holding 116 = .ok (.iadd, 1) := by decide +kernel
theorem dX11_holding_117 : decode cX11_holding 117 = .ok (.iaload, 1) := by decide +kernel
theorem dX11_holding_118 : decode cX11_holding 118 = .ok (.ifCond .ne 7, 3) := by decide +kernel
theorem dX11_holding_121 : decode cX11_holding 121 = .ok (.iconst 0, 1) := by decide +kernel
theorem dX11_holding_122 : decode cX11_holding 122 = .ok (.goto 24, 3) := by decide +kernel
theorem dX11_holding_125 : decode cX11_holding 125 = .ok (.aload_n 0, 1) := by decide +kernel
theorem dX11_holding_126 : decode cX11_holding 126 = .ok (.getfield 7, 3) := by decide +kernel
theorem dX11_holding_129 : decode cX11_holding 129 = .ok (.aload_n 0, 1) := by decide +kernel
theorem dX11_holding_130 : decode cX11_holding 130 = .ok (.iload_n 1, 1) := by decide +kernel
theorem dX11_holding_131 : decode cX11_holding 131 = .ok (.aload_n 0, 1) := by decide +kernel
theorem dX11_holding_132 : decode cX11_holding 132 = .ok (.getfield 7, 3) := by decide +kernel
theorem dX11_holding_135 : decode cX11_holding 135 = .ok (.bipush 10, 2) := by decide +kernel
theorem dX11_holding_137 : decode cX11_holding 137 = .ok (.iload_n 1, 1) := by decide +kernel
theorem dX11_holding_138 : decode cX11_holding 138 = .ok (.iadd, 1) := by decide +kernel
theorem dX11_holding_139 : decode cX11_holding 139 = .ok (.iaload, 1) := by decide +kernel
theorem dX11_holding_140 : decode cX11_holding 140 = .ok (.iconst 1, 1) := by decide +kernel
theorem dX11_holding_141 : decode cX11_holding 141 = .ok (.isub, 1) := by decide +kernel
theorem dX11_holding_142 : decode cX11_holding 142 = .ok (.invokevirtual 59, 3) := by decide +kernel
theorem dX11_holding_145 : decode cX11_holding 145 = .ok (.iaload, 1) := by decide +kernel
theorem dX11_holding_146 : decode cX11_holding 146 = .ok (.ireturn, 1) := by decide +kernel
theorem dX11_holding_147 : decode cX11_holding 147 = .ok (.aload_n 0, 1) := by decide +kernel
theorem dX11_holding_148 : decode cX11_holding 148 = .ok (.iload_n 1, 1) := by decide +kernel
theorem dX11_holding_149 : decode cX11_holding 149 = .ok (.invokevirtual 84, 3) := by decide +kernel
theorem dX11_holding_152 : decode cX11_holding 152 = .ok (.ireturn, 1) := by decide +kernel
theorem dX11_holding_153 : decode cX11_holding 153 = .ok (.aload_n 0, 1) := by decide +kernel
theorem dX11_holding_154 : decode cX11_holding 154 = .ok (.iload_n 1, 1) := by decide +kernel
theorem dX11_holding_155 : decode cX11_holding 155 = .ok (.invokevirtual 87, 3) := by decide +kernel
theorem dX11_holding_158 : decode cX11_holding 158 = .ok (.ireturn, 1) := by decide +kernel
theorem dX11_rate_0 : decode cX11_rate 0 = .ok (.aload_n 0, 1) := by decide +kernel
theorem dX11_rate_1 : decode cX11_rate 1 = .ok (.iconst 0, 1) := by decide +kernel
theorem dX11_rate_2 : decode cX11_rate 2 = .ok (.putfield 27, 3) := by decide +kernel
theorem dX11_rate_5 : decode cX11_rate 5 = .ok (.iload_n 1, 1) := by decide +kernel
theorem dX11_rate_6 : decode cX11_rate 6 = .ok (.iconst 0, 1) := by decide +kernel
theorem dX11_rate_7 : decode cX11_rate 7 = .ok (.iconst 5, 1) := by decide +kernel
theorem dX11_rate_8 : decode cX11_rate 8 = .ok (.invokestatic 44, 3) := by decide +kernel
theorem dX11_rate_11 : decode cX11_rate 11 = .ok (.ifCond .eq 25, 3) := by decide +kernel
theorem dX11_rate_14 : decode cX11_rate 14 = .ok (.iload_n 2, 1) := by decide +kernel
theorem dX11_rate_15 : decode cX11_rate 15 = .ok (.iconst 1, 1) := by decide +kernel
theorem dX11_rate_16 : decode cX11_rate 16 = .ok (.sipush 5000, 3) := by decide +kernel
theorem dX11_rate_19 : decode cX11_rate 19 = .ok (.invokestatic 44, 3) := by decide +kernel
theorem dX11_rate_22 : decode cX11_rate 22 = .ok (.ifCond .eq 14, 3) := by decide +kernel
theorem dX11_rate_25 : decode cX11_rate 25 = .ok (.iload_n 3, 1) := by decide +kernel
theorem dX11_rate_26 : decode cX11_rate 26 = .ok (.iconst 1, 1) := by decide +kernel
theorem dX11_rate_27 : decode cX11_rate 27 = .ok (.sipush 1200, 3) := by decide +kernel
theorem dX11_rate_30 : decode cX11_rate 30 = .ok (.invokestatic 44, 3) := by decide +kernel
theorem dX11_rate_33 : decode cX11_rate 33 = .ok (.ifCond .ne 6, 3) := by decide +kernel
theorem dX11_rate_36 : decode cX11_rate 36 = .ok (.bipush (-3), 2) := by decide +kernel
theorem dX11_rate_38 : decode cX11_rate 38 = .ok (.ireturn, 1) := by decide +kernel
theorem dX11_rate_39 : decode cX11_rate 39 = .ok (.aload_n 0, 1) := by decide +kernel
theorem dX11_rate_40 : decode cX11_rate 40 = .ok (.getfield 7, 3) := by decide +kernel
theorem dX11_rate_43 : decode cX11_rate 43 = .ok (.sipush 1180, 3) := by decide +kernel
theorem dX11_rate_46 : decode cX11_rate 46 = .ok (.iload_n 1, 1) := by decide +kernel
theorem dX11_rate_47 : decode cX11_rate 47 = .ok (.iadd, 1) := by decide +kernel
theorem dX11_rate_48 : decode cX11_rate 48 = .ok (.iaload, 1) := by decide +kernel
theorem dX11_rate_49 : decode cX11_rate 49 = .ok (.istore 4, 2) := by decide +kernel
theorem dX11_rate_51 : decode cX11_rate 51 = .ok (.iload 4, 2) := by decide +kernel
theorem dX11_rate_53 : decode cX11_rate 53 = .ok (.ifCond .le 50, 3) := by decide +kernel
theorem dX11_rate_56 : decode cX11_rate 56 = .ok (.iload_n 2, 1) := by decide +kernel
theorem dX11_rate_57 : decode cX11_rate 57 = .ok (.aload_n 0, 1) := by decide +kernel
theorem dX11_rate_58 : decode cX11_rate 58 = .ok (.getfield 7, 3) := by decide +kernel
theorem dX11_rate_61 : decode cX11_rate 61 = .ok (.sipush 1186, 3) := by decide +kernel
theorem dX11_rate_64 : decode cX11_rate 64 = .ok (.bipush 8, 2) := by decide +kernel
theorem dX11_rate_66 : decode cX11_rate 66 = .ok (.iload_n 1, 1) := by decide +kernel
theorem dX11_rate_67 : decode cX11_rate 67 = .ok (.imul, 1) := by decide +kernel
theorem dX11_rate_68 : decode cX11_rate 68 = .ok (.iadd, 1) := by decide +kernel
theorem dX11_rate_69 : decode cX11_rate 69 = .ok (.iload 4, 2) := by decide +kernel
theorem dX11_rate_71 : decode cX11_rate 71 = .ok (.iadd, 1) := by decide +kernel
theorem dX11_rate_72 : decode cX11_rate 72 = .ok (.iconst 1, 1) := by decide +kernel
theorem dX11_rate_73 : decode cX11_rate 73 = .ok (.isub, 1) := by decide +kernel
theorem dX11_rate_74 : decode cX11_rate 74 = .ok (.iaload, 1) := by decide +kernel
theorem dX11_rate_75 : decode cX11_rate 75 = .ok (.if_icmp .le 25, 3) := by decide +kernel
theorem dX11_rate_78 : decode cX11_rate 78 = .ok (.iload_n 3, 1) := by decide +kernel
theorem dX11_rate_79 : decode cX11_rate 79 = .ok (.aload_n 0, 1) := by decide +kernel
theorem dX11_rate_80 : decode cX11_rate 80 = .ok (.getfield 7, 3) := by decide +kernel
theorem dX11_rate_83 : decode cX11_rate 83 = .ok (.sipush 1234, 3) := by decide +kernel
theorem dX11_rate_86 : decode cX11_rate 86 = .ok (.bipush 8, 2) := by decide +kernel
theorem dX11_rate_88 : decode cX11_rate 88 = .ok (.iload_n 1, 1) := by decide +kernel
theorem dX11_rate_89 : decode cX11_rate 89 = .ok (.imul, 1) := by decide +kernel
theorem dX11_rate_90 : decode cX11_rate 90 = .ok (.iadd, 1) := by decide +kernel
theorem dX11_rate_91 : decode cX11_rate 91 = .ok (.iload 4, 2) := by decide +kernel
theorem dX11_rate_93 : decode cX11_rate 93 = .ok (.iadd, 1) := by decide +kernel
theorem dX11_rate_94 : decode cX11_rate 94 = .ok (.iconst 1, 1) := by decide +kernel
theorem dX11_rate_95 : decode cX11_rate 95 = .ok (.isub, 1) := by decide +kernel
theorem dX11_rate_96 : decode cX11_rate 96 = .ok (.iaload, 1) := by decide +kernel
theorem dX11_rate_97 : decode cX11_rate 97 = .ok (.if_icmp .gt 6, 3) := by decide +kernel
theorem dX11_rate_100 : decode cX11_rate 100 = .ok (.bipush (-3), 2) := by decide +kernel
theorem dX11_rate_102 : decode cX11_rate 102 = .ok (.ireturn, 1) := by decide +kernel
theorem dX11_rate_103 : decode cX11_rate 103 = .ok (.iload 4, 2) := by decide +kernel
theorem dX11_rate_105 : decode cX11_rate 105 = .ok (.bipush 8, 2) := by decide +kernel
theorem dX11_rate_107 : decode cX11_rate 107 = .ok (.if_icmp .ne 6, 3) := by decide +kernel
theorem dX11_rate_110 : decode cX11_rate 110 = .ok (.bipush (-5), 2) := by decide +kernel
theorem dX11_rate_112 : decode cX11_rate 112 = .ok (.ireturn, 1) := by decide +kernel
theorem dX11_rate_113 : decode cX11_rate 113 = .ok (.aload_n 0, 1) := by decide +kernel
theorem dX11_rate_114 : decode cX11_rate 114 = .ok (.invokevirtual 37, 3) := by decide +kernel
theorem dX11_rate_117 : decode cX11_rate 117 = .ok (.aload_n 0, 1) := by decide +kernel
theorem dX11_rate_118 : decode cX11_rate 118 = .ok (.getfield 7, 3) := by decide +kernel
theorem dX11_rate_121 : decode cX11_rate 121 = .ok (.sipush 1186, 3) := by decide +kernel
theorem dX11_rate_124 : decode cX11_rate 124 = .ok (.bipush 8, 2) := by decide +kernel
theorem dX11_rate_126 : decode cX11_rate 126 = .ok (.iload_n 1, 1) := by decide +kernel
theorem dX11_rate_127 : decode cX11_rate 127 = .ok (.imul, 1) := by decide +kernel
theorem dX11_rate_128 : decode cX11_rate 128 = .ok (.iadd, 1) := by decide +kernel
theorem dX11_rate_129 : decode cX11_rate 129 = .ok (.iload 4, 2) := by decide +kernel
theorem dX11_rate_131 : decode cX11_rate 131 = .ok (.iadd, 1) := by decide +kernel
theorem dX11_rate_132 : decode cX11_rate 132 = .ok (.iload_n 2, 1) := by decide +kernel
theorem dX11_rate_133 : decode cX11_rate 133 = .ok (.iastore, 1) := by decide +kernel
theorem dX11_rate_134 : decode cX11_rate 134 = .ok (.aload_n 0, 1) := by decide +kernel
theorem dX11_rate_135 : decode cX11_rate 135 = .ok (.getfield 7, 3) := by decide +kernel
theorem dX11_rate_138 : decode cX11_rate 138 = .ok (.sipush 1234, 3) := by decide +kernel
theorem dX11_rate_141 : decode cX11_rate 141 = .ok (.bipush 8, 2) := by decide +kernel
theorem dX11_rate_143 : decode cX11_rate 143 = .ok (.iload_n 1, 1) := by decide +kernel
theorem dX11_rate_144 : decode cX11_rate 144 = .ok (.imul, 1) := by decide +kernel
theorem dX11_rate_145 : decode cX11_rate 145 = .ok (.iadd, 1) := by decide +kernel
theorem dX11_rate_146 : decode cX11_rate 146 = .ok (.iload 4, 2) := by decide +kernel
theorem dX11_rate_148 : decode cX11_rate 148 = .ok (.iadd, 1) := by decide +kernel
theorem dX11_rate_149 : decode cX11_rate 149 = .ok (.iload_n 3, 1) := by decide +kernel
theorem dX11_rate_150 : decode cX11_rate 150 = .ok (.iastore, 1) := by decide +kernel
theorem dX11_rate_151 : decode cX11_rate 151 = .ok (.aload_n 0, 1) := by decide +kernel
theorem dX11_rate_152 : decode cX11_rate 152 = .ok (.getfield 7, 3) := by decide +kernel
theorem dX11_rate_155 : decode cX11_rate 155 = .ok (.sipush 1180, 3) := by decide +kernel
theorem dX11_rate_158 : decode cX11_rate 158 = .ok (.iload_n 1, 1) := by decide +kernel
theorem dX11_rate_159 : decode cX11_rate 159 = .ok (.iadd, 1) := by decide +kernel
theorem dX11_rate_160 : decode cX11_rate 160 = .ok (.dup2, 1) := by decide +kernel
theorem dX11_rate_161 : decode cX11_rate 161 = .ok (.iaload, 1) := by decide +kernel
theorem dX11_rate_162 : decode cX11_rate 162 = .ok (.iconst 1, 1) := by decide +kernel
theorem dX11_rate_163 : decode cX11_rate 163 = .ok (.iadd, 1) := by decide +kernel
theorem dX11_rate_164 : decode cX11_rate 164 = .ok (.iastore, 1) := by decide +kernel
theorem dX11_rate_165 : decode cX11_rate 165 = .ok (.iload 4, 2) := by decide +kernel
theorem dX11_rate_167 : decode cX11_rate 167 = .ok (.iconst 1, 1) := by decide +kernel
theorem dX11_rate_168 : decode cX11_rate 168 = .ok (.iadd, 1) := by decide +kernel
theorem dX11_rate_169 : decode cX11_rate 169 = .ok (.ireturn, 1) := by decide +kernel
theorem dX11_extra_0 : decode cX11_extra 0 = .ok (.aload_n 0, 1) := by decide +kernel
theorem dX11_extra_1 : decode cX11_extra 1 = .ok (.iconst 0, 1) := by decide +kernel
theorem dX11_extra_2 : decode cX11_extra 2 = .ok (.putfield 27, 3) := by decide +kernel
theorem dX11_extra_5 : decode cX11_extra 5 = .ok (.iload_n 1, 1) := by decide +kernel
theorem dX11_extra_6 : decode cX11_extra 6 = .ok (.iconst 0, 1) := by decide +kernel
theorem dX11_extra_7 : decode cX11_extra 7 = .ok (.iconst 3, 1) := by decide +kernel
theorem dX11_extra_8 : decode cX11_extra 8 = .ok (.invokestatic 44, 3) := by decide +kernel
theorem dX11_extra_11 : decode cX11_extra 11 = .ok (.ifCond .eq 14, 3) := by decide +kernel
theorem dX11_extra_14 : decode cX11_extra 14 = .ok (.iload_n 2, 1) := by decide +kernel
theorem dX11_extra_15 : decode cX11_extra 15 = .ok (.iconst 0, 1) := by decide +kernel
theorem dX11_extra_16 : decode cX11_extra 16 = .ok (.sipush 200, 3) := by decide +kernel
theorem dX11_extra_19 : decode cX11_extra 19 = .ok (.invokestatic 44, 3) := by decide +kernel
theorem dX11_extra_22 : decode cX11_extra 22 = .ok (.ifCond .ne 6, 3) := by decide +kernel
theorem dX11_extra_25 : decode cX11_extra 25 = .ok (.bipush (-3), 2) := by decide +kernel
theorem dX11_extra_27 : decode cX11_extra 27 = .ok (.ireturn, 1) := by decide +kernel
theorem dX11_extra_28 : decode cX11_extra 28 = .ok (.aload_n 0, 1) := by decide +kernel
theorem dX11_extra_29 : decode cX11_extra 29 = .ok (.invokevirtual 37, 3) := by decide +kernel
theorem dX11_extra_32 : decode cX11_extra 32 = .ok (.aload_n 0, 1) := by decide +kernel
theorem dX11_extra_33 : decode cX11_extra 33 = .ok (.getfield 7, 3) := by decide +kernel
theorem dX11_extra_36 : decode cX11_extra 36 = .ok (.sipush 1282, 3) := by decide +kernel
theorem dX11_extra_39 : decode cX11_extra 39 = .ok (.iload_n 1, 1) := by decide +kernel
theorem dX11_extra_40 : decode cX11_extra 40 = .ok (.iadd, 1) := by decide +kernel
theorem dX11_extra_41 : decode cX11_extra 41 = .ok (.iaload, 1) := by decide +kernel
theorem dX11_extra_42 : decode cX11_extra 42 = .ok (.istore_n 3, 1) := by decide +kernel
theorem dX11_extra_43 : decode cX11_extra 43 = .ok (.aload_n 0, 1) := by decide +kernel
theorem dX11_extra_44 : decode cX11_extra 44 = .ok (.getfield 7, 3) := by decide +kernel
theorem dX11_extra_47 : decode cX11_extra 47 = .ok (.sipush 1282, 3) := by decide +kernel
theorem dX11_extra_50 : decode cX11_extra 50 = .ok (.iload_n 1, 1) := by decide +kernel
theorem dX11_extra_51 : decode cX11_extra 51 = .ok (.iadd, 1) := by decide +kernel
theorem dX11_extra_52 : decode cX11_extra 52 = .ok (.iload_n 2, 1) := by decide +kernel
theorem dX11_extra_53 : decode cX11_extra 53 = .ok (.iastore, 1) := by decide +kernel
theorem dX11_extra_54 : decode cX11_extra 54 = .ok (.iload_n 3, 1) := by decide +kernel
theorem dX11_extra_55 : decode cX11_extra 55 = .ok (.ireturn, 1) := by decide +kernel
theorem dX11_whole_0 : decode cX11_whole 0 = .ok (.fload_n 0, 1) := by decide +kernel
theorem dX11_whole_1 : decode cX11_whole 1 = .ok (.f2i, 1) := by decide +kernel
theorem dX11_whole_2 : decode cX11_whole 2 = .ok (.istore_n 1, 1) := by decide +kernel
theorem dX11_whole_3 : decode cX11_whole 3 = .ok (.iload_n 1, 1) := by decide +kernel
theorem dX11_whole_4 : decode cX11_whole 4 = .ok (.i2f, 1) := by decide +kernel
theorem dX11_whole_5 : decode cX11_whole 5 = .ok (.fload_n 0, 1) := by decide +kernel
theorem dX11_whole_6 : decode cX11_whole 6 = .ok (.fcmp .g, 1) := by decide +kernel
theorem dX11_whole_7 : decode cX11_whole 7 = .ok (.ifCond .ge 9, 3) := by decide +kernel
theorem dX11_whole_10 : decode cX11_whole 10 = .ok (.iload_n 1, 1) := by decide +kernel
theorem dX11_whole_11 : decode cX11_whole 11 = .ok (.iconst 1, 1) := by decide +kernel
theorem dX11_whole_12 : decode cX11_whole 12 = .ok (.iadd, 1) := by decide +kernel
theorem dX11_whole_13 : decode cX11_whole 13 = .ok (.goto 4, 3) := by decide +kernel
theorem dX11_whole_16 : decode cX11_whole 16 = .ok (.iload_n 1, 1) := by decide +kernel
theorem dX11_whole_17 : decode cX11_whole 17 = .ok (.ireturn, 1) := by decide +kernel
theorem dX11_grams_0 : decode cX11_grams 0 = .ok (.aload_n 0, 1) := by decide +kernel
theorem dX11_grams_1 : decode cX11_grams 1 = .ok (.iconst 0, 1) := by decide +kernel
theorem dX11_grams_2 : decode cX11_grams 2 = .ok (.putfield 27, 3) := by decide +kernel
theorem dX11_grams_5 : decode cX11_grams 5 = .ok (.fload_n 1, 1) := by decide +kernel
theorem dX11_grams_6 : decode cX11_grams 6 = .ok (.fconst 0, 1) := by decide +kernel
theorem dX11_grams_7 : decode cX11_grams 7 = .ok (.fcmp .l, 1) := by decide +kernel
theorem dX11_grams_8 : decode cX11_grams 8 = .ok (.ifCond .lt 17, 3) := by decide +kernel
theorem dX11_grams_11 : decode cX11_grams 11 = .ok (.fload_n 1, 1) := by decide +kernel
theorem dX11_grams_12 : decode cX11_grams 12 = .ok (.ldc 90, 2) := by decide +kernel
theorem dX11_grams_14 : decode cX11_grams 14 = .ok (.fcmp .g, 1) := by decide +kernel
theorem dX11_grams_15 : decode cX11_grams 15 = .ok (.ifCond .gt 10, 3) := by decide +kernel
theorem dX11_grams_18 : decode cX11_grams 18 = .ok (.fload_n 1, 1) := by decide +kernel
theorem dX11_grams_19 : decode cX11_grams 19 = .ok (.invokestatic 91, 3) := by decide +kernel
theorem dX11_grams_22 : decode cX11_grams 22 = .ok (.goto 5, 3) := by decide +kernel
theorem dX11_grams_25 : decode cX11_grams 25 = .ok (.bipush (-3), 2) := by decide +kernel
theorem dX11_grams_27 : decode cX11_grams 27 = .ok (.ireturn, 1) := by decide +kernel
theorem dX11_price_0 : decode cX11_price 0 = .ok (.aload_n 0, 1) := by decide +kernel
theorem dX11_price_1 : decode cX11_price 1 = .ok (.iconst 0, 1) := by decide +kernel
theorem dX11_price_2 : decode cX11_price 2 = .ok (.putfield 27, 3) := by decide +kernel
theorem dX11_price_5 : decode cX11_price 5 = .ok (.iload_n 1, 1) := by decide +kernel
theorem dX11_price_6 : decode cX11_price 6 = .ok (.iconst 0, 1) := by decide +kernel
theorem dX11_price_7 : decode cX11_price 7 = .ok (.iconst 5, 1) := by decide +kernel
theorem dX11_price_8 : decode cX11_price 8 = .ok (.invokestatic 44, 3) := by decide +kernel
theorem dX11_price_11 : decode cX11_price 11 = .ok (.ifCond .eq 26, 3) := by decide +kernel
theorem dX11_price_14 : decode cX11_price 14 = .ok (.fload_n 2, 1) := by decide +kernel
theorem dX11_price_15 : decode cX11_price 15 = .ok (.fconst 0, 1) := by decide +kernel
theorem dX11_price_16 : decode cX11_price 16 = .ok (.fcmp .l, 1) := by decide +kernel
theorem dX11_price_17 : decode cX11_price 17 = .ok (.ifCond .lt 20, 3) := by decide +kernel
theorem dX11_price_20 : decode cX11_price 20 = .ok (.fload_n 2, 1) := by decide +kernel
theorem dX11_price_21 : decode cX11_price 21 = .ok (.ldc 90, 2) := by decide +kernel
theorem dX11_price_23 : decode cX11_price 23 = .ok (.fcmp .g, 1) := by decide +kernel
theorem dX11_price_24 : decode cX11_price 24 = .ok (.ifCond .gt 13, 3) := by decide +kernel
theorem dX11_price_27 : decode cX11_price 27 = .ok (.iload_n 3, 1) := by decide +kernel
theorem dX11_price_28 : decode cX11_price 28 = .ok (.iconst 0, 1) := by decide +kernel
theorem dX11_price_29 : decode cX11_price 29 = .ok (.bipush 15, 2) := by decide +kernel
theorem dX11_price_31 : decode cX11_price 31 = .ok (.invokestatic 44, 3) := by decide +kernel
theorem dX11_price_34 : decode cX11_price 34 = .ok (.ifCond .ne 6, 3) := by decide +kernel
theorem dX11_price_37 : decode cX11_price 37 = .ok (.bipush (-3), 2) := by decide +kernel
theorem dX11_price_39 : decode cX11_price 39 = .ok (.ireturn, 1) := by decide +kernel
theorem dX11_price_40 : decode cX11_price 40 = .ok (.iconst 0, 1) := by decide +kernel
theorem dX11_price_41 : decode cX11_price 41 = .ok (.istore 4, 2) := by decide +kernel
theorem dX11_price_43 : decode cX11_price 43 = .ok (.iconst 0, 1) := by decide +kernel
theorem dX11_price_44 : decode cX11_price 44 = .ok (.istore 5, 2) := by decide +kernel
theorem dX11_price_46 : decode cX11_price 46 = .ok (.iload 5, 2) := by decide +kernel
theorem dX11_price_48 : decode cX11_price 48 = .ok (.iconst 4, 1) := by decide +kernel
theorem dX11_price_49 : decode cX11_price 49 = .ok (.if_icmp .ge 39, 3) := by decide +kernel
theorem dX11_price_52 : decode cX11_price 52 = .ok (.iload 4, 2) := by decide +kernel
theorem dX11_price_54 : decode cX11_price 54 = .ok (.iload_n 3, 1) := by decide +kernel
theorem dX11_price_55 : decode cX11_price 55 = .ok (.iload 5, 2) := by decide +kernel
theorem dX11_price_57 : decode cX11_price 57 = .ok (.ishr, 1) := by decide +kernel
theorem dX11_price_58 : decode cX11_price 58 = .ok (.iconst 1, 1) := by decide +kernel
theorem dX11_price_59 : decode cX11_price 59 = .ok (.iand, 1) := by decide +kernel
theorem dX11_price_60 : decode cX11_price 60 = .ok (.iconst 1, 1) := by decide +kernel
theorem dX11_price_61 : decode cX11_price 61 = .ok (.if_icmp .ne 17, 3) := by decide +kernel
theorem dX11_price_64 : decode cX11_price 64 = .ok (.aload_n 0, 1) := by decide +kernel
theorem dX11_price_65 : decode cX11_price 65 = .ok (.getfield 7, 3) := by decide +kernel
theorem dX11_price_68 : decode cX11_price 68 = .ok (.sipush 1282, 3) := by decide +kernel
theorem dX11_price_71 : decode cX11_price 71 = .ok (.iload 5, 2) := by decide +kernel
theorem dX11_price_73 : decode cX11_price 73 = .ok (.iadd, 1) := by decide +kernel
theorem dX11_price_74 : decode cX11_price 74 = .ok (.iaload, 1) := by decide +kernel
theorem dX11_price_75 : decode cX11_price 75 = .ok (.goto 4, 3) := by decide +kernel
theorem dX11_price_78 : decode cX11_price 78 = .ok (.iconst 0, 1) := by decide +kernel
theorem dX11_price_79 : decode cX11_price 79 = .ok (.iadd, 1) := by decide +kernel
theorem dX11_price_80 : decode cX11_price 80 = .ok (.istore 4, 2) := by decide +kernel
theorem dX11_price_82 : decode cX11_price 82 = .ok (.iinc 5 1, 3) := by decide +kernel
theorem dX11_price_85 : decode cX11_price 85 = .ok (.goto (-39), 3) := by decide +kernel
theorem dX11_price_88 : decode cX11_price 88 = .ok (.fload_n 2, 1) := by decide +kernel
theorem dX11_price_89 : decode cX11_price 89 = .ok (.invokestatic 91, 3) := by decide +kernel
theorem dX11_price_92 : decode cX11_price 92 = .ok (.istore 5, 2) := by decide +kernel
theorem dX11_price_94 : decode cX11_price 94 = .ok (.iconst 0, 1) := by decide +kernel
theorem dX11_price_95 : decode cX11_price 95 = .ok (.istore 6, 2) := by decide +kernel
theorem dX11_price_97 : decode cX11_price 97 = .ok (.iload 6, 2) := by decide +kernel
theorem dX11_price_99 : decode cX11_price 99 = .ok (.aload_n 0, 1) := by decide +kernel
theorem dX11_price_100 : decode cX11_price 100 = .ok (.getfield 7, 3) := by decide +kernel
theorem dX11_price_103 : decode cX11_price 103 = .ok (.sipush 1180, 3) := by decide +kernel
theorem dX11_price_106 : decode cX11_price 106 = .ok (.iload_n 1, 1) := by decide +kernel
theorem dX11_price_107 : decode cX11_price 107 = .ok (.iadd, 1) := by decide +kernel
theorem dX11_price_108 : decode cX11_price 108 = .ok (.iaload, 1) := by decide +kernel
theorem dX11_price_109 : decode cX11_price 109 = .ok (.if_icmp .ge 50, 3) := by decide +kernel
theorem dX11_price_112 : decode cX11_price 112 = .ok (.aload_n 0, 1) := by decide +kernel
theorem dX11_price_113 : decode cX11_price 113 = .ok (.getfield 7, 3) := by decide +kernel
theorem dX11_price_116 : decode cX11_price 116 = .ok (.sipush 1186, 3) := by decide +kernel
theorem dX11_price_119 : decode cX11_price 119 = .ok (.bipush 8, 2) := by decide +kernel
theorem dX11_price_121 : decode cX11_price 121 = .ok (.iload_n 1, 1) := by decide +kernel
theorem dX11_price_122 : decode cX11_price 122 = .ok (.imul, 1) := by decide +kernel
theorem dX11_price_123 : decode cX11_price 123 = .ok (.iadd, 1) := by decide +kernel
theorem dX11_price_124 : decode cX11_price 124 = .ok (.iload 6, 2) := by decide +kernel
theorem dX11_price_126 : decode cX11_price 126 = .ok (.iadd, 1) := by decide +kernel
theorem dX11_price_127 : decode cX11_price 127 = .ok (.iaload, 1) := by decide +kernel
theorem dX11_price_128 : decode cX11_price 128 = .ok (.iload 5, 2) := by decide +kernel
theorem dX11_price_130 : decode cX11_price 130 = .ok (.if_icmp .lt 23, 3) := by decide +kernel
theorem dX11_price_133 : decode cX11_price 133 = .ok (.iload 4, 2) := by decide +kernel
theorem dX11_price_135 : decode cX11_price 135 = .ok (.aload_n 0, 1) := by decide +kernel
theorem dX11_price_136 : decode cX11_price 136 = .ok (.getfield 7, 3) := by decide +kernel
theorem dX11_price_139 : decode cX11_price 139 = .ok (.sipush 1234, 3) := by decide +kernel
theorem dX11_price_142 : decode cX11_price 142 = .ok (.bipush 8, 2) := by decide +kernel
theorem dX11_price_144 : decode cX11_price 144 = .ok (.iload_n 1, 1) := by decide +kernel
theorem dX11_price_145 : decode cX11_price 145 = .ok (.imul, 1) := by decide +kernel
theorem dX11_price_146 : decode cX11_price 146 = .ok (.iadd, 1) := by decide +kernel
theorem dX11_price_147 : decode cX11_price 147 = .ok (.iload 6, 2) := by decide +kernel
theorem dX11_price_149 : decode cX11_price 149 = .ok (.iadd, 1) := by decide +kernel
theorem dX11_price_150 : decode cX11_price 150 = .ok (.iaload, 1) := by decide +kernel
theorem dX11_price_151 : decode cX11_price 151 = .ok (.iadd, 1) := by decide +kernel
theorem dX11_price_152 : decode cX11_price 152 = .ok (.ireturn, 1) := by decide +kernel
theorem dX11_price_153 : decode cX11_price 153 = .ok (.iinc 6 1, 3) := by decide +kernel
theorem dX11_price_156 : decode cX11_price 156 = .ok (.goto (-59), 3) := by decide +kernel
theorem dX11_price_159 : decode cX11_price 159 = .ok (.iconst (-1), 1) := by decide +kernel
theorem dX11_price_160 : decode cX11_price 160 = .ok (.ireturn, 1) := by decide +kernel
theorem dX11_letter_0 : decode cX11_letter 0 = .ok (.aload_n 0, 1) := by decide +kernel
theorem dX11_letter_1 : decode cX11_letter 1 = .ok (.iload_n 1, 1) := by decide +kernel
theorem dX11_letter_2 : decode cX11_letter 2 = .ok (.fload_n 2, 1) := by decide +kernel
theorem dX11_letter_3 : decode cX11_letter 3 = .ok (.iload_n 3, 1) := by decide +kernel
theorem dX11_letter_4 : decode cX11_letter 4 = .ok (.invokevirtual 95, 3) := by decide +kernel
theorem dX11_letter_7 : decode cX11_letter 7 = .ok (.istore 4, 2) := by decide +kernel
theorem dX11_letter_9 : decode cX11_letter 9 = .ok (.iload 4, 2) := by decide +kernel
theorem dX11_letter_11 : decode cX11_letter 11 = .ok (.ifCond .ge 6, 3) := by decide +kernel
theorem dX11_letter_14 : decode cX11_letter 14 = .ok (.iload 4, 2) := by decide +kernel
theorem dX11_letter_16 : decode cX11_letter 16 = .ok (.ireturn, 1) := by decide +kernel
theorem dX11_letter_17 : decode cX11_letter 17 = .ok (.aload_n 0, 1) := by decide +kernel
theorem dX11_letter_18 : decode cX11_letter 18 = .ok (.getfield 7, 3) := by decide +kernel
theorem dX11_letter_21 : decode cX11_letter 21 = .ok (.sipush 1286, 3) := by decide +kernel
theorem dX11_letter_24 : decode cX11_letter 24 = .ok (.iaload, 1) := by decide +kernel
theorem dX11_letter_25 : decode cX11_letter 25 = .ok (.istore 5, 2) := by decide +kernel
theorem dX11_letter_27 : decode cX11_letter 27 = .ok (.iload 5, 2) := by decide +kernel
theorem dX11_letter_29 : decode cX11_letter 29 = .ok (.bipush 60, 2) := by decide +kernel
theorem dX11_letter_31 : decode cX11_letter 31 = .ok (.if_icmp .ne 6, 3) := by decide +kernel
theorem dX11_letter_34 : decode cX11_letter 34 = .ok (.bipush (-5), 2) := by decide +kernel
theorem dX11_letter_36 : decode cX11_letter 36 = .ok (.ireturn, 1) := by decide +kernel
theorem dX11_letter_37 : decode cX11_letter 37 = .ok (.aload_n 0, 1) := by decide +kernel
theorem dX11_letter_38 : decode cX11_letter 38 = .ok (.invokevirtual 37, 3) := by decide +kernel
theorem dX11_letter_41 : decode cX11_letter 41 = .ok (.aload_n 0, 1) := by decide +kernel
theorem dX11_letter_42 : decode cX11_letter 42 = .ok (.getfield 7, 3) := by decide +kernel
theorem dX11_letter_45 : decode cX11_letter 45 = .ok (.sipush 1287, 3) := by decide +kernel
theorem dX11_letter_48 : decode cX11_letter 48 = .ok (.iload 5, 2) := by decide +kernel
theorem dX11_letter_50 : decode cX11_letter 50 = .ok (.iadd, 1) := by decide +kernel
theorem dX11_letter_51 : decode cX11_letter 51 = .ok (.iload 4, 2) := by decide +kernel
theorem dX11_letter_53 : decode cX11_letter 53 = .ok (.iastore, 1) := by decide +kernel
theorem dX11_letter_54 : decode cX11_letter 54 = .ok (.aload_n 0, 1) := by decide +kernel
theorem dX11_letter_55 : decode cX11_letter 55 = .ok (.getfield 7, 3) := by decide +kernel
theorem dX11_letter_58 : decode cX11_letter 58 = .ok (.sipush 1347, 3) := by decide +kernel
theorem dX11_letter_61 : decode cX11_letter 61 = .ok (.iload 5, 2) := by decide +kernel
theorem dX11_letter_63 : decode cX11_letter 63 = .ok (.iadd, 1) := by decide +kernel
theorem dX11_letter_64 : decode cX11_letter 64 = .ok (.iconst 0, 1) := by decide +kernel
theorem dX11_letter_65 : decode cX11_letter 65 = .ok (.iastore, 1) := by decide +kernel
theorem dX11_letter_66 : decode cX11_letter 66 = .ok (.aload_n 0, 1) := by decide +kernel
theorem dX11_letter_67 : decode cX11_letter 67 = .ok (.getfield 7, 3) := by decide +kernel
theorem dX11_letter_70 : decode cX11_letter 70 = .ok (.sipush 1407, 3) := by decide +kernel
theorem dX11_letter_73 : decode cX11_letter 73 = .ok (.iload 5, 2) := by decide +kernel
theorem dX11_letter_75 : decode cX11_letter 75 = .ok (.iadd, 1) := by decide +kernel
theorem dX11_letter_76 : decode cX11_letter 76 = .ok (.iconst 0, 1) := by decide +kernel
theorem dX11_letter_77 : decode cX11_letter 77 = .ok (.iastore, 1) := by decide +kernel
theorem dX11_letter_78 : decode cX11_letter 78 = .ok (.aload_n 0, 1) := by decide +kernel
theorem dX11_letter_79 : decode cX11_letter 79 = .ok (.getfield 7, 3) := by decide +kernel
theorem dX11_letter_82 : decode cX11_letter 82 = .ok (.sipush 1467, 3) := by decide +kernel
theorem dX11_letter_85 : decode cX11_letter 85 = .ok (.iload 5, 2) := by decide +kernel
theorem dX11_letter_87 : decode cX11_letter 87 = .ok (.iadd, 1) := by decide +kernel
theorem dX11_letter_88 : decode cX11_letter 88 = .ok (.iconst 0, 1) := by decide +kernel
theorem dX11_letter_89 : decode cX11_letter 89 = .ok (.iastore, 1) := by decide +kernel
theorem dX11_letter_90 : decode cX11_letter 90 = .ok (.iconst 0, 1) := by decide +kernel
theorem dX11_letter_91 : decode cX11_letter 91 = .ok (.istore 6, 2) := by decide +kernel
theorem dX11_letter_93 : decode cX11_letter 93 = .ok (.iload 6, 2) := by decide +kernel
theorem dX11_letter_95 : decode cX11_letter 95 = .ok (.bipush 10, 2) := by decide +kernel
theorem dX11_letter_97 : decode cX11_letter 97 = .ok (.if_icmp .ge 69, 3) := by decide +kernel
theorem dX11_letter_100 : decode cX11_letter 100 = .ok (.aload_n 0, 1) := by decide +kernel
theorem dX11_letter_101 : decode cX11_letter 101 = .ok (.getfield 7, 3) := by decide +kernel
theorem dX11_letter_104 : decode cX11_letter 104 = .ok (.sipush 1527, 3) := by decide +kernel
theorem dX11_letter_107 : decode cX11_letter 107 = .ok (.bipush 10, 2) := by decide +kernel
theorem dX11_letter_109 : decode cX11_letter 109 = .ok (.iload 5, 2) := by decide +kernel
theorem dX11_letter_111 : decode cX11_letter 111 = .ok (.imul, 1) := by decide +kernel
theorem dX11_letter_112 : decode cX11_letter 112 = .ok (.iadd, 1) := by decide +kernel
theorem dX11_letter_113 : decode cX11_letter 113 = .ok (.iload 6, 2) := by decide +kernel
theorem dX11_letter_115 : decode cX11_letter 115 = .ok (.iadd, 1) := by decide +kernel
theorem dX11_letter_116 : decode cX11_letter 116 = .ok (.iconst 0, 1) := by decide +kernel
theorem dX11_letter_117 : decode cX11_letter 117 = .ok (.iastore, 1) := by decide +kernel
theorem dX11_letter_118 : decode cX11_letter 118 = .ok (.aload_n 0, 1) := by decide +kernel
theorem dX11_letter_119 : decode cX11_letter 119 = .ok (.getfield 7, 3) := by decide +kernel
theorem dX11_letter_122 : decode cX11_letter 122 = .ok (.sipush 2127, 3) := by decide +kernel
theorem dX11_letter_125 : decode cX11_letter 125 = .ok (.bipush 20, 2) := by decide +kernel
theorem dX11_letter_127 : decode cX11_letter 127 = .ok (.iload 5, 2) := by decide +kernel
theorem dX11_letter_129 : decode cX11_letter 129 = .ok (.imul, 1) := by decide +kernel
theorem dX11_letter_130 : decode cX11_letter 130 = .ok (.iadd, 1) := by decide +kernel
theorem dX11_letter_131 : decode cX11_letter 131 = .ok (.iconst 2, 1) := by decide +kernel
theorem dX11_letter_132 : decode cX11_letter 132 = .ok (.iload 6, 2) := by decide +kernel
theorem dX11_letter_134 : decode cX11_letter 134 = .ok (.imul, 1) := by decide +kernel
theorem dX11_letter_135 : decode cX11_letter 135 = .ok (.iadd, 1) := by decide +kernel
theorem dX11_letter_136 : decode cX11_letter 136 = .ok (.iconst 0, 1) := by decide +kernel
theorem dX11_letter_137 : decode cX11_letter 137 = .ok (.iastore, 1) := by decide +kernel
theorem dX11_letter_138 : decode cX11_letter 138 = .ok (.aload_n 0, 1) := by decide +kernel
theorem dX11_letter_139 : decode cX11_letter 139 = .ok (.getfield 7, 3) := by decide +kernel
theorem dX11_letter_142 : decode cX11_letter 142 = .ok (.sipush 2127, 3) := by decide +kernel
theorem dX11_letter_145 : decode cX11_letter 145 = .ok (.bipush 20, 2) := by decide +kernel
theorem dX11_letter_147 : decode cX11_letter 147 = .ok (.iload 5, 2) := by decide +kernel
theorem dX11_letter_149 : decode cX11_letter 149 = .ok (.imul, 1) := by decide +kernel
theorem dX11_letter_150 : decode cX11_letter 150 = .ok (.iadd, 1) := by decide +kernel
theorem dX11_letter_151 : decode cX11_letter 151 = .ok (.iconst 2, 1) := by decide +kernel
theorem dX11_letter_152 : decode cX11_letter 152 = .ok (.iload 6, 2) := by decide +kernel
theorem dX11_letter_154 : decode cX11_letter 154 = .ok (.imul, 1) := by decide +kernel
theorem dX11_letter_155 : decode cX11_letter 155 = .ok (.iadd, 1) := by decide +kernel
theorem dX11_letter_156 : decode cX11_letter 156 = .ok (.iconst 1, 1) := by decide +kernel
theorem dX11_letter_157 : decode cX11_letter 157 = .ok (.iadd, 1) := by decide +kernel
theorem dX11_letter_158 : decode cX11_letter 158 = .ok (.iconst 0, 1) := by decide +kernel
theorem dX11_letter_159 : decode cX11_letter 159 = .ok (.iastore, 1) := by decide +kernel
theorem dX11_letter_160 : decode cX11_letter 160 = .ok (.iinc 6 1, 3) := by decide +kernel
theorem dX11_letter_163 : decode cX11_letter 163 = .ok (.goto (-70), 3) := by decide +kernel
theorem dX11_letter_166 : decode cX11_letter 166 = .ok (.aload_n 0, 1) := by decide +kernel
theorem dX11_letter_167 : decode cX11_letter 167 = .ok (.getfield 7, 3) := by decide +kernel
theorem dX11_letter_170 : decode cX11_letter 170 = .ok (.sipush 1286, 3) := by decide +kernel
theorem dX11_letter_173 : decode cX11_letter 173 = .ok (.dup2, 1) := by decide +kernel
theorem dX11_letter_174 : decode cX11_letter 174 = .ok (.iaload, 1) := by decide +kernel
theorem dX11_letter_175 : decode cX11_letter 175 = .ok (.iconst 1, 1) := by decide +kernel
theorem dX11_letter_176 : decode cX11_letter 176 = .ok (.iadd, 1) := by decide +kernel
theorem dX11_letter_177 : decode cX11_letter 177 = .ok (.iastore, 1) := by decide +kernel
theorem dX11_letter_178 : decode cX11_letter 178 = .ok (.iload 5, 2) := by decide +kernel
theorem dX11_letter_180 : decode cX11_letter 180 = .ok (.ireturn, 1) := by decide +kernel
theorem dX11_isLetter_0 : decode cX11_isLetter 0 = .ok (.iload_n 1, 1) := by decide +kernel
theorem dX11_isLetter_1 : decode cX11_isLetter 1 = .ok (.iconst 0, 1) := by decide +kernel
theorem dX11_isLetter_2 : decode cX11_isLetter 2 = .ok (.aload_n 0, 1) := by decide +kernel
theorem dX11_isLetter_3 : decode cX11_isLetter 3 = .ok (.getfield 7, 3) := by decide +kernel
theorem dX11_isLetter_6 : decode cX11_isLetter 6 = .ok (.sipush 1286, 3) := by decide +kernel
theorem dX11_isLetter_9 : decode cX11_isLetter 9 = .ok (.iaload, 1) := by decide +kernel
theorem dX11_isLetter_10 : decode cX11_isLetter 10 = .ok (.iconst 1, 1) := by decide +kernel
theorem dX11_isLetter_11 : decode cX11_isLetter 11 = .ok (.isub, 1) := by decide +kernel
theorem dX11_isLetter_12 : decode cX11_isLetter 12 = .ok (.invokestatic 44, 3) := by decide +kernel
theorem dX11_isLetter_15 : decode cX11_isLetter 15 = .ok (.ireturn, 1) := by decide +kernel
theorem dX11_pays_0 : decode cX11_pays 0 = .ok (.aload_n 0, 1) := by decide +kernel
theorem dX11_pays_1 : decode cX11_pays 1 = .ok (.getfield 7, 3) := by decide +kernel
theorem dX11_pays_4 : decode cX11_pays 4 = .ok (.iconst 0, 1) := by decide +kernel
theorem dX11_pays_5 : decode cX11_pays 5 = .ok (.iload_n 1, 1) := by decide +kernel
theorem dX11_pays_6 : decode cX11_pays 6 = .ok (.iadd, 1) := by decide +kernel
theorem dX11_pays_7 : decode cX11_pays 7 = .ok (.iaload, 1) := by decide +kernel
theorem dX11_pays_8 : decode cX11_pays 8 = .ok (.iconst 1, 1) := by decide +kernel
theorem dX11_pays_9 : decode cX11_pays 9 = .ok (.if_icmp .eq 15, 3) := by decide +kernel
theorem dX11_pays_12 : decode cX11_pays 12 = .ok (.iload_n 2, 1) := by decide +kernel
theorem dX11_pays_13 : decode cX11_pays 13 = .ok (.aload_n 0, 1) := by decide +kernel
theorem dX11_pays_14 : decode cX11_pays 14 = .ok (.getfield 7, 3) := by decide +kernel
theorem dX11_pays_17 : decode cX11_pays 17 = .ok (.bipush 20, 2) := by decide +kernel
theorem dX11_pays_19 : decode cX11_pays 19 = .ok (.iload_n 1, 1) := by decide +kernel
theorem dX11_pays_20 : decode cX11_pays 20 = .ok (.iadd, 1) := by decide +kernel
theorem dX11_pays_21 : decode cX11_pays 21 = .ok (.iaload, 1) := by decide +kernel
theorem dX11_pays_22 : decode cX11_pays 22 = .ok (.imul, 1) := by decide +kernel
theorem dX11_pays_23 : decode cX11_pays 23 = .ok (.ireturn, 1) := by decide +kernel
theorem dX11_pays_24 : decode cX11_pays 24 = .ok (.iconst 0, 1) := by decide +kernel
theorem dX11_pays_25 : decode cX11_pays 25 = .ok (.istore_n 3, 1) := by decide +kernel
theorem dX11_pays_26 : decode cX11_pays 26 = .ok (.iconst 1, 1) := by decide +kernel
theorem dX11_pays_27 : decode cX11_pays 27 = .ok (.istore 4, 2) := by decide +kernel
theorem dX11_pays_29 : decode cX11_pays 29 = .ok (.iload 4, 2) := by decide +kernel
theorem dX11_pays_31 : decode cX11_pays 31 = .ok (.iload_n 2, 1) := by decide +kernel
theorem dX11_pays_32 : decode cX11_pays 32 = .ok (.if_icmp .gt 34, 3) := by decide +kernel
theorem dX11_pays_35 : decode cX11_pays 35 = .ok (.iload_n 3, 1) := by decide +kernel
theorem dX11_pays_36 : decode cX11_pays 36 = .ok (.aload_n 0, 1) := by decide +kernel
theorem dX11_pays_37 : decode cX11_pays 37 = .ok (.getfield 7, 3) := by decide +kernel
theorem dX11_pays_40 : decode cX11_pays 40 = .ok (.aload_n 0, 1) := by decide +kernel
theorem dX11_pays_41 : decode cX11_pays 41 = .ok (.iload_n 1, 1) := by decide +kernel
theorem dX11_pays_42 : decode cX11_pays 42 = .ok (.aload_n 0, 1) := by decide +kernel
theorem dX11_pays_43 : decode cX11_pays 43 = .ok (.getfield 7, 3) := by decide +kernel
theorem dX11_pays_46 : decode cX11_pays 46 = .ok (.bipush 10, 2) := by decide +kernel
theorem dX11_pays_48 : decode cX11_pays 48 = .ok (.iload_n 1, 1) := by decide +kernel
theorem dX11_pays_49 : decode cX11_pays 49 = .ok (.iadd, 1) := by decide +kernel
theorem dX11_pays_50 : decode cX11_pays 50 = .ok (.iaload, 1) := by decide +kernel
theorem dX11_pays_51 : decode cX11_pays 51 = .ok (.iload 4, 2) := by decide +kernel
theorem dX11_pays_53 : decode cX11_pays 53 = .ok (.isub, 1) := by decide +kernel
theorem dX11_pays_54 : decode cX11_pays 54 = .ok (.invokevirtual 59, 3) := by decide +kernel
theorem dX11_pays_57 : decode cX11_pays 57 = .ok (.iaload, 1) := by decide +kernel
theorem dX11_pays_58 : decode cX11_pays 58 = .ok (.iadd, 1) := by decide +kernel
theorem dX11_pays_59 : decode cX11_pays 59 = .ok (.istore_n 3, 1) := by decide +kernel
theorem dX11_pays_60 : decode cX11_pays 60 = .ok (.iinc 4 1, 3) := by decide +kernel
theorem dX11_pays_63 : decode cX11_pays 63 = .ok (.goto (-34), 3) := by decide +kernel
theorem dX11_pays_66 : decode cX11_pays 66 = .ok (.iload_n 3, 1) := by decide +kernel
theorem dX11_pays_67 : decode cX11_pays 67 = .ok (.ireturn, 1) := by decide +kernel
theorem dX11_mayGive_0 : decode cX11_mayGive 0 = .ok (.aload_n 0, 1) := by decide +kernel
theorem dX11_mayGive_1 : decode cX11_mayGive 1 = .ok (.getfield 7, 3) := by decide +kernel
theorem dX11_mayGive_4 : decode cX11_mayGive 4 = .ok (.iconst 0, 1) := by decide +kernel
theorem dX11_mayGive_5 : decode cX11_mayGive 5 = .ok (.iload_n 1, 1) := by decide +kernel
theorem dX11_mayGive_6 : decode cX11_mayGive 6 = .ok (.iadd, 1) := by decide +kernel
theorem dX11_mayGive_7 : decode cX11_mayGive 7 = .ok (.iaload, 1) := by decide +kernel
theorem dX11_mayGive_8 : decode cX11_mayGive 8 = .ok (.iconst 3, 1) := by decide +kernel
theorem dX11_mayGive_9 : decode cX11_mayGive 9 = .ok (.if_icmp .ne 9, 3) := by decide +kernel
theorem dX11_mayGive_12 : decode cX11_mayGive 12 = .ok (.iload_n 2, 1) := by decide +kernel
theorem dX11_mayGive_13 : decode cX11_mayGive 13 = .ok (.iconst 2, 1) := by decide +kernel
theorem dX11_mayGive_14 : decode cX11_mayGive 14 = .ok (.irem, 1) := by decide +kernel
theorem dX11_mayGive_15 : decode cX11_mayGive 15 = .ok (.ifCond .ne 7, 3) := by decide +kernel
theorem dX11_mayGive_18 : decode cX11_mayGive 18 = .ok (.iconst 1, 1) := by decide +kernel
theorem dX11_mayGive_19 : decode cX11_mayGive 19 = .ok (.goto 4, 3) := by decide +kernel
theorem dX11_mayGive_22 : decode cX11_mayGive 22 = .ok (.iconst 0, 1) := by decide +kernel
theorem dX11_mayGive_23 : decode cX11_mayGive 23 = .ok (.ireturn, 1) := by decide +kernel
theorem dX11_findWays_0 : decode cX11_findWays 0 = .ok (.iconst 0, 1) := by decide +kernel
theorem dX11_findWays_1 : decode cX11_findWays 1 = .ok (.istore_n 1, 1) := by decide +kernel
theorem dX11_findWays_2 : decode cX11_findWays 2 = .ok (.iload_n 1, 1) := by decide +kernel
theorem dX11_findWays_3 : decode cX11_findWays 3 = .ok (.sipush 3200, 3) := by decide +kernel
theorem dX11_findWays_6 : decode cX11_findWays 6 = .ok (.if_icmp .ge 29, 3) := by decide +kernel
theorem dX11_findWays_9 : decode cX11_findWays 9 = .ok (.aload_n 0, 1) := by decide +kernel
theorem dX11_findWays_10 : decode cX11_findWays 10 = .ok (.getfield 24, 3) := by decide +kernel
theorem dX11_findWays_13 : decode cX11_findWays 13 = .ok (.sipush 32000, 3) := by decide +kernel
theorem dX11_findWays_16 : decode cX11_findWays 16 = .ok (.iload_n 1, 1) := by decide +kernel
theorem dX11_findWays_17 : decode cX11_findWays 17 = .ok (.iadd, 1) := by decide +kernel
theorem dX11_findWays_18 : decode cX11_findWays 18 = .ok (.iload_n 1, 1) := by decide +kernel
theorem dX11_findWays_19 : decode cX11_findWays 19 = .ok (.ifCond .ne 7, 3) := by decide +kernel
theorem dX11_findWays_22 : decode cX11_findWays 22 = .ok (.iconst 0, 1) := by decide +kernel
theorem dX11_findWays_23 : decode cX11_findWays 23 = .ok (.goto 5, 3) := by decide +kernel
theorem dX11_findWays_26 : decode cX11_findWays 26 = .ok (.ldc 99, 2) := by decide +kernel
theorem dX11_findWays_28 : decode cX11_findWays 28 = .ok (.iastore, 1) := by decide +kernel
theorem dX11_findWays_29 : decode cX11_findWays 29 = .ok (.iinc 1 1, 3) := by decide +kernel
theorem dX11_findWays_32 : decode cX11_findWays 32 = .ok (.goto (-30), 3) := by decide +kernel
theorem dX11_findWays_35 : decode cX11_findWays 35 = .ok (.bipush 9, 2) := by decide +kernel
theorem dX11_findWays_37 : decode cX11_findWays 37 = .ok (.istore_n 1, 1) := by decide +kernel
theorem dX11_findWays_38 : decode cX11_findWays 38 = .ok (.iload_n 1, 1) := by decide +kernel
theorem dX11_findWays_39 : decode cX11_findWays 39 = .ok (.ifCond .lt 162, 3) := by decide +kernel
theorem dX11_findWays_42 : decode cX11_findWays 42 = .ok (.iconst 0, 1) := by decide +kernel
theorem dX11_findWays_43 : decode cX11_findWays 43 = .ok (.istore_n 2, 1) := by decide +kernel
theorem dX11_findWays_44 : decode cX11_findWays 44 = .ok (.iload_n 2, 1) := by decide +kernel
theorem dX11_findWays_45 : decode cX11_findWays 45 = .ok (.sipush 3200, 3) := by decide +kernel
theorem dX11_findWays_48 : decode cX11_findWays 48 = .ok (.if_icmp .ge 23, 3) := by decide +kernel
theorem dX11_findWays_51 : decode cX11_findWays 51 = .ok (.aload_n 0, 1) := by decide +kernel
theorem dX11_findWays_52 : decode cX11_findWays 52 = .ok (.getfield 24, 3) := by decide +kernel
theorem dX11_findWays_55 : decode cX11_findWays 55 = .ok (.sipush 3200, 3) := by decide +kernel
theorem dX11_findWays_58 : decode cX11_findWays 58 = .ok (.iload_n 1, 1) := by decide +kernel
theorem dX11_findWays_59 : decode cX11_findWays 59 = .ok (.imul, 1) := by decide +kernel
theorem dX11_findWays_60 : decode cX11_findWays 60 = .ok (.iload_n 2, 1) := by decide +kernel
theorem dX11_findWays_61 : decode cX11_findWays 61 = .ok (.iadd, 1) := by decide +kernel
theorem dX11_findWays_62 : decode cX11_findWays 62 = .ok (.ldc 99, 2) := by decide +kernel
theorem dX11_findWays_64 : decode cX11_findWays 64 = .ok (.iastore, 1) := by decide +kernel
theorem dX11_findWays_65 : decode cX11_findWays 65 = .ok (.iinc 2 1, 3) := by decide +kernel
theorem dX11_findWays_68 : decode cX11_findWays 68 = .ok (.goto (-24), 3) := by decide +kernel
theorem dX11_findWays_71 : decode cX11_findWays 71 = .ok (.iconst 0, 1) := by decide +kernel
theorem dX11_findWays_72 : decode cX11_findWays 72 = .ok (.istore_n 2, 1) := by decide +kernel
theorem dX11_findWays_73 : decode cX11_findWays 73 = .ok (.iload_n 2, 1) := by decide +kernel
theorem dX11_findWays_74 : decode cX11_findWays 74 = .ok (.aload_n 0, 1) := by decide +kernel
theorem dX11_findWays_75 : decode cX11_findWays 75 = .ok (.getfield 7, 3) := by decide +kernel
theorem dX11_findWays_78 : decode cX11_findWays 78 = .ok (.bipush 10, 2) := by decide +kernel
theorem dX11_findWays_80 : decode cX11_findWays 80 = .ok (.iload_n 1, 1) := by decide +kernel
theorem dX11_findWays_81 : decode cX11_findWays 81 = .ok (.iadd, 1) := by decide +kernel
theorem dX11_findWays_82 : decode cX11_findWays 82 = .ok (.iaload, 1) := by decide +kernel
theorem dX11_findWays_83 : decode cX11_findWays 83 = .ok (.if_icmp .gt 112, 3) := by decide +kernel
theorem dX11_findWays_86 : decode cX11_findWays 86 = .ok (.aload_n 0, 1) := by decide +kernel
theorem dX11_findWays_87 : decode cX11_findWays 87 = .ok (.iload_n 1, 1) := by decide +kernel
theorem dX11_findWays_88 : decode cX11_findWays 88 = .ok (.iload_n 2, 1) := by decide +kernel
theorem dX11_findWays_89 : decode cX11_findWays 89 = .ok (.invokevirtual 100, 3) := by decide +kernel
theorem dX11_findWays_92 : decode cX11_findWays 92 = .ok (.istore_n 3, 1) := by decide +kernel
theorem dX11_findWays_93 : decode cX11_findWays 93 = .ok (.iload_n 3, 1) := by decide +kernel
theorem dX11_findWays_94 : decode cX11_findWays 94 = .ok (.istore 4, 2) := by decide +kernel
theorem dX11_findWays_96 : decode cX11_findWays 96 = .ok (.iload 4, 2) := by decide +kernel
theorem dX11_findWays_98 : decode cX11_findWays 98 = .ok (.sipush 3200, 3) := by decide +kernel
theorem dX11_findWays_101 : decode cX11_findWays 101 = .ok (.if_icmp .ge 88, 3) := by decide +kernel
theorem dX11_findWays_104 : decode cX11_findWays 104 = .ok (.aload_n 0, 1) := by decide +kernel
theorem dX11_findWays_105 : decode cX11_findWays 105 = .ok (.iload_n 1, 1) := by decide +kernel
theorem dX11_findWays_106 : decode cX11_findWays 106 = .ok (.iload_n 2, 1) := by decide +kernel
theorem dX11_findWays_107 : decode cX11_findWays 107 = .ok (.invokevirtual 103, 3) := by decide +kernel
theorem dX11_findWays_110 : decode cX11_findWays 110 = .ok (.ifCond .eq 79, 3) := by decide +kernel
theorem dX11_findWays_113 : decode cX11_findWays 113 = .ok (.aload_n 0, 1) := by decide +kernel
theorem dX11_findWays_114 : decode cX11_findWays 114 = .ok (.getfield 24, 3) := by decide +kernel
theorem dX11_findWays_117 : decode cX11_findWays 117 = .ok (.sipush 3200, 3) := by decide +kernel
theorem dX11_findWays_120 : decode cX11_findWays 120 = .ok (.iload_n 1, 1) := by decide +kernel
theorem dX11_findWays_121 : decode cX11_findWays 121 = .ok (.iconst 1, 1) := by decide +kernel
theorem dX11_findWays_122 : decode cX11_findWays 122 = .ok (.iadd, 1) := by decide +kernel
theorem dX11_findWays_123 : decode cX11_findWays 123 = .ok (.imul, 1) := by decide +kernel
theorem dX11_findWays_124 : decode cX11_findWays 124 = .ok (.iload 4, 2) := by decide +kernel
theorem dX11_findWays_126 : decode cX11_findWays 126 = .ok (.iadd, 1) := by decide +kernel
theorem dX11_findWays_127 : decode cX11_findWays 127 = .ok (.iload_n 3, 1) := by decide +kernel
theorem dX11_findWays_128 : decode cX11_findWays 128 = .ok (.isub, 1) := by decide +kernel
theorem dX11_findWays_129 : decode cX11_findWays 129 = .ok (.iaload, 1) := by decide +kernel
theorem dX11_findWays_130 : decode cX11_findWays 130 = .ok (.iload_n 2, 1) := by decide +kernel
theorem dX11_findWays_131 : decode cX11_findWays 131 = .ok (.iadd, 1) := by decide +kernel
theorem dX11_findWays_132 : decode cX11_findWays 132 = .ok (.istore 5, 2) := by decide +kernel
theorem dX11_findWays_134 : decode cX11_findWays 134 = .ok (.aload_n 0, 1) := by decide +kernel
theorem dX11_findWays_135 : decode cX11_findWays 135 = .ok (.getfield 24, 3) := by decide +kernel
theorem dX11_findWays_138 : decode cX11_findWays 138 = .ok (.sipush 3200, 3) := by decide +kernel
theorem dX11_findWays_141 : decode cX11_findWays 141 = .ok (.iload_n 1, 1) := by decide +kernel
theorem dX11_findWays_142 : decode cX11_findWays 142 = .ok (.imul, 1) := by decide +kernel
theorem dX11_findWays_143 : decode cX11_findWays 143 = .ok (.iload 4, 2) := by decide +kernel
theorem dX11_findWays_145 : decode cX11_findWays 145 = .ok (.iadd, 1) := by decide +kernel
theorem dX11_findWays_146 : decode cX11_findWays 146 = .ok (.iload 5, 2) := by decide +kernel
theorem dX11_findWays_148 : decode cX11_findWays 148 = .ok (.aload_n 0, 1) := by decide +kernel
theorem dX11_findWays_149 : decode cX11_findWays 149 = .ok (.getfield 24, 3) := by decide +kernel
theorem dX11_findWays_152 : decode cX11_findWays 152 = .ok (.sipush 3200, 3) := by decide +kernel
theorem dX11_findWays_155 : decode cX11_findWays 155 = .ok (.iload_n 1, 1) := by decide +kernel
theorem dX11_findWays_156 : decode cX11_findWays 156 = .ok (.imul, 1) := by decide +kernel
theorem dX11_findWays_157 : decode cX11_findWays 157 = .ok (.iload 4, 2) := by decide +kernel
theorem dX11_findWays_159 : decode cX11_findWays 159 = .ok (.iadd, 1) := by decide +kernel
theorem dX11_findWays_160 : decode cX11_findWays 160 = .ok (.iaload, 1) := by decide +kernel
theorem dX11_findWays_161 : decode cX11_findWays 161 = .ok (.if_icmp .ge 8, 3) := by decide +kernel
theorem dX11_findWays_164 : decode cX11_findWays 164 = .ok (.iload 5, 2) := by decide +kernel
theorem dX11_findWays_166 : decode cX11_findWays 166 = .ok (.goto 16, 3) := by decide +kernel
theorem dX11_findWays_169 : decode cX11_findWays 169 = .ok (.aload_n 0, 1) := by decide +kernel
theorem dX11_findWays_170 : decode cX11_findWays 170 = .ok (.getfield 24, 3) := by decide +kernel
theorem dX11_findWays_173 : decode cX11_findWays 173 = .ok (.sipush 3200, 3) := by decide +kernel
theorem dX11_findWays_176 : decode cX11_findWays 176 = .ok (.iload_n 1, 1) := by decide +kernel
theorem dX11_findWays_177 : decode cX11_findWays 177 = .ok (.imul, 1) := by decide +kernel
theorem dX11_findWays_178 : decode cX11_findWays 178 = .ok (.iload 4, 2) := by decide +kernel
theorem dX11_findWays_180 : decode cX11_findWays 180 = .ok (.iadd, 1) := by decide +kernel
theorem dX11_findWays_181 : decode cX11_findWays 181 = .ok (.iaload, 1) := by decide +kernel
theorem dX11_findWays_182 : decode cX11_findWays 182 = .ok (.iastore, 1) := by decide +kernel
theorem dX11_findWays_183 : decode cX11_findWays 183 = .ok (.iinc 4 1, 3) := by decide +kernel
theorem dX11_findWays_186 : decode cX11_findWays 186 = .ok (.goto (-90), 3) := by decide +kernel
theorem dX11_findWays_189 : decode cX11_findWays 189 = .ok (.iinc 2 1, 3) := by decide +kernel
theorem dX11_findWays_192 : decode cX11_findWays 192 = .ok (.goto (-119), 3) := by decide +kernel
theorem dX11_findWays_195 : decode cX11_findWays 195 = .ok (.iinc 1 (-1), 3) := by decide +kernel
theorem dX11_findWays_198 : decode cX11_findWays 198 = .ok (.goto (-160), 3) := by decide +kernel
theorem dX11_findWays_201 : decode cX11_findWays 201 = .ok (.return_, 1) := by decide +kernel
theorem dX11_leastSum_0 : decode cX11_leastSum 0 = .ok (.aload_n 0, 1) := by decide +kernel
theorem dX11_leastSum_1 : decode cX11_leastSum 1 = .ok (.invokevirtual 106, 3) := by decide +kernel
theorem dX11_leastSum_4 : decode cX11_leastSum 4 = .ok (.iload_n 1, 1) := by decide +kernel
theorem dX11_leastSum_5 : decode cX11_leastSum 5 = .ok (.istore_n 2, 1) := by decide +kernel
theorem dX11_leastSum_6 : decode cX11_leastSum 6 = .ok (.iload_n 2, 1) := by decide +kernel
theorem dX11_leastSum_7 : decode cX11_leastSum 7 = .ok (.sipush 3200, 3) := by decide +kernel
theorem dX11_leastSum_10 : decode cX11_leastSum 10 = .ok (.if_icmp .ge 22, 3) := by decide +kernel
theorem dX11_leastSum_13 : decode cX11_leastSum 13 = .ok (.aload_n 0, 1) := by decide +kernel
theorem dX11_leastSum_14 : decode cX11_leastSum 14 = .ok (.getfield 24, 3) := by decide +kernel
theorem dX11_leastSum_17 : decode cX11_leastSum 17 = .ok (.iload_n 2, 1) := by decide +kernel
theorem dX11_leastSum_18 : decode cX11_leastSum 18 = .ok (.iaload, 1) := by decide +kernel
theorem dX11_leastSum_19 : decode cX11_leastSum 19 = .ok (.ldc 99, 2) := by decide +kernel
theorem dX11_leastSum_21 : decode cX11_leastSum 21 = .ok (.if_icmp .ge 5, 3) := by decide +kernel
theorem dX11_leastSum_24 : decode cX11_leastSum 24 = .ok (.iload_n 2, 1) := by decide +kernel
theorem dX11_leastSum_25 : decode cX11_leastSum 25 = .ok (.ireturn, 1) := by decide +kernel
theorem dX11_leastSum_26 : decode cX11_leastSum 26 = .ok (.iinc 2 1, 3) := by decide +kernel
theorem dX11_leastSum_29 : decode cX11_leastSum 29 = .ok (.goto (-23), 3) := by decide +kernel
theorem dX11_leastSum_32 : decode cX11_leastSum 32 = .ok (.iconst (-1), 1) := by decide +kernel
theorem dX11_leastSum_33 : decode cX11_leastSum 33 = .ok (.ireturn, 1) := by decide +kernel
theorem dX11_tear_0 : decode cX11_tear 0 = .ok (.aload_n 0, 1) := by decide +kernel
theorem dX11_tear_1 : decode cX11_tear 1 = .ok (.getfield 7, 3) := by decide +kernel
theorem dX11_tear_4 : decode cX11_tear 4 = .ok (.aload_n 0, 1) := by decide +kernel
theorem dX11_tear_5 : decode cX11_tear 5 = .ok (.iload_n 2, 1) := by decide +kernel
theorem dX11_tear_6 : decode cX11_tear 6 = .ok (.iload_n 3, 1) := by decide +kernel
theorem dX11_tear_7 : decode cX11_tear 7 = .ok (.invokevirtual 40, 3) := by decide +kernel
theorem dX11_tear_10 : decode cX11_tear 10 = .ok (.iconst 0, 1) := by decide +kernel
theorem dX11_tear_11 : decode cX11_tear 11 = .ok (.iastore, 1) := by decide +kernel
theorem dX11_tear_12 : decode cX11_tear 12 = .ok (.aload_n 0, 1) := by decide +kernel
theorem dX11_tear_13 : decode cX11_tear 13 = .ok (.getfield 7, 3) := by decide +kernel
theorem dX11_tear_16 : decode cX11_tear 16 = .ok (.sipush 2127, 3) := by decide +kernel
theorem dX11_tear_19 : decode cX11_tear 19 = .ok (.bipush 20, 2) := by decide +kernel
theorem dX11_tear_21 : decode cX11_tear 21 = .ok (.iload_n 1, 1) := by decide +kernel
theorem dX11_tear_22 : decode cX11_tear 22 = .ok (.imul, 1) := by decide +kernel
theorem dX11_tear_23 : decode cX11_tear 23 = .ok (.iadd, 1) := by decide +kernel
theorem dX11_tear_24 : decode cX11_tear 24 = .ok (.iconst 2, 1) := by decide +kernel
theorem dX11_tear_25 : decode cX11_tear 25 = .ok (.iload_n 2, 1) := by decide +kernel
theorem dX11_tear_26 : decode cX11_tear 26 = .ok (.imul, 1) := by decide +kernel
theorem dX11_tear_27 : decode cX11_tear 27 = .ok (.iadd, 1) := by decide +kernel
theorem dX11_tear_28 : decode cX11_tear 28 = .ok (.iload_n 3, 1) := by decide +kernel
theorem dX11_tear_29 : decode cX11_tear 29 = .ok (.bipush 32, 2) := by decide +kernel
theorem dX11_tear_31 : decode cX11_tear 31 = .ok (.idiv, 1) := by decide +kernel
theorem dX11_tear_32 : decode cX11_tear 32 = .ok (.iadd, 1) := by decide +kernel
theorem dX11_tear_33 : decode cX11_tear 33 = .ok (.dup2, 1) := by decide +kernel
theorem dX11_tear_34 : decode cX11_tear 34 = .ok (.iaload, 1) := by decide +kernel
theorem dX11_tear_35 : decode cX11_tear 35 = .ok (.iconst 1, 1) := by decide +kernel
theorem dX11_tear_36 : decode cX11_tear 36 = .ok (.iload_n 3, 1) := by decide +kernel
theorem dX11_tear_37 : decode cX11_tear 37 = .ok (.bipush 32, 2) := by decide +kernel
theorem dX11_tear_39 : decode cX11_tear 39 = .ok (.irem, 1) := by decide +kernel
theorem dX11_tear_40 : decode cX11_tear 40 = .ok (.ishl, 1) := by decide +kernel
theorem dX11_tear_41 : decode cX11_tear 41 = .ok (.ior, 1) := by decide +kernel
theorem dX11_tear_42 : decode cX11_tear 42 = .ok (.iastore, 1) := by decide +kernel
theorem dX11_tear_43 : decode cX11_tear 43 = .ok (.return_, 1) := by decide +kernel
theorem dX11_tearOff_0 : decode cX11_tearOff 0 = .ok (.aload_n 0, 1) := by decide +kernel
theorem dX11_tearOff_1 : decode cX11_tearOff 1 = .ok (.iload_n 2, 1) := by decide +kernel
theorem dX11_tearOff_2 : decode cX11_tearOff 2 = .ok (.invokevirtual 73, 3) := by decide +kernel
theorem dX11_tearOff_5 : decode cX11_tearOff 5 = .ok (.istore 5, 2) := by decide +kernel
theorem dX11_tearOff_7 : decode cX11_tearOff 7 = .ok (.iconst (-1), 1) := by decide +kernel
theorem dX11_tearOff_8 : decode cX11_tearOff 8 = .ok (.istore 6, 2) := by decide +kernel
theorem dX11_tearOff_10 : decode cX11_tearOff 10 = .ok (.iconst (-1), 1) := by decide +kernel
theorem dX11_tearOff_11 : decode cX11_tearOff 11 = .ok (.istore 7, 2) := by decide +kernel
theorem dX11_tearOff_13 : decode cX11_tearOff 13 = .ok (.ldc 99, 2) := by decide +kernel
theorem dX11_tearOff_15 : decode cX11_tearOff 15 = .ok (.istore 8, 2) := by decide +kernel
theorem dX11_tearOff_17 : decode cX11_tearOff 17 = .ok (.iconst 0, 1) := by decide +kernel
theorem dX11_tearOff_18 : decode cX11_tearOff 18 = .ok (.istore 9, 2) := by decide +kernel
theorem dX11_tearOff_20 : decode cX11_tearOff 20 = .ok (.iload 9, 2) := by decide +kernel
theorem dX11_tearOff_22 : decode cX11_tearOff 22 = .ok (.iload 5, 2) := by decide +kernel
theorem dX11_tearOff_24 : decode cX11_tearOff 24 = .ok (.if_icmp .ge 134, 3) := by decide +kernel
theorem dX11_tearOff_27 : decode cX11_tearOff 27 = .ok (.iload_n 3, 1) := by decide +kernel
theorem dX11_tearOff_28 : decode cX11_tearOff 28 = .ok (.iconst 3, 1) := by decide +kernel
theorem dX11_tearOff_29 : decode cX11_tearOff 29 = .ok (.if_icmp .ge 129, 3) := by decide +kernel
theorem dX11_tearOff_32 : decode cX11_tearOff 32 = .ok (.aload_n 0, 1) := by decide +kernel
theorem dX11_tearOff_33 : decode cX11_tearOff 33 = .ok (.getfield 7, 3) := by decide +kernel
theorem dX11_tearOff_36 : decode cX11_tearOff 36 = .ok (.aload_n 0, 1) := by decide +kernel
theorem dX11_tearOff_37 : decode cX11_tearOff 37 = .ok (.iload_n 2, 1) := by decide +kernel
theorem dX11_tearOff_38 : decode cX11_tearOff 38 = .ok (.iload 9, 2) := by decide +kernel
theorem dX11_tearOff_40 : decode cX11_tearOff 40 = .ok (.invokevirtual 40, 3) := by decide +kernel
theorem dX11_tearOff_43 : decode cX11_tearOff 43 = .ok (.iaload, 1) := by decide +kernel
theorem dX11_tearOff_44 : decode cX11_tearOff 44 = .ok (.ifCond .ne 6, 3) := by decide +kernel
theorem dX11_tearOff_47 : decode cX11_tearOff 47 = .ok (.goto 101, 3) := by decide +kernel
theorem dX11_tearOff_50 : decode cX11_tearOff 50 = .ok (.iload_n 3, 1) := by decide +kernel
theorem dX11_tearOff_51 : decode cX11_tearOff 51 = .ok (.iconst 1, 1) := by decide +kernel
theorem dX11_tearOff_52 : decode cX11_tearOff 52 = .ok (.if_icmp .ne 8, 3) := by decide +kernel
theorem dX11_tearOff_55 : decode cX11_tearOff 55 = .ok (.iload 9, 2) := by decide +kernel
theorem dX11_tearOff_57 : decode cX11_tearOff 57 = .ok (.goto 8, 3) := by decide +kernel
theorem dX11_tearOff_60 : decode cX11_tearOff 60 = .ok (.iload 9, 2) := by decide +kernel
theorem dX11_tearOff_62 : decode cX11_tearOff 62 = .ok (.iload 4, 2) := by decide +kernel
theorem dX11_tearOff_64 : decode cX11_tearOff 64 = .ok (.iadd, 1) := by decide +kernel
theorem dX11_tearOff_65 : decode cX11_tearOff 65 = .ok (.istore 10, 2) := by decide +kernel
theorem dX11_tearOff_67 : decode cX11_tearOff 67 = .ok (.iload 10, 2) := by decide +kernel
theorem dX11_tearOff_69 : decode cX11_tearOff 69 = .ok (.iload_n 3, 1) := by decide +kernel
theorem dX11_tearOff_70 : decode cX11_tearOff 70 = .ok (.iconst 1, 1) := by decide +kernel
theorem dX11_tearOff_71 : decode cX11_tearOff 71 = .ok (.if_icmp .ne 10, 3) := by decide +kernel
theorem dX11_tearOff_74 : decode cX11_tearOff 74 = .ok (.iload 9, 2) := by decide +kernel
theorem dX11_tearOff_76 : decode cX11_tearOff 76 = .ok (.iconst 1, 1) := by decide +kernel
theorem dX11_tearOff_77 : decode cX11_tearOff 77 = .ok (.iadd, 1) := by decide +kernel
theorem dX11_tearOff_78 : decode cX11_tearOff 78 = .ok (.goto 5, 3) := by decide +kernel
theorem dX11_tearOff_81 : decode cX11_tearOff 81 = .ok (.iload 5, 2) := by decide +kernel
theorem dX11_tearOff_83 : decode cX11_tearOff 83 = .ok (.if_icmp .ge 65, 3) := by decide +kernel
theorem dX11_tearOff_86 : decode cX11_tearOff 86 = .ok (.aload_n 0, 1) := by decide +kernel
theorem dX11_tearOff_87 : decode cX11_tearOff 87 = .ok (.getfield 7, 3) := by decide +kernel
theorem dX11_tearOff_90 : decode cX11_tearOff 90 = .ok (.aload_n 0, 1) := by decide +kernel
theorem dX11_tearOff_91 : decode cX11_tearOff 91 = .ok (.iload_n 2, 1) := by decide +kernel
theorem dX11_tearOff_92 : decode cX11_tearOff 92 = .ok (.iload 10, 2) := by decide +kernel
theorem dX11_tearOff_94 : decode cX11_tearOff 94 = .ok (.invokevirtual 40, 3) := by decide +kernel
theorem dX11_tearOff_97 : decode cX11_tearOff 97 = .ok (.iaload, 1) := by decide +kernel
theorem dX11_tearOff_98 : decode cX11_tearOff 98 = .ok (.ifCond .ne 8, 3) := by decide +kernel
theorem dX11_tearOff_101 : decode cX11_tearOff 101 = .ok (.ldc 99, 2) := by decide +kernel
theorem dX11_tearOff_103 : decode cX11_tearOff 103 = .ok (.goto 14, 3) := by decide +kernel
theorem dX11_tearOff_106 : decode cX11_tearOff 106 = .ok (.aload_n 0, 1) := by decide +kernel
theorem dX11_tearOff_107 : decode cX11_tearOff 107 = .ok (.iload_n 2, 1) := by decide +kernel
theorem dX11_tearOff_108 : decode cX11_tearOff 108 = .ok (.iload 9, 2) := by decide +kernel
theorem dX11_tearOff_110 : decode cX11_tearOff 110 = .ok (.iload 10, 2) := by decide +kernel
theorem dX11_tearOff_112 : decode cX11_tearOff 112 = .ok (.iload 4, 2) := by decide +kernel
theorem dX11_tearOff_114 : decode cX11_tearOff 114 = .ok (.invokevirtual 80, 3) := by decide +kernel
theorem dX11_tearOff_117 : decode cX11_tearOff 117 = .ok (.istore 11, 2) := by decide +kernel
theorem dX11_tearOff_119 : decode cX11_tearOff 119 = .ok (.iload 11, 2) := by decide +kernel
theorem dX11_tearOff_121 : decode cX11_tearOff 121 = .ok (.iload 8, 2) := by decide +kernel
theorem dX11_tearOff_123 : decode cX11_tearOff 123 = .ok (.if_icmp .ge 15, 3) := by decide +kernel
theorem dX11_tearOff_126 : decode cX11_tearOff 126 = .ok (.iload 11, 2) := by decide +kernel
theorem dX11_tearOff_128 : decode cX11_tearOff 128 = .ok (.istore 8, 2) := by decide +kernel
theorem dX11_tearOff_130 : decode cX11_tearOff 130 = .ok (.iload 9, 2) := by decide +kernel
theorem dX11_tearOff_132 : decode cX11_tearOff 132 = .ok (.istore 6, 2) := by decide +kernel
theorem dX11_tearOff_134 : decode cX11_tearOff 134 = .ok (.iload 10, 2) := by decide +kernel
theorem dX11_tearOff_136 : decode cX11_tearOff 136 = .ok (.istore 7, 2) := by decide +kernel
theorem dX11_tearOff_138 : decode cX11_tearOff 138 = .ok (.iload 10, 2) := by decide +kernel
theorem dX11_tearOff_140 : decode cX11_tearOff 140 = .ok (.iload 4, 2) := by decide +kernel
theorem dX11_tearOff_142 : decode cX11_tearOff 142 = .ok (.iadd, 1) := by decide +kernel
theorem dX11_tearOff_143 : decode cX11_tearOff 143 = .ok (.istore 10, 2) := by decide +kernel
theorem dX11_tearOff_145 : decode cX11_tearOff 145 = .ok (.goto (-78), 3) := by decide +kernel
theorem dX11_tearOff_148 : decode cX11_tearOff 148 = .ok (.iload 9, 2) := by decide +kernel
theorem dX11_tearOff_150 : decode cX11_tearOff 150 = .ok (.iload 4, 2) := by decide +kernel
theorem dX11_tearOff_152 : decode cX11_tearOff 152 = .ok (.iadd, 1) := by decide +kernel
theorem dX11_tearOff_153 : decode cX11_tearOff 153 = .ok (.istore 9, 2) := by decide +kernel
theorem dX11_tearOff_155 : decode cX11_tearOff 155 = .ok (.goto (-135), 3) := by decide +kernel
theorem dX11_tearOff_158 : decode cX11_tearOff 158 = .ok (.iload_n 3, 1) := by decide +kernel
theorem dX11_tearOff_159 : decode cX11_tearOff 159 = .ok (.iconst 3, 1) := by decide +kernel
theorem dX11_tearOff_160 : decode cX11_tearOff 160 = .ok (.if_icmp .ge 42, 3) := by decide +kernel
theorem dX11_tearOff_163 : decode cX11_tearOff 163 = .ok (.iconst 0, 1) := by decide +kernel
theorem dX11_tearOff_164 : decode cX11_tearOff 164 = .ok (.istore 9, 2) := by decide +kernel
theorem dX11_tearOff_166 : decode cX11_tearOff 166 = .ok (.iload 9, 2) := by decide +kernel
theorem dX11_tearOff_168 : decode cX11_tearOff 168 = .ok (.iload 4, 2) := by decide +kernel
theorem dX11_tearOff_170 : decode cX11_tearOff 170 = .ok (.if_icmp .ge 31, 3) := by decide +kernel
theorem dX11_tearOff_173 : decode cX11_tearOff 173 = .ok (.aload_n 0, 1) := by decide +kernel
theorem dX11_tearOff_174 : decode cX11_tearOff 174 = .ok (.iload_n 1, 1) := by decide +kernel
theorem dX11_tearOff_175 : decode cX11_tearOff 175 = .ok (.iload_n 2, 1) := by decide +kernel
theorem dX11_tearOff_176 : decode cX11_tearOff 176 = .ok (.iload 6, 2) := by decide +kernel
theorem dX11_tearOff_178 : decode cX11_tearOff 178 = .ok (.iload 9, 2) := by decide +kernel
theorem dX11_tearOff_180 : decode cX11_tearOff 180 = .ok (.iadd, 1) := by decide +kernel
theorem dX11_tearOff_181 : decode cX11_tearOff 181 = .ok (.invokevirtual 109, 3) := by decide +kernel
theorem dX11_tearOff_184 : decode cX11_tearOff 184 = .ok (.aload_n 0, 1) := by decide +kernel
theorem dX11_tearOff_185 : decode cX11_tearOff 185 = .ok (.iload_n 1, 1) := by decide +kernel
theorem dX11_tearOff_186 : decode cX11_tearOff 186 = .ok (.iload_n 2, 1) := by decide +kernel
theorem dX11_tearOff_187 : decode cX11_tearOff 187 = .ok (.iload 7, 2) := by decide +kernel
theorem dX11_tearOff_189 : decode cX11_tearOff 189 = .ok (.iload 9, 2) := by decide +kernel
theorem dX11_tearOff_191 : decode cX11_tearOff 191 = .ok (.iadd, 1) := by decide +kernel
theorem dX11_tearOff_192 : decode cX11_tearOff 192 = .ok (.invokevirtual 109, 3) := by decide +kernel
theorem dX11_tearOff_195 : decode cX11_tearOff 195 = .ok (.iinc 9 1, 3) := by decide +kernel
theorem dX11_tearOff_198 : decode cX11_tearOff 198 = .ok (.goto (-32), 3) := by decide +kernel
theorem dX11_tearOff_201 : decode cX11_tearOff 201 = .ok (.return_, 1) := by decide +kernel
theorem dX11_tearOff_202 : decode cX11_tearOff 202 = .ok (.iload_n 3, 1) := by decide +kernel
theorem dX11_tearOff_203 : decode cX11_tearOff 203 = .ok (.istore 9, 2) := by decide +kernel
theorem dX11_tearOff_205 : decode cX11_tearOff 205 = .ok (.iload 5, 2) := by decide +kernel
theorem dX11_tearOff_207 : decode cX11_tearOff 207 = .ok (.iload 4, 2) := by decide +kernel
theorem dX11_tearOff_209 : decode cX11_tearOff 209 = .ok (.isub, 1) := by decide +kernel
theorem dX11_tearOff_210 : decode cX11_tearOff 210 = .ok (.istore 10, 2) := by decide +kernel
theorem dX11_tearOff_212 : decode cX11_tearOff 212 = .ok (.iload 10, 2) := by decide +kernel
theorem dX11_tearOff_214 : decode cX11_tearOff 214 = .ok (.ifCond .lt 63, 3) := by decide +kernel
theorem dX11_tearOff_217 : decode cX11_tearOff 217 = .ok (.iload 9, 2) := by decide +kernel
theorem dX11_tearOff_219 : decode cX11_tearOff 219 = .ok (.ifCond .le 58, 3) := by decide +kernel
theorem dX11_tearOff_222 : decode cX11_tearOff 222 = .ok (.aload_n 0, 1) := by decide +kernel
theorem dX11_tearOff_223 : decode cX11_tearOff 223 = .ok (.getfield 7, 3) := by decide +kernel
theorem dX11_tearOff_226 : decode cX11_tearOff 226 = .ok (.aload_n 0, 1) := by decide +kernel
theorem dX11_tearOff_227 : decode cX11_tearOff 227 = .ok (.iload_n 2, 1) := by decide +kernel
theorem dX11_tearOff_228 : decode cX11_tearOff 228 = .ok (.iload 10, 2) := by decide +kernel
theorem dX11_tearOff_230 : decode cX11_tearOff 230 = .ok (.invokevirtual 40, 3) := by decide +kernel
theorem dX11_tearOff_233 : decode cX11_tearOff 233 = .ok (.iaload, 1) := by decide +kernel
theorem dX11_tearOff_234 : decode cX11_tearOff 234 = .ok (.ifCond .le 33, 3) := by decide +kernel
theorem dX11_tearOff_237 : decode cX11_tearOff 237 = .ok (.iconst 0, 1) := by decide +kernel
theorem dX11_tearOff_238 : decode cX11_tearOff 238 = .ok (.istore 11, 2) := by decide +kernel
theorem dX11_tearOff_240 : decode cX11_tearOff 240 = .ok (.iload 11, 2) := by decide +kernel
theorem dX11_tearOff_242 : decode cX11_tearOff 242 = .ok (.iload 4, 2) := by decide +kernel
theorem dX11_tearOff_244 : decode cX11_tearOff 244 = .ok (.if_icmp .ge 20, 3) := by decide +kernel
theorem dX11_tearOff_247 : decode cX11_tearOff 247 = .ok (.aload_n 0, 1) := by decide +kernel
theorem dX11_tearOff_248 : decode cX11_tearOff 248 = .ok (.iload_n 1, 1) := by decide +kernel
theorem dX11_tearOff_249 : decode cX11_tearOff 249 = .ok (.iload_n 2, 1) := by decide +kernel
theorem dX11_tearOff_250 : decode cX11_tearOff 250 = .ok (.iload 10, 2) := by decide +kernel
theorem dX11_tearOff_252 : decode cX11_tearOff 252 = .ok (.iload 11, 2) := by decide +kernel
theorem dX11_tearOff_254 : decode cX11_tearOff 254 = .ok (.iadd, 1) := by decide +kernel
theorem dX11_tearOff_255 : decode cX11_tearOff 255 = .ok (.invokevirtual 109, 3) := by decide +kernel
theorem dX11_tearOff_258 : decode cX11_tearOff 258 = .ok (.iinc 11 1, 3) := by decide +kernel
theorem dX11_tearOff_261 : decode cX11_tearOff 261 = .ok (.goto (-21), 3) := by decide +kernel
theorem dX11_tearOff_264 : decode cX11_tearOff 264 = .ok (.iinc 9 (-1), 3) := by decide +kernel
theorem dX11_tearOff_267 : decode cX11_tearOff 267 = .ok (.iload 10, 2) := by decide +kernel
theorem dX11_tearOff_269 : decode cX11_tearOff 269 = .ok (.iload 4, 2) := by decide +kernel
theorem dX11_tearOff_271 : decode cX11_tearOff 271 = .ok (.isub, 1) := by decide +kernel
theorem dX11_tearOff_272 : decode cX11_tearOff 272 = .ok (.istore 10, 2) := by decide +kernel
theorem dX11_tearOff_274 : decode cX11_tearOff 274 = .ok (.goto (-62), 3) := by decide +kernel
theorem dX11_tearOff_277 : decode cX11_tearOff 277 = .ok (.return_, 1) := by decide +kernel
theorem dX11_give_0 : decode cX11_give 0 = .ok (.aload_n 0, 1) := by decide +kernel
theorem dX11_give_1 : decode cX11_give 1 = .ok (.getfield 7, 3) := by decide +kernel
theorem dX11_give_4 : decode cX11_give 4 = .ok (.sipush 1527, 3) := by decide +kernel
theorem dX11_give_7 : decode cX11_give 7 = .ok (.bipush 10, 2) := by decide +kernel
theorem dX11_give_9 : decode cX11_give 9 = .ok (.iload_n 1, 1) := by decide +kernel
theorem dX11_give_10 : decode cX11_give 10 = .ok (.imul, 1) := by decide +kernel
theorem dX11_give_11 : decode cX11_give 11 = .ok (.iadd, 1) := by decide +kernel
theorem dX11_give_12 : decode cX11_give 12 = .ok (.iload_n 2, 1) := by decide +kernel
theorem dX11_give_13 : decode cX11_give 13 = .ok (.iadd, 1) := by decide +kernel
theorem dX11_give_14 : decode cX11_give 14 = .ok (.iload_n 3, 1) := by decide +kernel
theorem dX11_give_15 : decode cX11_give 15 = .ok (.iastore, 1) := by decide +kernel
theorem dX11_give_16 : decode cX11_give 16 = .ok (.aload_n 0, 1) := by decide +kernel
theorem dX11_give_17 : decode cX11_give 17 = .ok (.getfield 7, 3) := by decide +kernel
theorem dX11_give_20 : decode cX11_give 20 = .ok (.sipush 1407, 3) := by decide +kernel
theorem dX11_give_23 : decode cX11_give 23 = .ok (.iload_n 1, 1) := by decide +kernel
theorem dX11_give_24 : decode cX11_give 24 = .ok (.iadd, 1) := by decide +kernel
theorem dX11_give_25 : decode cX11_give 25 = .ok (.dup2, 1) := by decide +kernel
theorem dX11_give_26 : decode cX11_give 26 = .ok (.iaload, 1) := by decide +kernel
theorem dX11_give_27 : decode cX11_give 27 = .ok (.iload_n 3, 1) := by decide +kernel
theorem dX11_give_28 : decode cX11_give 28 = .ok (.iadd, 1) := by decide +kernel
theorem dX11_give_29 : decode cX11_give 29 = .ok (.iastore, 1) := by decide +kernel
theorem dX11_give_30 : decode cX11_give 30 = .ok (.iconst 1, 1) := by decide +kernel
theorem dX11_give_31 : decode cX11_give 31 = .ok (.istore 4, 2) := by decide +kernel
theorem dX11_give_33 : decode cX11_give 33 = .ok (.iload 4, 2) := by decide +kernel
theorem dX11_give_35 : decode cX11_give 35 = .ok (.iload_n 3, 1) := by decide +kernel
theorem dX11_give_36 : decode cX11_give 36 = .ok (.if_icmp .gt 72, 3) := by decide +kernel
theorem dX11_give_39 : decode cX11_give 39 = .ok (.aload_n 0, 1) := by decide +kernel
theorem dX11_give_40 : decode cX11_give 40 = .ok (.getfield 7, 3) := by decide +kernel
theorem dX11_give_43 : decode cX11_give 43 = .ok (.iconst 0, 1) := by decide +kernel
theorem dX11_give_44 : decode cX11_give 44 = .ok (.iload_n 2, 1) := by decide +kernel
theorem dX11_give_45 : decode cX11_give 45 = .ok (.iadd, 1) := by decide +kernel
theorem dX11_give_46 : decode cX11_give 46 = .ok (.iaload, 1) := by decide +kernel
theorem dX11_give_47 : decode cX11_give 47 = .ok (.iconst 1, 1) := by decide +kernel
theorem dX11_give_48 : decode cX11_give 48 = .ok (.if_icmp .ne 28, 3) := by decide +kernel
theorem dX11_give_51 : decode cX11_give 51 = .ok (.aload_n 0, 1) := by decide +kernel
theorem dX11_give_52 : decode cX11_give 52 = .ok (.getfield 7, 3) := by decide +kernel
theorem dX11_give_55 : decode cX11_give 55 = .ok (.aload_n 0, 1) := by decide +kernel
theorem dX11_give_56 : decode cX11_give 56 = .ok (.iload_n 2, 1) := by decide +kernel
theorem dX11_give_57 : decode cX11_give 57 = .ok (.aload_n 0, 1) := by decide +kernel
theorem dX11_give_58 : decode cX11_give 58 = .ok (.getfield 7, 3) := by decide +kernel
theorem dX11_give_61 : decode cX11_give 61 = .ok (.bipush 10, 2) := by decide +kernel
theorem dX11_give_63 : decode cX11_give 63 = .ok (.iload_n 2, 1) := by decide +kernel
theorem dX11_give_64 : decode cX11_give 64 = .ok (.iadd, 1) := by decide +kernel
theorem dX11_give_65 : decode cX11_give 65 = .ok (.iaload, 1) := by decide +kernel
theorem dX11_give_66 : decode cX11_give 66 = .ok (.iload 4, 2) := by decide +kernel
theorem dX11_give_68 : decode cX11_give 68 = .ok (.isub, 1) := by decide +kernel
theorem dX11_give_69 : decode cX11_give 69 = .ok (.invokevirtual 59, 3) := by decide +kernel
theorem dX11_give_72 : decode cX11_give 72 = .ok (.iaload, 1) := by decide +kernel
theorem dX11_give_73 : decode cX11_give 73 = .ok (.goto 12, 3) := by decide +kernel
theorem dX11_give_76 : decode cX11_give 76 = .ok (.aload_n 0, 1) := by decide +kernel
theorem dX11_give_77 : decode cX11_give 77 = .ok (.getfield 7, 3) := by decide +kernel
theorem dX11_give_80 : decode cX11_give 80 = .ok (.bipush 20, 2) := by decide +kernel
theorem dX11_give_82 : decode cX11_give 82 = .ok (.iload_n 2, 1) := by decide +kernel
theorem dX11_give_83 : decode cX11_give 83 = .ok (.iadd, 1) := by decide +kernel
theorem dX11_give_84 : decode cX11_give 84 = .ok (.iaload, 1) := by decide +kernel
theorem dX11_give_85 : decode cX11_give 85 = .ok (.istore 5, 2) := by decide +kernel
theorem dX11_give_87 : decode cX11_give 87 = .ok (.aload_n 0, 1) := by decide +kernel
theorem dX11_give_88 : decode cX11_give 88 = .ok (.getfield 7, 3) := by decide +kernel
theorem dX11_give_91 : decode cX11_give 91 = .ok (.sipush 3327, 3) := by decide +kernel
theorem dX11_give_94 : decode cX11_give 94 = .ok (.iload 5, 2) := by decide +kernel
theorem dX11_give_96 : decode cX11_give 96 = .ok (.iadd, 1) := by decide +kernel
theorem dX11_give_97 : decode cX11_give 97 = .ok (.dup2, 1) := by decide +kernel
theorem dX11_give_98 : decode cX11_give 98 = .ok (.iaload, 1) := by decide +kernel
theorem dX11_give_99 : decode cX11_give 99 = .ok (.iconst 1, 1) := by decide +kernel
theorem dX11_give_100 : decode cX11_give 100 = .ok (.iadd, 1) := by decide +kernel
theorem dX11_give_101 : decode cX11_give 101 = .ok (.iastore, 1) := by decide +kernel
theorem dX11_give_102 : decode cX11_give 102 = .ok (.iinc 4 1, 3) := by decide +kernel
theorem dX11_give_105 : decode cX11_give 105 = .ok (.goto (-72), 3) := by decide +kernel
theorem dX11_give_108 : decode cX11_give 108 = .ok (.iload_n 3, 1) := by decide +kernel
theorem dX11_give_109 : decode cX11_give 109 = .ok (.ifCond .le 23, 3) := by decide +kernel
theorem dX11_give_112 : decode cX11_give 112 = .ok (.aload_n 0, 1) := by decide +kernel
theorem dX11_give_113 : decode cX11_give 113 = .ok (.getfield 7, 3) := by decide +kernel
theorem dX11_give_116 : decode cX11_give 116 = .ok (.iconst 0, 1) := by decide +kernel
theorem dX11_give_117 : decode cX11_give 117 = .ok (.iload_n 2, 1) := by decide +kernel
theorem dX11_give_118 : decode cX11_give 118 = .ok (.iadd, 1) := by decide +kernel
theorem dX11_give_119 : decode cX11_give 119 = .ok (.iaload, 1) := by decide +kernel
theorem dX11_give_120 : decode cX11_give 120 = .ok (.iconst 2, 1) := by decide +kernel
theorem dX11_give_121 : decode cX11_give 121 = .ok (.if_icmp .ne 11, 3) := by decide +kernel
theorem dX11_give_124 : decode cX11_give 124 = .ok (.aload_n 0, 1) := by decide +kernel
theorem dX11_give_125 : decode cX11_give 125 = .ok (.iload_n 1, 1) := by decide +kernel
theorem dX11_give_126 : decode cX11_give 126 = .ok (.iload_n 2, 1) := by decide +kernel
theorem dX11_give_127 : decode cX11_give 127 = .ok (.iload_n 3, 1) := by decide +kernel
theorem dX11_give_128 : decode cX11_give 128 = .ok (.iconst 1, 1) := by decide +kernel
theorem dX11_give_129 : decode cX11_give 129 = .ok (.invokevirtual 112, 3) := by decide +kernel
theorem dX11_give_132 : decode cX11_give 132 = .ok (.iload_n 3, 1) := by decide +kernel
theorem dX11_give_133 : decode cX11_give 133 = .ok (.ifCond .le 25, 3) := by decide +kernel
theorem dX11_give_136 : decode cX11_give 136 = .ok (.aload_n 0, 1) := by decide +kernel
theorem dX11_give_137 : decode cX11_give 137 = .ok (.getfield 7, 3) := by decide +kernel
theorem dX11_give_140 : decode cX11_give 140 = .ok (.iconst 0, 1) := by decide +kernel
theorem dX11_give_141 : decode cX11_give 141 = .ok (.iload_n 2, 1) := by decide +kernel
theorem dX11_give_142 : decode cX11_give 142 = .ok (.iadd, 1) := by decide +kernel
theorem dX11_give_143 : decode cX11_give 143 = .ok (.iaload, 1) := by decide +kernel
theorem dX11_give_144 : decode cX11_give 144 = .ok (.iconst 3, 1) := by decide +kernel
theorem dX11_give_145 : decode cX11_give 145 = .ok (.if_icmp .ne 13, 3) := by decide +kernel
theorem dX11_give_148 : decode cX11_give 148 = .ok (.aload_n 0, 1) := by decide +kernel
theorem dX11_give_149 : decode cX11_give 149 = .ok (.iload_n 1, 1) := by decide +kernel
theorem dX11_give_150 : decode cX11_give 150 = .ok (.iload_n 2, 1) := by decide +kernel
theorem dX11_give_151 : decode cX11_give 151 = .ok (.iload_n 3, 1) := by decide +kernel
theorem dX11_give_152 : decode cX11_give 152 = .ok (.iconst 2, 1) := by decide +kernel
theorem dX11_give_153 : decode cX11_give 153 = .ok (.idiv, 1) := by decide +kernel
theorem dX11_give_154 : decode cX11_give 154 = .ok (.iconst 2, 1) := by decide +kernel
theorem dX11_give_155 : decode cX11_give 155 = .ok (.invokevirtual 112, 3) := by decide +kernel
theorem dX11_give_158 : decode cX11_give 158 = .ok (.aload_n 0, 1) := by decide +kernel
theorem dX11_give_159 : decode cX11_give 159 = .ok (.getfield 7, 3) := by decide +kernel
theorem dX11_give_162 : decode cX11_give 162 = .ok (.bipush 10, 2) := by decide +kernel
theorem dX11_give_164 : decode cX11_give 164 = .ok (.iload_n 2, 1) := by decide +kernel
theorem dX11_give_165 : decode cX11_give 165 = .ok (.iadd, 1) := by decide +kernel
theorem dX11_give_166 : decode cX11_give 166 = .ok (.dup2, 1) := by decide +kernel
theorem dX11_give_167 : decode cX11_give 167 = .ok (.iaload, 1) := by decide +kernel
theorem dX11_give_168 : decode cX11_give 168 = .ok (.iload_n 3, 1) := by decide +kernel
theorem dX11_give_169 : decode cX11_give 169 = .ok (.isub, 1) := by decide +kernel
theorem dX11_give_170 : decode cX11_give 170 = .ok (.iastore, 1) := by decide +kernel
theorem dX11_give_171 : decode cX11_give 171 = .ok (.return_, 1) := by decide +kernel
theorem dX11_pay_0 : decode cX11_pay 0 = .ok (.aload_n 0, 1) := by decide +kernel
theorem dX11_pay_1 : decode cX11_pay 1 = .ok (.iconst 0, 1) := by decide +kernel
theorem dX11_pay_2 : decode cX11_pay 2 = .ok (.putfield 27, 3) := by decide +kernel
theorem dX11_pay_5 : decode cX11_pay 5 = .ok (.aload_n 0, 1) := by decide +kernel
theorem dX11_pay_6 : decode cX11_pay 6 = .ok (.iload_n 1, 1) := by decide +kernel
theorem dX11_pay_7 : decode cX11_pay 7 = .ok (.invokevirtual 116, 3) := by decide +kernel
theorem dX11_pay_10 : decode cX11_pay 10 = .ok (.ifCond .ne 6, 3) := by decide +kernel
theorem dX11_pay_13 : decode cX11_pay 13 = .ok (.bipush (-3), 2) := by decide +kernel
theorem dX11_pay_15 : decode cX11_pay 15 = .ok (.ireturn, 1) := by decide +kernel
theorem dX11_pay_16 : decode cX11_pay 16 = .ok (.aload_n 0, 1) := by decide +kernel
theorem dX11_pay_17 : decode cX11_pay 17 = .ok (.getfield 7, 3) := by decide +kernel
theorem dX11_pay_20 : decode cX11_pay 20 = .ok (.sipush 1467, 3) := by decide +kernel
theorem dX11_pay_23 : decode cX11_pay 23 = .ok (.iload_n 1, 1) := by decide +kernel
theorem dX11_pay_24 : decode cX11_pay 24 = .ok (.iadd, 1) := by decide +kernel
theorem dX11_pay_25 : decode cX11_pay 25 = .ok (.iaload, 1) := by decide +kernel
theorem dX11_pay_26 : decode cX11_pay 26 = .ok (.iconst 1, 1) := by decide +kernel
theorem dX11_pay_27 : decode cX11_pay 27 = .ok (.if_icmp .ne 6, 3) := by decide +kernel
theorem dX11_pay_30 : decode cX11_pay 30 = .ok (.bipush (-4), 2) := by decide +kernel
theorem dX11_pay_32 : decode cX11_pay 32 = .ok (.ireturn, 1) := by decide +kernel
theorem dX11_pay_33 : decode cX11_pay 33 = .ok (.aload_n 0, 1) := by decide +kernel
theorem dX11_pay_34 : decode cX11_pay 34 = .ok (.aload_n 0, 1) := by decide +kernel
theorem dX11_pay_35 : decode cX11_pay 35 = .ok (.getfield 7, 3) := by decide +kernel
theorem dX11_pay_38 : decode cX11_pay 38 = .ok (.sipush 1287, 3) := by decide +kernel
theorem dX11_pay_41 : decode cX11_pay 41 = .ok (.iload_n 1, 1) := by decide +kernel
theorem dX11_pay_42 : decode cX11_pay 42 = .ok (.iadd, 1) := by decide +kernel
theorem dX11_pay_43 : decode cX11_pay 43 = .ok (.iaload, 1) := by decide +kernel
theorem dX11_pay_44 : decode cX11_pay 44 = .ok (.invokevirtual 119, 3) := by decide +kernel
theorem dX11_pay_47 : decode cX11_pay 47 = .ok (.istore_n 2, 1) := by decide +kernel
theorem dX11_pay_48 : decode cX11_pay 48 = .ok (.iload_n 2, 1) := by decide +kernel
theorem dX11_pay_49 : decode cX11_pay 49 = .ok (.iconst (-1), 1) := by decide +kernel
theorem dX11_pay_50 : decode cX11_pay 50 = .ok (.if_icmp .ne 5, 3) := by decide +kernel
theorem dX11_pay_53 : decode cX11_pay 53 = .ok (.iconst (-1), 1) := by decide +kernel
theorem dX11_pay_54 : decode cX11_pay 54 = .ok (.ireturn, 1) := by decide +kernel
theorem dX11_pay_55 : decode cX11_pay 55 = .ok (.aload_n 0, 1) := by decide +kernel
theorem dX11_pay_56 : decode cX11_pay 56 = .ok (.invokevirtual 37, 3) := by decide +kernel
theorem dX11_pay_59 : decode cX11_pay 59 = .ok (.iload_n 2, 1) := by decide +kernel
theorem dX11_pay_60 : decode cX11_pay 60 = .ok (.istore_n 3, 1) := by decide +kernel
theorem dX11_pay_61 : decode cX11_pay 61 = .ok (.iconst 0, 1) := by decide +kernel
theorem dX11_pay_62 : decode cX11_pay 62 = .ok (.istore 4, 2) := by decide +kernel
theorem dX11_pay_64 : decode cX11_pay 64 = .ok (.iload 4, 2) := by decide +kernel
theorem dX11_pay_66 : decode cX11_pay 66 = .ok (.bipush 10, 2) := by decide +kernel
theorem dX11_pay_68 : decode cX11_pay 68 = .ok (.if_icmp .ge 113, 3) := by decide +kernel
theorem dX11_pay_71 : decode cX11_pay 71 = .ok (.aload_n 0, 1) := by decide +kernel
theorem dX11_pay_72 : decode cX11_pay 72 = .ok (.getfield 7, 3) := by decide +kernel
theorem dX11_pay_75 : decode cX11_pay 75 = .ok (.bipush 10, 2) := by decide +kernel
theorem dX11_pay_77 : decode cX11_pay 77 = .ok (.iload 4, 2) := by decide +kernel
theorem dX11_pay_79 : decode cX11_pay 79 = .ok (.iadd, 1) := by decide +kernel
theorem dX11_pay_80 : decode cX11_pay 80 = .ok (.iaload, 1) := by decide +kernel
theorem dX11_pay_81 : decode cX11_pay 81 = .ok (.istore 5, 2) := by decide +kernel
theorem dX11_pay_83 : decode cX11_pay 83 = .ok (.aload_n 0, 1) := by decide +kernel
theorem dX11_pay_84 : decode cX11_pay 84 = .ok (.iload 4, 2) := by decide +kernel
theorem dX11_pay_86 : decode cX11_pay 86 = .ok (.iload 5, 2) := by decide +kernel
theorem dX11_pay_88 : decode cX11_pay 88 = .ok (.invokevirtual 103, 3) := by decide +kernel
theorem dX11_pay_91 : decode cX11_pay 91 = .ok (.ifCond .eq 58, 3) := by decide +kernel
theorem dX11_pay_94 : decode cX11_pay 94 = .ok (.aload_n 0, 1) := by decide +kernel
theorem dX11_pay_95 : decode cX11_pay 95 = .ok (.iload 4, 2) := by decide +kernel
theorem dX11_pay_97 : decode cX11_pay 97 = .ok (.iload 5, 2) := by decide +kernel
theorem dX11_pay_99 : decode cX11_pay 99 = .ok (.invokevirtual 100, 3) := by decide +kernel
theorem dX11_pay_102 : decode cX11_pay 102 = .ok (.iload_n 3, 1) := by decide +kernel
theorem dX11_pay_103 : decode cX11_pay 103 = .ok (.if_icmp .gt 46, 3) := by decide +kernel
theorem dX11_pay_106 : decode cX11_pay 106 = .ok (.aload_n 0, 1) := by decide +kernel
theorem dX11_pay_107 : decode cX11_pay 107 = .ok (.getfield 24, 3) := by decide +kernel
theorem dX11_pay_110 : decode cX11_pay 110 = .ok (.sipush 3200, 3) := by decide +kernel
theorem dX11_pay_113 : decode cX11_pay 113 = .ok (.iload 4, 2) := by decide +kernel
theorem dX11_pay_115 : decode cX11_pay 115 = .ok (.iconst 1, 1) := by decide +kernel
theorem dX11_pay_116 : decode cX11_pay 116 = .ok (.iadd, 1) := by decide +kernel
theorem dX11_pay_117 : decode cX11_pay 117 = .ok (.imul, 1) := by decide +kernel
theorem dX11_pay_118 : decode cX11_pay 118 = .ok (.iload_n 3, 1) := by decide +kernel
theorem dX11_pay_119 : decode cX11_pay 119 = .ok (.iadd, 1) := by decide +kernel
theorem dX11_pay_120 : decode cX11_pay 120 = .ok (.aload_n 0, 1) := by decide +kernel
theorem dX11_pay_121 : decode cX11_pay 121 = .ok (.iload 4, 2) := by decide +kernel
theorem dX11_pay_123 : decode cX11_pay 123 = .ok (.iload 5, 2) := by decide +kernel
theorem dX11_pay_125 : decode cX11_pay 125 = .ok (.invokevirtual 100, 3) := by decide +kernel
theorem dX11_pay_128 : decode cX11_pay 128 = .ok (.isub, 1) := by decide +kernel
theorem dX11_pay_129 : decode cX11_pay 129 = .ok (.iaload, 1) := by decide +kernel
theorem dX11_pay_130 : decode cX11_pay 130 = .ok (.iload 5, 2) := by decide +kernel
theorem dX11_pay_132 : decode cX11_pay 132 = .ok (.iadd, 1) := by decide +kernel
theorem dX11_pay_133 : decode cX11_pay 133 = .ok (.aload_n 0, 1) := by decide +kernel
theorem dX11_pay_134 : decode cX11_pay 134 = .ok (.getfield 24, 3) := by decide +kernel
theorem dX11_pay_137 : decode cX11_pay 137 = .ok (.sipush 3200, 3) := by decide +kernel
theorem dX11_pay_140 : decode cX11_pay 140 = .ok (.iload 4, 2) := by decide +kernel
theorem dX11_pay_142 : decode cX11_pay 142 = .ok (.imul, 1) := by decide +kernel
theorem dX11_pay_143 : decode cX11_pay 143 = .ok (.iload_n 3, 1) := by decide +kernel
theorem dX11_pay_144 : decode cX11_pay 144 = .ok (.iadd, 1) := by decide +kernel
theorem dX11_pay_145 : decode cX11_pay 145 = .ok (.iaload, 1) := by decide +kernel
theorem dX11_pay_146 : decode cX11_pay 146 = .ok (.if_icmp .eq 9, 3) := by decide +kernel
theorem dX11_pay_149 : decode cX11_pay 149 = .ok (.iinc 5 (-1), 3) := by decide +kernel
theorem dX11_pay_152 : decode cX11_pay 152 = .ok (.goto (-69), 3) := by decide +kernel
theorem dX11_pay_155 : decode cX11_pay 155 = .ok (.iload_n 3, 1) := by decide +kernel
theorem dX11_pay_156 : decode cX11_pay 156 = .ok (.aload_n 0, 1) := by decide +kernel
theorem dX11_pay_157 : decode cX11_pay 157 = .ok (.iload 4, 2) := by decide +kernel
theorem dX11_pay_159 : decode cX11_pay 159 = .ok (.iload 5, 2) := by decide +kernel
theorem dX11_pay_161 : decode cX11_pay 161 = .ok (.invokevirtual 100, 3) := by decide +kernel
theorem dX11_pay_164 : decode cX11_pay 164 = .ok (.isub, 1) := by decide +kernel
theorem dX11_pay_165 : decode cX11_pay 165 = .ok (.istore_n 3, 1) := by decide +kernel
theorem dX11_pay_166 : decode cX11_pay 166 = .ok (.aload_n 0, 1) := by decide +kernel
theorem dX11_pay_167 : decode cX11_pay 167 = .ok (.iload_n 1, 1) := by decide +kernel
theorem dX11_pay_168 : decode cX11_pay 168 = .ok (.iload 4, 2) := by decide +kernel
theorem dX11_pay_170 : decode cX11_pay 170 = .ok (.iload 5, 2) := by decide +kernel
theorem dX11_pay_172 : decode cX11_pay 172 = .ok (.invokevirtual 122, 3) := by decide +kernel
theorem dX11_pay_175 : decode cX11_pay 175 = .ok (.iinc 4 1, 3) := by decide +kernel
theorem dX11_pay_178 : decode cX11_pay 178 = .ok (.goto (-114), 3) := by decide +kernel
theorem dX11_pay_181 : decode cX11_pay 181 = .ok (.aload_n 0, 1) := by decide +kernel
theorem dX11_pay_182 : decode cX11_pay 182 = .ok (.getfield 7, 3) := by decide +kernel
theorem dX11_pay_185 : decode cX11_pay 185 = .ok (.sipush 1347, 3) := by decide +kernel
theorem dX11_pay_188 : decode cX11_pay 188 = .ok (.iload_n 1, 1) := by decide +kernel
theorem dX11_pay_189 : decode cX11_pay 189 = .ok (.iadd, 1) := by decide +kernel
theorem dX11_pay_190 : decode cX11_pay 190 = .ok (.iload_n 2, 1) := by decide +kernel
theorem dX11_pay_191 : decode cX11_pay 191 = .ok (.iastore, 1) := by decide +kernel
theorem dX11_pay_192 : decode cX11_pay 192 = .ok (.aload_n 0, 1) := by decide +kernel
theorem dX11_pay_193 : decode cX11_pay 193 = .ok (.getfield 7, 3) := by decide +kernel
theorem dX11_pay_196 : decode cX11_pay 196 = .ok (.sipush 1467, 3) := by decide +kernel
theorem dX11_pay_199 : decode cX11_pay 199 = .ok (.iload_n 1, 1) := by decide +kernel
theorem dX11_pay_200 : decode cX11_pay 200 = .ok (.iadd, 1) := by decide +kernel
theorem dX11_pay_201 : decode cX11_pay 201 = .ok (.iconst 1, 1) := by decide +kernel
theorem dX11_pay_202 : decode cX11_pay 202 = .ok (.iastore, 1) := by decide +kernel
theorem dX11_pay_203 : decode cX11_pay 203 = .ok (.iload_n 2, 1) := by decide +kernel
theorem dX11_pay_204 : decode cX11_pay 204 = .ok (.ireturn, 1) := by decide +kernel
theorem dX11_allFaces_0 : decode cX11_allFaces 0 = .ok (.iconst 0, 1) := by decide +kernel
theorem dX11_allFaces_1 : decode cX11_allFaces 1 = .ok (.istore_n 1, 1) := by decide +kernel
theorem dX11_allFaces_2 : decode cX11_allFaces 2 = .ok (.iconst 0, 1) := by decide +kernel
theorem dX11_allFaces_3 : decode cX11_allFaces 3 = .ok (.istore_n 2, 1) := by decide +kernel
theorem dX11_allFaces_4 : decode cX11_allFaces 4 = .ok (.iload_n 2, 1) := by decide +kernel
theorem dX11_allFaces_5 : decode cX11_allFaces 5 = .ok (.bipush 10, 2) := by decide +kernel
theorem dX11_allFaces_7 : decode cX11_allFaces 7 = .ok (.if_icmp .ge 29, 3) := by decide +kernel
theorem dX11_allFaces_10 : decode cX11_allFaces 10 = .ok (.iload_n 1, 1) := by decide +kernel
theorem dX11_allFaces_11 : decode cX11_allFaces 11 = .ok (.aload_n 0, 1) := by decide +kernel
theorem dX11_allFaces_12 : decode cX11_allFaces 12 = .ok (.iload_n 2, 1) := by decide +kernel
theorem dX11_allFaces_13 : decode cX11_allFaces 13 = .ok (.invokevirtual 48, 3) := by decide +kernel
theorem dX11_allFaces_16 : decode cX11_allFaces 16 = .ok (.ifCond .eq 11, 3) := by decide +kernel
theorem dX11_allFaces_19 : decode cX11_allFaces 19 = .ok (.aload_n 0, 1) := by decide +kernel
theorem dX11_allFaces_20 : decode cX11_allFaces 20 = .ok (.iload_n 2, 1) := by decide +kernel
theorem dX11_allFaces_21 : decode cX11_allFaces 21 = .ok (.invokevirtual 84, 3) := by decide +kernel
theorem dX11_allFaces_24 : decode cX11_allFaces 24 = .ok (.goto 4, 3) := by decide +kernel
theorem dX11_allFaces_27 : decode cX11_allFaces 27 = .ok (.iconst 0, 1) := by decide +kernel
theorem dX11_allFaces_28 : decode cX11_allFaces 28 = .ok (.iadd, 1) := by decide +kernel
theorem dX11_allFaces_29 : decode cX11_allFaces 29 = .ok (.istore_n 1, 1) := by decide +kernel
theorem dX11_allFaces_30 : decode cX11_allFaces 30 = .ok (.iinc 2 1, 3) := by decide +kernel
theorem dX11_allFaces_33 : decode cX11_allFaces 33 = .ok (.goto (-29), 3) := by decide +kernel
theorem dX11_allFaces_36 : decode cX11_allFaces 36 = .ok (.iload_n 1, 1) := by decide +kernel
theorem dX11_allFaces_37 : decode cX11_allFaces 37 = .ok (.ireturn, 1) := by decide +kernel
theorem dX11_told_0 : decode cX11_told 0 = .ok (.aload_n 0, 1) := by decide +kernel
theorem dX11_told_1 : decode cX11_told 1 = .ok (.iconst 0, 1) := by decide +kernel
theorem dX11_told_2 : decode cX11_told 2 = .ok (.putfield 27, 3) := by decide +kernel
theorem dX11_told_5 : decode cX11_told 5 = .ok (.aload_n 0, 1) := by decide +kernel
theorem dX11_told_6 : decode cX11_told 6 = .ok (.iload_n 1, 1) := by decide +kernel
theorem dX11_told_7 : decode cX11_told 7 = .ok (.invokevirtual 116, 3) := by decide +kernel
theorem dX11_told_10 : decode cX11_told 10 = .ok (.ifCond .ne 6, 3) := by decide +kernel
theorem dX11_told_13 : decode cX11_told 13 = .ok (.bipush (-3), 2) := by decide +kernel
theorem dX11_told_15 : decode cX11_told 15 = .ok (.ireturn, 1) := by decide +kernel
theorem dX11_told_16 : decode cX11_told 16 = .ok (.aload_n 0, 1) := by decide +kernel
theorem dX11_told_17 : decode cX11_told 17 = .ok (.getfield 7, 3) := by decide +kernel
theorem dX11_told_20 : decode cX11_told 20 = .ok (.sipush 1467, 3) := by decide +kernel
theorem dX11_told_23 : decode cX11_told 23 = .ok (.iload_n 1, 1) := by decide +kernel
theorem dX11_told_24 : decode cX11_told 24 = .ok (.iadd, 1) := by decide +kernel
theorem dX11_told_25 : decode cX11_told 25 = .ok (.iaload, 1) := by decide +kernel
theorem dX11_told_26 : decode cX11_told 26 = .ok (.iconst 1, 1) := by decide +kernel
theorem dX11_told_27 : decode cX11_told 27 = .ok (.if_icmp .ne 7, 3) := by decide +kernel
theorem dX11_told_30 : decode cX11_told 30 = .ok (.iconst 1, 1) := by decide +kernel
theorem dX11_told_31 : decode cX11_told 31 = .ok (.goto 4, 3) := by decide +kernel
theorem dX11_told_34 : decode cX11_told 34 = .ok (.iconst 0, 1) := by decide +kernel
theorem dX11_told_35 : decode cX11_told 35 = .ok (.istore_n 3, 1) := by decide +kernel
theorem dX11_told_36 : decode cX11_told 36 = .ok (.aload_n 0, 1) := by decide +kernel
theorem dX11_told_37 : decode cX11_told 37 = .ok (.getfield 7, 3) := by decide +kernel
theorem dX11_told_40 : decode cX11_told 40 = .ok (.sipush 1287, 3) := by decide +kernel
theorem dX11_told_43 : decode cX11_told 43 = .ok (.iload_n 1, 1) := by decide +kernel
theorem dX11_told_44 : decode cX11_told 44 = .ok (.iadd, 1) := by decide +kernel
theorem dX11_told_45 : decode cX11_told 45 = .ok (.iaload, 1) := by decide +kernel
theorem dX11_told_46 : decode cX11_told 46 = .ok (.istore 4, 2) := by decide +kernel
theorem dX11_told_48 : decode cX11_told 48 = .ok (.iload_n 2, 1) := by decide +kernel
theorem dX11_told_49 : decode cX11_told 49 = .ok (.tableswitch 121 0 5 #[39, 42, 53, 75, 86, 111], 39) := by decide +kernel
theorem dX11_told_88 : decode cX11_told 88 = .ok (.iload 4, 2) := by decide +kernel
theorem dX11_told_90 : decode cX11_told 90 = .ok (.ireturn, 1) := by decide +kernel
theorem dX11_told_91 : decode cX11_told 91 = .ok (.aload_n 0, 1) := by decide +kernel
theorem dX11_told_92 : decode cX11_told 92 = .ok (.getfield 7, 3) := by decide +kernel
theorem dX11_told_95 : decode cX11_told 95 = .ok (.sipush 1347, 3) := by decide +kernel
theorem dX11_told_98 : decode cX11_told 98 = .ok (.iload_n 1, 1) := by decide +kernel
theorem dX11_told_99 : decode cX11_told 99 = .ok (.iadd, 1) := by decide +kernel
theorem dX11_told_100 : decode cX11_told 100 = .ok (.iaload, 1) := by decide +kernel
theorem dX11_told_101 : decode cX11_told 101 = .ok (.ireturn, 1) := by decide +kernel
theorem dX11_told_102 : decode cX11_told 102 = .ok (.iload_n 3, 1) := by decide +kernel
theorem dX11_told_103 : decode cX11_told 103 = .ok (.ifCond .eq 19, 3) := by decide +kernel
theorem dX11_told_106 : decode cX11_told 106 = .ok (.aload_n 0, 1) := by decide +kernel
theorem dX11_told_107 : decode cX11_told 107 = .ok (.getfield 7, 3) := by decide +kernel
theorem dX11_told_110 : decode cX11_told 110 = .ok (.sipush 1347, 3) := by decide +kernel
theorem dX11_told_113 : decode cX11_told 113 = .ok (.iload_n 1, 1) := by decide +kernel
theorem dX11_told_114 : decode cX11_told 114 = .ok (.iadd, 1) := by decide +kernel
theorem dX11_told_115 : decode cX11_told 115 = .ok (.iaload, 1) := by decide +kernel
theorem dX11_told_116 : decode cX11_told 116 = .ok (.iload 4, 2) := by decide +kernel
theorem dX11_told_118 : decode cX11_told 118 = .ok (.isub, 1) := by decide +kernel
theorem dX11_told_119 : decode cX11_told 119 = .ok (.goto 4, 3) := by decide +kernel
theorem dX11_told_122 : decode cX11_told 122 = .ok (.iconst 0, 1) := by decide +kernel
theorem dX11_told_123 : decode cX11_told 123 = .ok (.ireturn, 1) := by decide +kernel
theorem dX11_told_124 : decode cX11_told 124 = .ok (.aload_n 0, 1) := by decide +kernel
theorem dX11_told_125 : decode cX11_told 125 = .ok (.getfield 7, 3) := by decide +kernel
theorem dX11_told_128 : decode cX11_told 128 = .ok (.sipush 1407, 3) := by decide +kernel
theorem dX11_told_131 : decode cX11_told 131 = .ok (.iload_n 1, 1) := by decide +kernel
theorem dX11_told_132 : decode cX11_told 132 = .ok (.iadd, 1) := by decide +kernel
theorem dX11_told_133 : decode cX11_told 133 = .ok (.iaload, 1) := by decide +kernel
theorem dX11_told_134 : decode cX11_told 134 = .ok (.ireturn, 1) := by decide +kernel
theorem dX11_told_135 : decode cX11_told 135 = .ok (.iload_n 3, 1) := by decide +kernel
theorem dX11_told_136 : decode cX11_told 136 = .ok (.ifCond .ne 12, 3) := by decide +kernel
theorem dX11_told_139 : decode cX11_told 139 = .ok (.aload_n 0, 1) := by decide +kernel
theorem dX11_told_140 : decode cX11_told 140 = .ok (.invokevirtual 125, 3) := by decide +kernel
theorem dX11_told_143 : decode cX11_told 143 = .ok (.iload 4, 2) := by decide +kernel
theorem dX11_told_145 : decode cX11_told 145 = .ok (.if_icmp .lt 7, 3) := by decide +kernel
theorem dX11_told_148 : decode cX11_told 148 = .ok (.iconst 0, 1) := by decide +kernel
theorem dX11_told_149 : decode cX11_told 149 = .ok (.goto 10, 3) := by decide +kernel
theorem dX11_told_152 : decode cX11_told 152 = .ok (.iload 4, 2) := by decide +kernel
theorem dX11_told_154 : decode cX11_told 154 = .ok (.aload_n 0, 1) := by decide +kernel
theorem dX11_told_155 : decode cX11_told 155 = .ok (.invokevirtual 125, 3) := by decide +kernel
theorem dX11_told_158 : decode cX11_told 158 = .ok (.isub, 1) := by decide +kernel
theorem dX11_told_159 : decode cX11_told 159 = .ok (.ireturn, 1) := by decide +kernel
theorem dX11_told_160 : decode cX11_told 160 = .ok (.iload_n 3, 1) := by decide +kernel
theorem dX11_told_161 : decode cX11_told 161 = .ok (.ifCond .eq 7, 3) := by decide +kernel
theorem dX11_told_164 : decode cX11_told 164 = .ok (.iconst 1, 1) := by decide +kernel
theorem dX11_told_165 : decode cX11_told 165 = .ok (.goto 4, 3) := by decide +kernel
theorem dX11_told_168 : decode cX11_told 168 = .ok (.iconst 0, 1) := by decide +kernel
theorem dX11_told_169 : decode cX11_told 169 = .ok (.ireturn, 1) := by decide +kernel
theorem dX11_told_170 : decode cX11_told 170 = .ok (.bipush (-3), 2) := by decide +kernel
theorem dX11_told_172 : decode cX11_told 172 = .ok (.ireturn, 1) := by decide +kernel
theorem dX11_given_0 : decode cX11_given 0 = .ok (.aload_n 0, 1) := by decide +kernel
theorem dX11_given_1 : decode cX11_given 1 = .ok (.iconst 0, 1) := by decide +kernel
theorem dX11_given_2 : decode cX11_given 2 = .ok (.putfield 27, 3) := by decide +kernel
theorem dX11_given_5 : decode cX11_given 5 = .ok (.aload_n 0, 1) := by decide +kernel
theorem dX11_given_6 : decode cX11_given 6 = .ok (.iload_n 1, 1) := by decide +kernel
theorem dX11_given_7 : decode cX11_given 7 = .ok (.invokevirtual 116, 3) := by decide +kernel
theorem dX11_given_10 : decode cX11_given 10 = .ok (.ifCond .eq 31, 3) := by decide +kernel
theorem dX11_given_13 : decode cX11_given 13 = .ok (.iload_n 2, 1) := by decide +kernel
theorem dX11_given_14 : decode cX11_given 14 = .ok (.iconst 0, 1) := by decide +kernel
theorem dX11_given_15 : decode cX11_given 15 = .ok (.bipush 9, 2) := by decide +kernel
theorem dX11_given_17 : decode cX11_given 17 = .ok (.invokestatic 44, 3) := by decide +kernel
theorem dX11_given_20 : decode cX11_given 20 = .ok (.ifCond .eq 21, 3) := by decide +kernel
theorem dX11_given_23 : decode cX11_given 23 = .ok (.aload_n 0, 1) := by decide +kernel
theorem dX11_given_24 : decode cX11_given 24 = .ok (.getfield 7, 3) := by decide +kernel
theorem dX11_given_27 : decode cX11_given 27 = .ok (.sipush 1527, 3) := by decide +kernel
theorem dX11_given_30 : decode cX11_given 30 = .ok (.bipush 10, 2) := by decide +kernel
theorem dX11_given_32 : decode cX11_given 32 = .ok (.iload_n 1, 1) := by decide +kernel
theorem dX11_given_33 : decode cX11_given 33 = .ok (.imul, 1) := by decide +kernel
theorem dX11_given_34 : decode cX11_given 34 = .ok (.iadd, 1) := by decide +kernel
theorem dX11_given_35 : decode cX11_given 35 = .ok (.iload_n 2, 1) := by decide +kernel
theorem dX11_given_36 : decode cX11_given 36 = .ok (.iadd, 1) := by decide +kernel
theorem dX11_given_37 : decode cX11_given 37 = .ok (.iaload, 1) := by decide +kernel
theorem dX11_given_38 : decode cX11_given 38 = .ok (.goto 5, 3) := by decide +kernel
theorem dX11_given_41 : decode cX11_given 41 = .ok (.bipush (-3), 2) := by decide +kernel
theorem dX11_given_43 : decode cX11_given 43 = .ok (.ireturn, 1) := by decide +kernel
theorem dX11_torn_0 : decode cX11_torn 0 = .ok (.aload_n 0, 1) := by decide +kernel
theorem dX11_torn_1 : decode cX11_torn 1 = .ok (.iconst 0, 1) := by decide +kernel
theorem dX11_torn_2 : decode cX11_torn 2 = .ok (.putfield 27, 3) := by decide +kernel
theorem dX11_torn_5 : decode cX11_torn 5 = .ok (.aload_n 0, 1) := by decide +kernel
theorem dX11_torn_6 : decode cX11_torn 6 = .ok (.iload_n 1, 1) := by decide +kernel
theorem dX11_torn_7 : decode cX11_torn 7 = .ok (.invokevirtual 116, 3) := by decide +kernel
theorem dX11_torn_10 : decode cX11_torn 10 = .ok (.ifCond .ne 6, 3) := by decide +kernel
theorem dX11_torn_13 : decode cX11_torn 13 = .ok (.bipush (-3), 2) := by decide +kernel
theorem dX11_torn_15 : decode cX11_torn 15 = .ok (.ireturn, 1) := by decide +kernel
theorem dX11_torn_16 : decode cX11_torn 16 = .ok (.iconst 0, 1) := by decide +kernel
theorem dX11_torn_17 : decode cX11_torn 17 = .ok (.istore_n 3, 1) := by decide +kernel
theorem dX11_torn_18 : decode cX11_torn 18 = .ok (.iconst 0, 1) := by decide +kernel
theorem dX11_torn_19 : decode cX11_torn 19 = .ok (.istore 4, 2) := by decide +kernel
theorem dX11_torn_21 : decode cX11_torn 21 = .ok (.iload 4, 2) := by decide +kernel
theorem dX11_torn_23 : decode cX11_torn 23 = .ok (.bipush 10, 2) := by decide +kernel
theorem dX11_torn_25 : decode cX11_torn 25 = .ok (.if_icmp .ge 78, 3) := by decide +kernel
theorem dX11_torn_28 : decode cX11_torn 28 = .ok (.iconst 0, 1) := by decide +kernel
theorem dX11_torn_29 : decode cX11_torn 29 = .ok (.istore 5, 2) := by decide +kernel
theorem dX11_torn_31 : decode cX11_torn 31 = .ok (.iload 5, 2) := by decide +kernel
theorem dX11_torn_33 : decode cX11_torn 33 = .ok (.bipush 64, 2) := by decide +kernel
theorem dX11_torn_35 : decode cX11_torn 35 = .ok (.if_icmp .ge 62, 3) := by decide +kernel
theorem dX11_torn_38 : decode cX11_torn 38 = .ok (.aload_n 0, 1) := by decide +kernel
theorem dX11_torn_39 : decode cX11_torn 39 = .ok (.getfield 7, 3) := by decide +kernel
theorem dX11_torn_42 : decode cX11_torn 42 = .ok (.sipush 2127, 3) := by decide +kernel
theorem dX11_torn_45 : decode cX11_torn 45 = .ok (.bipush 20, 2) := by decide +kernel
theorem dX11_torn_47 : decode cX11_torn 47 = .ok (.iload_n 1, 1) := by decide +kernel
theorem dX11_torn_48 : decode cX11_torn 48 = .ok (.imul, 1) := by decide +kernel
theorem dX11_torn_49 : decode cX11_torn 49 = .ok (.iadd, 1) := by decide +kernel
theorem dX11_torn_50 : decode cX11_torn 50 = .ok (.iconst 2, 1) := by decide +kernel
theorem dX11_torn_51 : decode cX11_torn 51 = .ok (.iload 4, 2) := by decide +kernel
theorem dX11_torn_53 : decode cX11_torn 53 = .ok (.imul, 1) := by decide +kernel
theorem dX11_torn_54 : decode cX11_torn 54 = .ok (.iadd, 1) := by decide +kernel
theorem dX11_torn_55 : decode cX11_torn 55 = .ok (.iload 5, 2) := by decide +kernel
theorem dX11_torn_57 : decode cX11_torn 57 = .ok (.bipush 32, 2) := by decide +kernel
theorem dX11_torn_59 : decode cX11_torn 59 = .ok (.idiv, 1) := by decide +kernel
theorem dX11_torn_60 : decode cX11_torn 60 = .ok (.iadd, 1) := by decide +kernel
theorem dX11_torn_61 : decode cX11_torn 61 = .ok (.iaload, 1) := by decide +kernel
theorem dX11_torn_62 : decode cX11_torn 62 = .ok (.iload 5, 2) := by decide +kernel
theorem dX11_torn_64 : decode cX11_torn 64 = .ok (.bipush 32, 2) := by decide +kernel
theorem dX11_torn_66 : decode cX11_torn 66 = .ok (.irem, 1) := by decide +kernel
theorem dX11_torn_67 : decode cX11_torn 67 = .ok (.ishr, 1) := by decide +kernel
theorem dX11_torn_68 : decode cX11_torn 68 = .ok (.iconst 1, 1) := by decide +kernel
theorem dX11_torn_69 : decode cX11_torn 69 = .ok (.iand, 1) := by decide +kernel
theorem dX11_torn_70 : decode cX11_torn 70 = .ok (.iconst 1, 1) := by decide +kernel
theorem dX11_torn_71 : decode cX11_torn 71 = .ok (.if_icmp .ne 20, 3) := by decide +kernel
theorem dX11_torn_74 : decode cX11_torn 74 = .ok (.iload_n 3, 1) := by decide +kernel
theorem dX11_torn_75 : decode cX11_torn 75 = .ok (.iload_n 2, 1) := by decide +kernel
theorem dX11_torn_76 : decode cX11_torn 76 = .ok (.if_icmp .ne 12, 3) := by decide +kernel
theorem dX11_torn_79 : decode cX11_torn 79 = .ok (.bipush 100, 2) := by decide +kernel
theorem dX11_torn_81 : decode cX11_torn 81 = .ok (.iload 4, 2) := by decide +kernel
theorem dX11_torn_83 : decode cX11_torn 83 = .ok (.imul, 1) := by decide +kernel
theorem dX11_torn_84 : decode cX11_torn 84 = .ok (.iload 5, 2) := by decide +kernel
theorem dX11_torn_86 : decode cX11_torn 86 = .ok (.iadd, 1) := by decide +kernel
theorem dX11_torn_87 : decode cX11_torn 87 = .ok (.ireturn, 1) := by decide +kernel
theorem dX11_torn_88 : decode cX11_torn 88 = .ok (.iinc 3 1, 3) := by decide +kernel
theorem dX11_torn_91 : decode cX11_torn 91 = .ok (.iinc 5 1, 3) := by decide +kernel
theorem dX11_torn_94 : decode cX11_torn 94 = .ok (.goto (-63), 3) := by decide +kernel
theorem dX11_torn_97 : decode cX11_torn 97 = .ok (.iinc 4 1, 3) := by decide +kernel
theorem dX11_torn_100 : decode cX11_torn 100 = .ok (.goto (-79), 3) := by decide +kernel
theorem dX11_torn_103 : decode cX11_torn 103 = .ok (.iconst (-1), 1) := by decide +kernel
theorem dX11_torn_104 : decode cX11_torn 104 = .ok (.ireturn, 1) := by decide +kernel
theorem dX11_fewest_0 : decode cX11_fewest 0 = .ok (.aload_n 0, 1) := by decide +kernel
theorem dX11_fewest_1 : decode cX11_fewest 1 = .ok (.iconst 0, 1) := by decide +kernel
theorem dX11_fewest_2 : decode cX11_fewest 2 = .ok (.putfield 27, 3) := by decide +kernel
theorem dX11_fewest_5 : decode cX11_fewest 5 = .ok (.iload_n 1, 1) := by decide +kernel
theorem dX11_fewest_6 : decode cX11_fewest 6 = .ok (.iconst 0, 1) := by decide +kernel
theorem dX11_fewest_7 : decode cX11_fewest 7 = .ok (.sipush 2500, 3) := by decide +kernel
theorem dX11_fewest_10 : decode cX11_fewest 10 = .ok (.invokestatic 44, 3) := by decide +kernel
theorem dX11_fewest_13 : decode cX11_fewest 13 = .ok (.ifCond .ne 6, 3) := by decide +kernel
theorem dX11_fewest_16 : decode cX11_fewest 16 = .ok (.bipush (-3), 2) := by decide +kernel
theorem dX11_fewest_18 : decode cX11_fewest 18 = .ok (.ireturn, 1) := by decide +kernel
theorem dX11_fewest_19 : decode cX11_fewest 19 = .ok (.aload_n 0, 1) := by decide +kernel
theorem dX11_fewest_20 : decode cX11_fewest 20 = .ok (.invokevirtual 106, 3) := by decide +kernel
theorem dX11_fewest_23 : decode cX11_fewest 23 = .ok (.aload_n 0, 1) := by decide +kernel
theorem dX11_fewest_24 : decode cX11_fewest 24 = .ok (.getfield 24, 3) := by decide +kernel
theorem dX11_fewest_27 : decode cX11_fewest 27 = .ok (.iload_n 1, 1) := by decide +kernel
theorem dX11_fewest_28 : decode cX11_fewest 28 = .ok (.iaload, 1) := by decide +kernel
theorem dX11_fewest_29 : decode cX11_fewest 29 = .ok (.ldc 99, 2) := by decide +kernel
theorem dX11_fewest_31 : decode cX11_fewest 31 = .ok (.if_icmp .ge 12, 3) := by decide +kernel
theorem dX11_fewest_34 : decode cX11_fewest 34 = .ok (.aload_n 0, 1) := by decide +kernel
theorem dX11_fewest_35 : decode cX11_fewest 35 = .ok (.getfield 24, 3) := by decide +kernel
theorem dX11_fewest_38 : decode cX11_fewest 38 = .ok (.iload_n 1, 1) := by decide +kernel
theorem dX11_fewest_39 : decode cX11_fewest 39 = .ok (.iaload, 1) := by decide +kernel
theorem dX11_fewest_40 : decode cX11_fewest 40 = .ok (.goto 4, 3) := by decide +kernel
theorem dX11_fewest_43 : decode cX11_fewest 43 = .ok (.iconst (-1), 1) := by decide +kernel
theorem dX11_fewest_44 : decode cX11_fewest 44 = .ok (.ireturn, 1) := by decide +kernel
theorem dX11_least_0 : decode cX11_least 0 = .ok (.aload_n 0, 1) := by decide +kernel
theorem dX11_least_1 : decode cX11_least 1 = .ok (.iconst 0, 1) := by decide +kernel
theorem dX11_least_2 : decode cX11_least 2 = .ok (.putfield 27, 3) := by decide +kernel
theorem dX11_least_5 : decode cX11_least 5 = .ok (.iload_n 1, 1) := by decide +kernel
theorem dX11_least_6 : decode cX11_least 6 = .ok (.iconst 0, 1) := by decide +kernel
theorem dX11_least_7 : decode cX11_least 7 = .ok (.sipush 2000, 3) := by decide +kernel
theorem dX11_least_10 : decode cX11_least 10 = .ok (.invokestatic 44, 3) := by decide +kernel
theorem dX11_least_13 : decode cX11_least 13 = .ok (.ifCond .eq 11, 3) := by decide +kernel
theorem dX11_least_16 : decode cX11_least 16 = .ok (.aload_n 0, 1) := by decide +kernel
theorem dX11_least_17 : decode cX11_least 17 = .ok (.iload_n 1, 1) := by decide +kernel
theorem dX11_least_18 : decode cX11_least 18 = .ok (.invokevirtual 119, 3) := by decide +kernel
theorem dX11_least_21 : decode cX11_least 21 = .ok (.goto 5, 3) := by decide +kernel
theorem dX11_least_24 : decode cX11_least 24 = .ok (.bipush (-3), 2) := by decide +kernel
theorem dX11_least_26 : decode cX11_least 26 = .ok (.ireturn, 1) := by decide +kernel
theorem dX11_day_0 : decode cX11_day 0 = .ok (.aload_n 0, 1) := by decide +kernel
theorem dX11_day_1 : decode cX11_day 1 = .ok (.iconst 0, 1) := by decide +kernel
theorem dX11_day_2 : decode cX11_day 2 = .ok (.putfield 27, 3) := by decide +kernel
theorem dX11_day_5 : decode cX11_day 5 = .ok (.iload_n 1, 1) := by decide +kernel
theorem dX11_day_6 : decode cX11_day 6 = .ok (.iconst 0, 1) := by decide +kernel
theorem dX11_day_7 : decode cX11_day 7 = .ok (.bipush 9, 2) := by decide +kernel
theorem dX11_day_9 : decode cX11_day 9 = .ok (.invokestatic 44, 3) := by decide +kernel
theorem dX11_day_12 : decode cX11_day 12 = .ok (.ifCond .ne 6, 3) := by decide +kernel
theorem dX11_day_15 : decode cX11_day 15 = .ok (.bipush (-3), 2) := by decide +kernel
theorem dX11_day_17 : decode cX11_day 17 = .ok (.ireturn, 1) := by decide +kernel
theorem dX11_day_18 : decode cX11_day 18 = .ok (.aload_n 0, 1) := by decide +kernel
theorem dX11_day_19 : decode cX11_day 19 = .ok (.getfield 7, 3) := by decide +kernel
theorem dX11_day_22 : decode cX11_day 22 = .ok (.sipush 1286, 3) := by decide +kernel
theorem dX11_day_25 : decode cX11_day 25 = .ok (.iaload, 1) := by decide +kernel
theorem dX11_day_26 : decode cX11_day 26 = .ok (.istore_n 2, 1) := by decide +kernel
theorem dX11_day_27 : decode cX11_day 27 = .ok (.iconst 0, 1) := by decide +kernel
theorem dX11_day_28 : decode cX11_day 28 = .ok (.istore_n 3, 1) := by decide +kernel
theorem dX11_day_29 : decode cX11_day 29 = .ok (.iload_n 1, 1) := by decide +kernel
theorem dX11_day_30 : decode cX11_day 30 = .ok (.tableswitch 220 0 8 #[50, 52, 52, 52, 52, 139, 170, 175, 215], 50) := by decide +kernel
theorem dX11_day_80 : decode cX11_day 80 = .ok (.iload_n 2, 1) := by decide +kernel
theorem dX11_day_81 : decode cX11_day 81 = .ok (.ireturn, 1) := by decide +kernel
theorem dX11_day_82 : decode cX11_day 82 = .ok (.iconst 0, 1) := by decide +kernel
theorem dX11_day_83 : decode cX11_day 83 = .ok (.istore 4, 2) := by decide +kernel
theorem dX11_day_85 : decode cX11_day 85 = .ok (.iload 4, 2) := by decide +kernel
theorem dX11_day_87 : decode cX11_day 87 = .ok (.iload_n 2, 1) := by decide +kernel
theorem dX11_day_88 : decode cX11_day 88 = .ok (.if_icmp .ge 79, 3) := by decide +kernel
theorem dX11_day_91 : decode cX11_day 91 = .ok (.iload_n 3, 1) := by decide +kernel
theorem dX11_day_92 : decode cX11_day 92 = .ok (.iload_n 1, 1) := by decide +kernel
theorem dX11_day_93 : decode cX11_day 93 = .ok (.iconst 2, 1) := by decide +kernel
theorem dX11_day_94 : decode cX11_day 94 = .ok (.if_icmp .ne 21, 3) := by decide +kernel
theorem dX11_day_97 : decode cX11_day 97 = .ok (.aload_n 0, 1) := by decide +kernel
theorem dX11_day_98 : decode cX11_day 98 = .ok (.getfield 7, 3) := by decide +kernel
theorem dX11_day_101 : decode cX11_day 101 = .ok (.sipush 1467, 3) := by decide +kernel
theorem dX11_day_104 : decode cX11_day 104 = .ok (.iload 4, 2) := by decide +kernel
theorem dX11_day_106 : decode cX11_day 106 = .ok (.iadd, 1) := by decide +kernel
theorem dX11_day_107 : decode cX11_day 107 = .ok (.iaload, 1) := by decide +kernel
theorem dX11_day_108 : decode cX11_day 108 = .ok (.ifCond .ne 7, 3) := by decide +kernel
theorem dX11_day_111 : decode cX11_day 111 = .ok (.iconst 0, 1) := by decide +kernel
theorem dX11_day_112 : decode cX11_day 112 = .ok (.goto 47, 3) := by decide +kernel
theorem dX11_day_115 : decode cX11_day 115 = .ok (.aload_n 0, 1) := by decide +kernel
theorem dX11_day_116 : decode cX11_day 116 = .ok (.getfield 7, 3) := by decide +kernel
theorem dX11_day_119 : decode cX11_day 119 = .ok (.iload_n 1, 1) := by decide +kernel
theorem dX11_day_120 : decode cX11_day 120 = .ok (.iconst 1, 1) := by decide +kernel
theorem dX11_day_121 : decode cX11_day 121 = .ok (.if_icmp .ne 9, 3) := by decide +kernel
theorem dX11_day_124 : decode cX11_day 124 = .ok (.sipush 1467, 3) := by decide +kernel
theorem dX11_day_127 : decode cX11_day 127 = .ok (.goto 28, 3) := by decide +kernel
theorem dX11_day_130 : decode cX11_day 130 = .ok (.iload_n 1, 1) := by decide +kernel
theorem dX11_day_131 : decode cX11_day 131 = .ok (.iconst 2, 1) := by decide +kernel
theorem dX11_day_132 : decode cX11_day 132 = .ok (.if_icmp .ne 9, 3) := by decide +kernel
theorem dX11_day_135 : decode cX11_day 135 = .ok (.sipush 1287, 3) := by decide +kernel
theorem dX11_day_138 : decode cX11_day 138 = .ok (.goto 17, 3) := by decide +kernel
theorem dX11_day_141 : decode cX11_day 141 = .ok (.iload_n 1, 1) := by decide +kernel
theorem dX11_day_142 : decode cX11_day 142 = .ok (.iconst 3, 1) := by decide +kernel
theorem dX11_day_143 : decode cX11_day 143 = .ok (.if_icmp .ne 9, 3) := by decide +kernel
theorem dX11_day_146 : decode cX11_day 146 = .ok (.sipush 1347, 3) := by decide +kernel
theorem dX11_day_149 : decode cX11_day 149 = .ok (.goto 6, 3) := by decide +kernel
theorem dX11_day_152 : decode cX11_day 152 = .ok (.sipush 1407, 3) := by decide +kernel
theorem dX11_day_155 : decode cX11_day 155 = .ok (.iload 4, 2) := by decide +kernel
theorem dX11_day_157 : decode cX11_day 157 = .ok (.iadd, 1) := by decide +kernel
theorem dX11_day_158 : decode cX11_day 158 = .ok (.iaload, 1) := by decide +kernel
theorem dX11_day_159 : decode cX11_day 159 = .ok (.iadd, 1) := by decide +kernel
theorem dX11_day_160 : decode cX11_day 160 = .ok (.istore_n 3, 1) := by decide +kernel
theorem dX11_day_161 : decode cX11_day 161 = .ok (.iinc 4 1, 3) := by decide +kernel
theorem dX11_day_164 : decode cX11_day 164 = .ok (.goto (-79), 3) := by decide +kernel
theorem dX11_day_167 : decode cX11_day 167 = .ok (.iload_n 3, 1) := by decide +kernel
theorem dX11_day_168 : decode cX11_day 168 = .ok (.ireturn, 1) := by decide +kernel
theorem dX11_day_169 : decode cX11_day 169 = .ok (.iconst 0, 1) := by decide +kernel
theorem dX11_day_170 : decode cX11_day 170 = .ok (.istore 4, 2) := by decide +kernel
theorem dX11_day_172 : decode cX11_day 172 = .ok (.iload 4, 2) := by decide +kernel
theorem dX11_day_174 : decode cX11_day 174 = .ok (.bipush 10, 2) := by decide +kernel
theorem dX11_day_176 : decode cX11_day 176 = .ok (.if_icmp .ge 22, 3) := by decide +kernel
theorem dX11_day_179 : decode cX11_day 179 = .ok (.iload_n 3, 1) := by decide +kernel
theorem dX11_day_180 : decode cX11_day 180 = .ok (.aload_n 0, 1) := by decide +kernel
theorem dX11_day_181 : decode cX11_day 181 = .ok (.getfield 7, 3) := by decide +kernel
theorem dX11_day_184 : decode cX11_day 184 = .ok (.bipush 10, 2) := by decide +kernel
theorem dX11_day_186 : decode cX11_day 186 = .ok (.iload 4, 2) := by decide +kernel
theorem dX11_day_188 : decode cX11_day 188 = .ok (.iadd, 1) := by decide +kernel
theorem dX11_day_189 : decode cX11_day 189 = .ok (.iaload, 1) := by decide +kernel
theorem dX11_day_190 : decode cX11_day 190 = .ok (.iadd, 1) := by decide +kernel
theorem dX11_day_191 : decode cX11_day 191 = .ok (.istore_n 3, 1) := by decide +kernel
theorem dX11_day_192 : decode cX11_day 192 = .ok (.iinc 4 1, 3) := by decide +kernel
theorem dX11_day_195 : decode cX11_day 195 = .ok (.goto (-23), 3) := by decide +kernel
theorem dX11_day_198 : decode cX11_day 198 = .ok (.iload_n 3, 1) := by decide +kernel
theorem dX11_day_199 : decode cX11_day 199 = .ok (.ireturn, 1) := by decide +kernel
theorem dX11_day_200 : decode cX11_day 200 = .ok (.aload_n 0, 1) := by decide +kernel
theorem dX11_day_201 : decode cX11_day 201 = .ok (.invokevirtual 125, 3) := by decide +kernel
theorem dX11_day_204 : decode cX11_day 204 = .ok (.ireturn, 1) := by decide +kernel
theorem dX11_day_205 : decode cX11_day 205 = .ok (.iconst 0, 1) := by decide +kernel
theorem dX11_day_206 : decode cX11_day 206 = .ok (.istore 4, 2) := by decide +kernel
theorem dX11_day_208 : decode cX11_day 208 = .ok (.iload 4, 2) := by decide +kernel
theorem dX11_day_210 : decode cX11_day 210 = .ok (.bipush 10, 2) := by decide +kernel
theorem dX11_day_212 : decode cX11_day 212 = .ok (.if_icmp .ge 31, 3) := by decide +kernel
theorem dX11_day_215 : decode cX11_day 215 = .ok (.iload_n 3, 1) := by decide +kernel
theorem dX11_day_216 : decode cX11_day 216 = .ok (.aload_n 0, 1) := by decide +kernel
theorem dX11_day_217 : decode cX11_day 217 = .ok (.iload 4, 2) := by decide +kernel
theorem dX11_day_219 : decode cX11_day 219 = .ok (.invokevirtual 62, 3) := by decide +kernel
theorem dX11_day_222 : decode cX11_day 222 = .ok (.ifCond .eq 12, 3) := by decide +kernel
theorem dX11_day_225 : decode cX11_day 225 = .ok (.aload_n 0, 1) := by decide +kernel
theorem dX11_day_226 : decode cX11_day 226 = .ok (.iload 4, 2) := by decide +kernel
theorem dX11_day_228 : decode cX11_day 228 = .ok (.invokevirtual 87, 3) := by decide +kernel
theorem dX11_day_231 : decode cX11_day 231 = .ok (.goto 4, 3) := by decide +kernel
theorem dX11_day_234 : decode cX11_day 234 = .ok (.iconst 0, 1) := by decide +kernel
theorem dX11_day_235 : decode cX11_day 235 = .ok (.iadd, 1) := by decide +kernel
theorem dX11_day_236 : decode cX11_day 236 = .ok (.istore_n 3, 1) := by decide +kernel
theorem dX11_day_237 : decode cX11_day 237 = .ok (.iinc 4 1, 3) := by decide +kernel
theorem dX11_day_240 : decode cX11_day 240 = .ok (.goto (-32), 3) := by decide +kernel
theorem dX11_day_243 : decode cX11_day 243 = .ok (.iload_n 3, 1) := by decide +kernel
theorem dX11_day_244 : decode cX11_day 244 = .ok (.ireturn, 1) := by decide +kernel
theorem dX11_day_245 : decode cX11_day 245 = .ok (.aload_n 0, 1) := by decide +kernel
theorem dX11_day_246 : decode cX11_day 246 = .ok (.getfield 56, 3) := by decide +kernel
theorem dX11_day_249 : decode cX11_day 249 = .ok (.ireturn, 1) := by decide +kernel
theorem dX11_day_250 : decode cX11_day 250 = .ok (.aload_n 0, 1) := by decide +kernel
theorem dX11_day_251 : decode cX11_day 251 = .ok (.getfield 34, 3) := by decide +kernel
theorem dX11_day_254 : decode cX11_day 254 = .ok (.ireturn, 1) := by decide +kernel
theorem dX11_gone_0 : decode cX11_gone 0 = .ok (.aload_n 0, 1) := by decide +kernel
theorem dX11_gone_1 : decode cX11_gone 1 = .ok (.iconst 0, 1) := by decide +kernel
theorem dX11_gone_2 : decode cX11_gone 2 = .ok (.putfield 27, 3) := by decide +kernel
theorem dX11_gone_5 : decode cX11_gone 5 = .ok (.iload_n 1, 1) := by decide +kernel
theorem dX11_gone_6 : decode cX11_gone 6 = .ok (.iconst 1, 1) := by decide +kernel
theorem dX11_gone_7 : decode cX11_gone 7 = .ok (.sipush 500, 3) := by decide +kernel
theorem dX11_gone_10 : decode cX11_gone 10 = .ok (.invokestatic 44, 3) := by decide +kernel
theorem dX11_gone_13 : decode cX11_gone 13 = .ok (.ifCond .eq 16, 3) := by decide +kernel
theorem dX11_gone_16 : decode cX11_gone 16 = .ok (.aload_n 0, 1) := by decide +kernel
theorem dX11_gone_17 : decode cX11_gone 17 = .ok (.getfield 7, 3) := by decide +kernel
theorem dX11_gone_20 : decode cX11_gone 20 = .ok (.sipush 3327, 3) := by decide +kernel
theorem dX11_gone_23 : decode cX11_gone 23 = .ok (.iload_n 1, 1) := by decide +kernel
theorem dX11_gone_24 : decode cX11_gone 24 = .ok (.iadd, 1) := by decide +kernel
theorem dX11_gone_25 : decode cX11_gone 25 = .ok (.iaload, 1) := by decide +kernel
theorem dX11_gone_26 : decode cX11_gone 26 = .ok (.goto 5, 3) := by decide +kernel
theorem dX11_gone_29 : decode cX11_gone 29 = .ok (.bipush (-3), 2) := by decide +kernel
theorem dX11_gone_31 : decode cX11_gone 31 = .ok (.ireturn, 1) := by decide +kernel
theorem dJ13_bitCount_95d88_0 : decode cJ13_bitCount_95d88 0 = .ok (.lload_n 0, 1) := by decide +kernel
theorem dJ13_bitCount_95d88_1 : decode cJ13_bitCount_95d88 1 = .ok (.lload_n 0, 1) := by decide +kernel
theorem dJ13_bitCount_95d88_2 : decode cJ13_bitCount_95d88 2 = .ok (.iconst 1, 1) := by decide +kernel
theorem dJ13_bitCount_95d88_3 : decode cJ13_bitCount_95d88 3 = .ok (.lushr, 1) := by decide +kernel
theorem dJ13_bitCount_95d88_4 : decode cJ13_bitCount_95d88 4 = .ok (.ldc2_w 314, 3) := by decide +kernel
theorem dJ13_bitCount_95d88_7 : decode cJ13_bitCount_95d88 7 = .ok (.land, 1) := by decide +kernel
theorem dJ13_bitCount_95d88_8 : decode cJ13_bitCount_95d88 8 = .ok (.lsub, 1) := by decide +kernel
theorem dJ13_bitCount_95d88_9 : decode cJ13_bitCount_95d88 9 = .ok (.lstore_n 0, 1) := by decide +kernel
theorem dJ13_bitCount_95d88_10 : decode cJ13_bitCount_95d88 10 = .ok (.lload_n 0, 1) := by decide +kernel
theorem dJ13_bitCount_95d88_11 : decode cJ13_bitCount_95d88 11 = .ok (.ldc2_w 316, 3) := by decide +kernel
theorem dJ13_bitCount_95d88_14 : decode cJ13_bitCount_95d88 14 = .ok (.land, 1) := by decide +kernel
theorem dJ13_bitCount_95d88_15 : decode cJ13_bitCount_95d88 15 = .ok (.lload_n 0, 1) := by decide +kernel
theorem dJ13_bitCount_95d88_16 : decode cJ13_bitCount_95d88 16 = .ok (.iconst 2, 1) := by decide +kernel
theorem dJ13_bitCount_95d88_17 : decode cJ13_bitCount_95d88 17 = .ok (.lushr, 1) := by decide +kernel
theorem dJ13_bitCount_95d88_18 : decode cJ13_bitCount_95d88 18 = .ok (.ldc2_w 316, 3) := by decide +kernel
theorem dJ13_bitCount_95d88_21 : decode cJ13_bitCount_95d88 21 = .ok (.land, 1) := by decide +kernel
theorem dJ13_bitCount_95d88_22 : decode cJ13_bitCount_95d88 22 = .ok (.ladd, 1) := by decide +kernel
theorem dJ13_bitCount_95d88_23 : decode cJ13_bitCount_95d88 23 = .ok (.lstore_n 0, 1) := by decide +kernel
theorem dJ13_bitCount_95d88_24 : decode cJ13_bitCount_95d88 24 = .ok (.lload_n 0, 1) := by decide +kernel
theorem dJ13_bitCount_95d88_25 : decode cJ13_bitCount_95d88 25 = .ok (.lload_n 0, 1) := by decide +kernel
theorem dJ13_bitCount_95d88_26 : decode cJ13_bitCount_95d88 26 = .ok (.iconst 4, 1) := by decide +kernel
theorem dJ13_bitCount_95d88_27 : decode cJ13_bitCount_95d88 27 = .ok (.lushr, 1) := by decide +kernel
theorem dJ13_bitCount_95d88_28 : decode cJ13_bitCount_95d88 28 = .ok (.ladd, 1) := by decide +kernel
theorem dJ13_bitCount_95d88_29 : decode cJ13_bitCount_95d88 29 = .ok (.ldc2_w 318, 3) := by decide +kernel
theorem dJ13_bitCount_95d88_32 : decode cJ13_bitCount_95d88 32 = .ok (.land, 1) := by decide +kernel
theorem dJ13_bitCount_95d88_33 : decode cJ13_bitCount_95d88 33 = .ok (.lstore_n 0, 1) := by decide +kernel
theorem dJ13_bitCount_95d88_34 : decode cJ13_bitCount_95d88 34 = .ok (.lload_n 0, 1) := by decide +kernel
theorem dJ13_bitCount_95d88_35 : decode cJ13_bitCount_95d88 35 = .ok (.lload_n 0, 1) := by decide +kernel
theorem dJ13_bitCount_95d88_36 : decode cJ13_bitCount_95d88 36 = .ok (.bipush 8, 2) := by decide +kernel
theorem dJ13_bitCount_95d88_38 : decode cJ13_bitCount_95d88 38 = .ok (.lushr, 1) := by decide +kernel
theorem dJ13_bitCount_95d88_39 : decode cJ13_bitCount_95d88 39 = .ok (.ladd, 1) := by decide +kernel
theorem dJ13_bitCount_95d88_40 : decode cJ13_bitCount_95d88 40 = .ok (.lstore_n 0, 1) := by decide +kernel
theorem dJ13_bitCount_95d88_41 : decode cJ13_bitCount_95d88 41 = .ok (.lload_n 0, 1) := by decide +kernel
theorem dJ13_bitCount_95d88_42 : decode cJ13_bitCount_95d88 42 = .ok (.lload_n 0, 1) := by decide +kernel
theorem dJ13_bitCount_95d88_43 : decode cJ13_bitCount_95d88 43 = .ok (.bipush 16, 2) := by decide +kernel
theorem dJ13_bitCount_95d88_45 : decode cJ13_bitCount_95d88 45 = .ok (.lushr, 1) := by decide +kernel
theorem dJ13_bitCount_95d88_46 : decode cJ13_bitCount_95d88 46 = .ok (.ladd, 1) := by decide +kernel
theorem dJ13_bitCount_95d88_47 : decode cJ13_bitCount_95d88 47 = .ok (.lstore_n 0, 1) := by decide +kernel
theorem dJ13_bitCount_95d88_48 : decode cJ13_bitCount_95d88 48 = .ok (.lload_n 0, 1) := by decide +kernel
theorem dJ13_bitCount_95d88_49 : decode cJ13_bitCount_95d88 49 = .ok (.lload_n 0, 1) := by decide +kernel
theorem dJ13_bitCount_95d88_50 : decode cJ13_bitCount_95d88 50 = .ok (.bipush 32, 2) := by decide +kernel
theorem dJ13_bitCount_95d88_52 : decode cJ13_bitCount_95d88 52 = .ok (.lushr, 1) := by decide +kernel
theorem dJ13_bitCount_95d88_53 : decode cJ13_bitCount_95d88 53 = .ok (.ladd, 1) := by decide +kernel
theorem dJ13_bitCount_95d88_54 : decode cJ13_bitCount_95d88 54 = .ok (.lstore_n 0, 1) := by decide +kernel
theorem dJ13_bitCount_95d88_55 : decode cJ13_bitCount_95d88 55 = .ok (.lload_n 0, 1) := by decide +kernel
theorem dJ13_bitCount_95d88_56 : decode cJ13_bitCount_95d88 56 = .ok (.l2i, 1) := by decide +kernel
theorem dJ13_bitCount_95d88_57 : decode cJ13_bitCount_95d88 57 = .ok (.bipush 127, 2) := by decide +kernel
theorem dJ13_bitCount_95d88_59 : decode cJ13_bitCount_95d88 59 = .ok (.iand, 1) := by decide +kernel
theorem dJ13_bitCount_95d88_60 : decode cJ13_bitCount_95d88 60 = .ok (.ireturn, 1) := by decide +kernel
theorem dJ9_max_7cf53_0 : decode cJ9_max_7cf53 0 = .ok (.iload_n 0, 1) := by decide +kernel
theorem dJ9_max_7cf53_1 : decode cJ9_max_7cf53 1 = .ok (.iload_n 1, 1) := by decide +kernel
theorem dJ9_max_7cf53_2 : decode cJ9_max_7cf53 2 = .ok (.if_icmp .lt 7, 3) := by decide +kernel
theorem dJ9_max_7cf53_5 : decode cJ9_max_7cf53 5 = .ok (.iload_n 0, 1) := by decide +kernel
theorem dJ9_max_7cf53_6 : decode cJ9_max_7cf53 6 = .ok (.goto 4, 3) := by decide +kernel
theorem dJ9_max_7cf53_9 : decode cJ9_max_7cf53 9 = .ok (.iload_n 1, 1) := by decide +kernel
theorem dJ9_max_7cf53_10 : decode cJ9_max_7cf53 10 = .ok (.ireturn, 1) := by decide +kernel
theorem dJ9_min_7cf53_0 : decode cJ9_min_7cf53 0 = .ok (.iload_n 0, 1) := by decide +kernel
theorem dJ9_min_7cf53_1 : decode cJ9_min_7cf53 1 = .ok (.iload_n 1, 1) := by decide +kernel
theorem dJ9_min_7cf53_2 : decode cJ9_min_7cf53 2 = .ok (.if_icmp .gt 7, 3) := by decide +kernel
theorem dJ9_min_7cf53_5 : decode cJ9_min_7cf53 5 = .ok (.iload_n 0, 1) := by decide +kernel
theorem dJ9_min_7cf53_6 : decode cJ9_min_7cf53 6 = .ok (.goto 4, 3) := by decide +kernel
theorem dJ9_min_7cf53_9 : decode cJ9_min_7cf53 9 = .ok (.iload_n 1, 1) := by decide +kernel
theorem dJ9_min_7cf53_10 : decode cJ9_min_7cf53 10 = .ok (.ireturn, 1) := by decide +kernel
theorem dL_law_0 : decode cL_law 0 = .ok (.new 7, 3) := by decide +kernel
theorem dL_law_3 : decode cL_law 3 = .ok (.dup, 1) := by decide +kernel
theorem dL_law_4 : decode cL_law 4 = .ok (.invokespecial 9, 3) := by decide +kernel
theorem dL_law_7 : decode cL_law 7 = .ok (.astore_n 1, 1) := by decide +kernel
theorem dL_law_8 : decode cL_law 8 = .ok (.new 10, 3) := by decide +kernel
theorem dL_law_11 : decode cL_law 11 = .ok (.dup, 1) := by decide +kernel
theorem dL_law_12 : decode cL_law 12 = .ok (.invokespecial 12, 3) := by decide +kernel
theorem dL_law_15 : decode cL_law 15 = .ok (.astore_n 2, 1) := by decide +kernel
theorem dL_law_16 : decode cL_law 16 = .ok (.iconst 0, 1) := by decide +kernel
theorem dL_law_17 : decode cL_law 17 = .ok (.istore_n 3, 1) := by decide +kernel
theorem dL_law_18 : decode cL_law 18 = .ok (.iload_n 3, 1) := by decide +kernel
theorem dL_law_19 : decode cL_law 19 = .ok (.aload_n 0, 1) := by decide +kernel
theorem dL_law_20 : decode cL_law 20 = .ok (.arraylength, 1) := by decide +kernel
theorem dL_law_21 : decode cL_law 21 = .ok (.bipush 6, 2) := by decide +kernel
theorem dL_law_23 : decode cL_law 23 = .ok (.isub, 1) := by decide +kernel
theorem dL_law_24 : decode cL_law 24 = .ok (.if_icmp .gt 905, 3) := by decide +kernel
theorem dL_law_27 : decode cL_law 27 = .ok (.aload_n 0, 1) := by decide +kernel
theorem dL_law_28 : decode cL_law 28 = .ok (.iload_n 3, 1) := by decide +kernel
theorem dL_law_29 : decode cL_law 29 = .ok (.iaload, 1) := by decide +kernel
theorem dL_law_30 : decode cL_law 30 = .ok (.bipush 31, 2) := by decide +kernel
theorem dL_law_32 : decode cL_law 32 = .ok (.iand, 1) := by decide +kernel
theorem dL_law_33 : decode cL_law 33 = .ok (.tableswitch 890 0 22 #[107, 150, 203, 226, 249, 312, 345, 368, 421, 454, 497, 530, 561, 612, 663, 686, 719, 752, 785, 808, 831, 854, 877], 107) := by decide +kernel
theorem dL_law_140 : decode cL_law 140 = .ok (.aload_n 1, 1) := by decide +kernel
theorem dL_law_141 : decode cL_law 141 = .ok (.aload_n 0, 1) := by decide +kernel
theorem dL_law_142 : decode cL_law 142 = .ok (.iload_n 3, 1) := by decide +kernel
theorem dL_law_143 : decode cL_law 143 = .ok (.iconst 1, 1) := by decide +kernel
theorem dL_law_144 : decode cL_law 144 = .ok (.iadd, 1) := by decide +kernel
theorem dL_law_145 : decode cL_law 145 = .ok (.iaload, 1) := by decide +kernel
theorem dL_law_146 : decode cL_law 146 = .ok (.aload_n 0, 1) := by decide +kernel
theorem dL_law_147 : decode cL_law 147 = .ok (.iload_n 3, 1) := by decide +kernel
theorem dL_law_148 : decode cL_law 148 = .ok (.iconst 2, 1) := by decide +kernel
theorem dL_law_149 : decode cL_law 149 = .ok (.iadd, 1) := by decide +kernel
theorem dL_law_150 : decode cL_law 150 = .ok (.iaload, 1) := by decide +kernel
theorem dL_law_151 : decode cL_law 151 = .ok (.aload_n 0, 1) := by decide +kernel
theorem dL_law_152 : decode cL_law 152 = .ok (.iload_n 3, 1) := by decide +kernel
theorem dL_law_153 : decode cL_law 153 = .ok (.iconst 3, 1) := by decide +kernel
theorem dL_law_154 : decode cL_law 154 = .ok (.iadd, 1) := by decide +kernel
theorem dL_law_155 : decode cL_law 155 = .ok (.iaload, 1) := by decide +kernel
theorem dL_law_156 : decode cL_law 156 = .ok (.invokevirtual 13, 3) := by decide +kernel
theorem dL_law_159 : decode cL_law 159 = .ok (.aload_n 2, 1) := by decide +kernel
theorem dL_law_160 : decode cL_law 160 = .ok (.aload_n 0, 1) := by decide +kernel
theorem dL_law_161 : decode cL_law 161 = .ok (.iload_n 3, 1) := by decide +kernel
theorem dL_law_162 : decode cL_law 162 = .ok (.iconst 1, 1) := by decide +kernel
theorem dL_law_163 : decode cL_law 163 = .ok (.iadd, 1) := by decide +kernel
theorem dL_law_164 : decode cL_law 164 = .ok (.iaload, 1) := by decide +kernel
theorem dL_law_165 : decode cL_law 165 = .ok (.aload_n 0, 1) := by decide +kernel
theorem dL_law_166 : decode cL_law 166 = .ok (.iload_n 3, 1) := by decide +kernel
theorem dL_law_167 : decode cL_law 167 = .ok (.iconst 2, 1) := by decide +kernel
theorem dL_law_168 : decode cL_law 168 = .ok (.iadd, 1) := by decide +kernel
theorem dL_law_169 : decode cL_law 169 = .ok (.iaload, 1) := by decide +kernel
theorem dL_law_170 : decode cL_law 170 = .ok (.aload_n 0, 1) := by decide +kernel
theorem dL_law_171 : decode cL_law 171 = .ok (.iload_n 3, 1) := by decide +kernel
theorem dL_law_172 : decode cL_law 172 = .ok (.iconst 3, 1) := by decide +kernel
theorem dL_law_173 : decode cL_law 173 = .ok (.iadd, 1) := by decide +kernel
theorem dL_law_174 : decode cL_law 174 = .ok (.iaload, 1) := by decide +kernel
theorem dL_law_175 : decode cL_law 175 = .ok (.invokevirtual 17, 3) := by decide +kernel
theorem dL_law_178 : decode cL_law 178 = .ok (.if_icmp .eq 745, 3) := by decide +kernel
theorem dL_law_181 : decode cL_law 181 = .ok (.iconst 0, 1) := by decide +kernel
theorem dL_law_182 : decode cL_law 182 = .ok (.ireturn, 1) := by decide +kernel
theorem dL_law_183 : decode cL_law 183 = .ok (.aload_n 1, 1) := by decide +kernel
theorem dL_law_184 : decode cL_law 184 = .ok (.aload_n 0, 1) := by decide +kernel
theorem dL_law_185 : decode cL_law 185 = .ok (.iload_n 3, 1) := by decide +kernel
theorem dL_law_186 : decode cL_law 186 = .ok (.iconst 1, 1) := by decide +kernel
theorem dL_law_187 : decode cL_law 187 = .ok (.iadd, 1) := by decide +kernel
theorem dL_law_188 : decode cL_law 188 = .ok (.iaload, 1) := by decide +kernel
theorem dL_law_189 : decode cL_law 189 = .ok (.aload_n 0, 1) := by decide +kernel
theorem dL_law_190 : decode cL_law 190 = .ok (.iload_n 3, 1) := by decide +kernel
theorem dL_law_191 : decode cL_law 191 = .ok (.iconst 2, 1) := by decide +kernel
theorem dL_law_192 : decode cL_law 192 = .ok (.iadd, 1) := by decide +kernel
theorem dL_law_193 : decode cL_law 193 = .ok (.iaload, 1) := by decide +kernel
theorem dL_law_194 : decode cL_law 194 = .ok (.aload_n 0, 1) := by decide +kernel
theorem dL_law_195 : decode cL_law 195 = .ok (.iload_n 3, 1) := by decide +kernel
theorem dL_law_196 : decode cL_law 196 = .ok (.iconst 3, 1) := by decide +kernel
theorem dL_law_197 : decode cL_law 197 = .ok (.iadd, 1) := by decide +kernel
theorem dL_law_198 : decode cL_law 198 = .ok (.iaload, 1) := by decide +kernel
theorem dL_law_199 : decode cL_law 199 = .ok (.aload_n 0, 1) := by decide +kernel
theorem dL_law_200 : decode cL_law 200 = .ok (.iload_n 3, 1) := by decide +kernel
theorem dL_law_201 : decode cL_law 201 = .ok (.iconst 4, 1) := by decide +kernel
theorem dL_law_202 : decode cL_law 202 = .ok (.iadd, 1) := by decide +kernel
theorem dL_law_203 : decode cL_law 203 = .ok (.iaload, 1) := by decide +kernel
theorem dL_law_204 : decode cL_law 204 = .ok (.invokevirtual 18, 3) := by decide +kernel
theorem dL_law_207 : decode cL_law 207 = .ok (.aload_n 2, 1) := by decide +kernel
theorem dL_law_208 : decode cL_law 208 = .ok (.aload_n 0, 1) := by decide +kernel
theorem dL_law_209 : decode cL_law 209 = .ok (.iload_n 3, 1) := by decide +kernel
theorem dL_law_210 : decode cL_law 210 = .ok (.iconst 1, 1) := by decide +kernel
theorem dL_law_211 : decode cL_law 211 = .ok (.iadd, 1) := by decide +kernel
theorem dL_law_212 : decode cL_law 212 = .ok (.iaload, 1) := by decide +kernel
theorem dL_law_213 : decode cL_law 213 = .ok (.aload_n 0, 1) := by decide +kernel
theorem dL_law_214 : decode cL_law 214 = .ok (.iload_n 3, 1) := by decide +kernel
theorem dL_law_215 : decode cL_law 215 = .ok (.iconst 2, 1) := by decide +kernel
theorem dL_law_216 : decode cL_law 216 = .ok (.iadd, 1) := by decide +kernel
theorem dL_law_217 : decode cL_law 217 = .ok (.iaload, 1) := by decide +kernel
theorem dL_law_218 : decode cL_law 218 = .ok (.aload_n 0, 1) := by decide +kernel
theorem dL_law_219 : decode cL_law 219 = .ok (.iload_n 3, 1) := by decide +kernel
theorem dL_law_220 : decode cL_law 220 = .ok (.iconst 3, 1) := by decide +kernel
theorem dL_law_221 : decode cL_law 221 = .ok (.iadd, 1) := by decide +kernel
theorem dL_law_222 : decode cL_law 222 = .ok (.iaload, 1) := by decide +kernel
theorem dL_law_223 : decode cL_law 223 = .ok (.aload_n 0, 1) := by decide +kernel
theorem dL_law_224 : decode cL_law 224 = .ok (.iload_n 3, 1) := by decide +kernel
theorem dL_law_225 : decode cL_law 225 = .ok (.iconst 4, 1) := by decide +kernel
theorem dL_law_226 : decode cL_law 226 = .ok (.iadd, 1) := by decide +kernel
theorem dL_law_227 : decode cL_law 227 = .ok (.iaload, 1) := by decide +kernel
theorem dL_law_228 : decode cL_law 228 = .ok (.invokevirtual 22, 3) := by decide +kernel
theorem dL_law_231 : decode cL_law 231 = .ok (.if_icmp .eq 692, 3) := by decide +kernel
theorem dL_law_234 : decode cL_law 234 = .ok (.iconst 0, 1) := by decide +kernel
theorem dL_law_235 : decode cL_law 235 = .ok (.ireturn, 1) := by decide +kernel
theorem dL_law_236 : decode cL_law 236 = .ok (.aload_n 1, 1) := by decide +kernel
theorem dL_law_237 : decode cL_law 237 = .ok (.aload_n 0, 1) := by decide +kernel
theorem dL_law_238 : decode cL_law 238 = .ok (.iload_n 3, 1) := by decide +kernel
theorem dL_law_239 : decode cL_law 239 = .ok (.iconst 1, 1) := by decide +kernel
theorem dL_law_240 : decode cL_law 240 = .ok (.iadd, 1) := by decide +kernel
theorem dL_law_241 : decode cL_law 241 = .ok (.iaload, 1) := by decide +kernel
theorem dL_law_242 : decode cL_law 242 = .ok (.invokevirtual 23, 3) := by decide +kernel
theorem dL_law_245 : decode cL_law 245 = .ok (.aload_n 2, 1) := by decide +kernel
theorem dL_law_246 : decode cL_law 246 = .ok (.aload_n 0, 1) := by decide +kernel
theorem dL_law_247 : decode cL_law 247 = .ok (.iload_n 3, 1) := by decide +kernel
theorem dL_law_248 : decode cL_law 248 = .ok (.iconst 1, 1) := by decide +kernel
theorem dL_law_249 : decode cL_law 249 = .ok (.iadd, 1) := by decide +kernel
theorem dL_law_250 : decode cL_law 250 = .ok (.iaload, 1) := by decide +kernel
theorem dL_law_251 : decode cL_law 251 = .ok (.invokevirtual 27, 3) := by decide +kernel
theorem dL_law_254 : decode cL_law 254 = .ok (.if_icmp .eq 669, 3) := by decide +kernel
theorem dL_law_257 : decode cL_law 257 = .ok (.iconst 0, 1) := by decide +kernel
theorem dL_law_258 : decode cL_law 258 = .ok (.ireturn, 1) := by decide +kernel
theorem dL_law_259 : decode cL_law 259 = .ok (.aload_n 1, 1) := by decide +kernel
theorem dL_law_260 : decode cL_law 260 = .ok (.aload_n 0, 1) := by decide +kernel
theorem dL_law_261 : decode cL_law 261 = .ok (.iload_n 3, 1) := by decide +kernel
theorem dL_law_262 : decode cL_law 262 = .ok (.iconst 1, 1) := by decide +kernel
theorem dL_law_263 : decode cL_law 263 = .ok (.iadd, 1) := by decide +kernel
theorem dL_law_264 : decode cL_law 264 = .ok (.iaload, 1) := by decide +kernel
theorem dL_law_265 : decode cL_law 265 = .ok (.invokevirtual 28, 3) := by decide +kernel
theorem dL_law_268 : decode cL_law 268 = .ok (.aload_n 2, 1) := by decide +kernel
theorem dL_law_269 : decode cL_law 269 = .ok (.aload_n 0, 1) := by decide +kernel
theorem dL_law_270 : decode cL_law 270 = .ok (.iload_n 3, 1) := by decide +kernel
theorem dL_law_271 : decode cL_law 271 = .ok (.iconst 1, 1) := by decide +kernel
theorem dL_law_272 : decode cL_law 272 = .ok (.iadd, 1) := by decide +kernel
theorem dL_law_273 : decode cL_law 273 = .ok (.iaload, 1) := by decide +kernel
theorem dL_law_274 : decode cL_law 274 = .ok (.invokevirtual 31, 3) := by decide +kernel
theorem dL_law_277 : decode cL_law 277 = .ok (.if_icmp .eq 646, 3) := by decide +kernel
theorem dL_law_280 : decode cL_law 280 = .ok (.iconst 0, 1) := by decide +kernel
theorem dL_law_281 : decode cL_law 281 = .ok (.ireturn, 1) := by decide +kernel
theorem dL_law_282 : decode cL_law 282 = .ok (.aload_n 1, 1) := by decide +kernel
theorem dL_law_283 : decode cL_law 283 = .ok (.aload_n 0, 1) := by decide +kernel
theorem dL_law_284 : decode cL_law 284 = .ok (.iload_n 3, 1) := by decide +kernel
theorem dL_law_285 : decode cL_law 285 = .ok (.iconst 1, 1) := by decide +kernel
theorem dL_law_286 : decode cL_law 286 = .ok (.iadd, 1) := by decide +kernel
theorem dL_law_287 : decode cL_law 287 = .ok (.iaload, 1) := by decide +kernel
theorem dL_law_288 : decode cL_law 288 = .ok (.aload_n 0, 1) := by decide +kernel
theorem dL_law_289 : decode cL_law 289 = .ok (.iload_n 3, 1) := by decide +kernel
theorem dL_law_290 : decode cL_law 290 = .ok (.iconst 2, 1) := by decide +kernel
theorem dL_law_291 : decode cL_law 291 = .ok (.iadd, 1) := by decide +kernel
theorem dL_law_292 : decode cL_law 292 = .ok (.iaload, 1) := by decide +kernel
theorem dL_law_293 : decode cL_law 293 = .ok (.aload_n 0, 1) := by decide +kernel
theorem dL_law_294 : decode cL_law 294 = .ok (.iload_n 3, 1) := by decide +kernel
theorem dL_law_295 : decode cL_law 295 = .ok (.iconst 3, 1) := by decide +kernel
theorem dL_law_296 : decode cL_law 296 = .ok (.iadd, 1) := by decide +kernel
theorem dL_law_297 : decode cL_law 297 = .ok (.iaload, 1) := by decide +kernel
theorem dL_law_298 : decode cL_law 298 = .ok (.aload_n 0, 1) := by decide +kernel
theorem dL_law_299 : decode cL_law 299 = .ok (.iload_n 3, 1) := by decide +kernel
theorem dL_law_300 : decode cL_law 300 = .ok (.iconst 4, 1) := by decide +kernel
theorem dL_law_301 : decode cL_law 301 = .ok (.iadd, 1) := by decide +kernel
theorem dL_law_302 : decode cL_law 302 = .ok (.iaload, 1) := by decide +kernel
theorem dL_law_303 : decode cL_law 303 = .ok (.aload_n 0, 1) := by decide +kernel
theorem dL_law_304 : decode cL_law 304 = .ok (.iload_n 3, 1) := by decide +kernel
theorem dL_law_305 : decode cL_law 305 = .ok (.iconst 5, 1) := by decide +kernel
theorem dL_law_306 : decode cL_law 306 = .ok (.iadd, 1) := by decide +kernel
theorem dL_law_307 : decode cL_law 307 = .ok (.iaload, 1) := by decide +kernel
theorem dL_law_308 : decode cL_law 308 = .ok (.invokevirtual 32, 3) := by decide +kernel
theorem dL_law_311 : decode cL_law 311 = .ok (.aload_n 2, 1) := by decide +kernel
theorem dL_law_312 : decode cL_law 312 = .ok (.aload_n 0, 1) := by decide +kernel
theorem dL_law_313 : decode cL_law 313 = .ok (.iload_n 3, 1) := by decide +kernel
theorem dL_law_314 : decode cL_law 314 = .ok (.iconst 1, 1) := by decide +kernel
theorem dL_law_315 : decode cL_law 315 = .ok (.iadd, 1) := by decide +kernel
theorem dL_law_316 : decode cL_law 316 = .ok (.iaload, 1) := by decide +kernel
theorem dL_law_317 : decode cL_law 317 = .ok (.aload_n 0, 1) := by decide +kernel
theorem dL_law_318 : decode cL_law 318 = .ok (.iload_n 3, 1) := by decide +kernel
theorem dL_law_319 : decode cL_law 319 = .ok (.iconst 2, 1) := by decide +kernel
theorem dL_law_320 : decode cL_law 320 = .ok (.iadd, 1) := by decide +kernel
theorem dL_law_321 : decode cL_law 321 = .ok (.iaload, 1) := by decide +kernel
theorem dL_law_322 : decode cL_law 322 = .ok (.aload_n 0, 1) := by decide +kernel
theorem dL_law_323 : decode cL_law 323 = .ok (.iload_n 3, 1) := by decide +kernel
theorem dL_law_324 : decode cL_law 324 = .ok (.iconst 3, 1) := by decide +kernel
theorem dL_law_325 : decode cL_law 325 = .ok (.iadd, 1) := by decide +kernel
theorem dL_law_326 : decode cL_law 326 = .ok (.iaload, 1) := by decide +kernel
theorem dL_law_327 : decode cL_law 327 = .ok (.aload_n 0, 1) := by decide +kernel
theorem dL_law_328 : decode cL_law 328 = .ok (.iload_n 3, 1) := by decide +kernel
theorem dL_law_329 : decode cL_law 329 = .ok (.iconst 4, 1) := by decide +kernel
theorem dL_law_330 : decode cL_law 330 = .ok (.iadd, 1) := by decide +kernel
theorem dL_law_331 : decode cL_law 331 = .ok (.iaload, 1) := by decide +kernel
theorem dL_law_332 : decode cL_law 332 = .ok (.aload_n 0, 1) := by decide +kernel
theorem dL_law_333 : decode cL_law 333 = .ok (.iload_n 3, 1) := by decide +kernel
theorem dL_law_334 : decode cL_law 334 = .ok (.iconst 5, 1) := by decide +kernel
theorem dL_law_335 : decode cL_law 335 = .ok (.iadd, 1) := by decide +kernel
theorem dL_law_336 : decode cL_law 336 = .ok (.iaload, 1) := by decide +kernel
theorem dL_law_337 : decode cL_law 337 = .ok (.invokevirtual 36, 3) := by decide +kernel
theorem dL_law_340 : decode cL_law 340 = .ok (.if_icmp .eq 583, 3) := by decide +kernel
theorem dL_law_343 : decode cL_law 343 = .ok (.iconst 0, 1) := by decide +kernel
theorem dL_law_344 : decode cL_law 344 = .ok (.ireturn, 1) := by decide +kernel
theorem dL_law_345 : decode cL_law 345 = .ok (.aload_n 1, 1) := by decide +kernel
theorem dL_law_346 : decode cL_law 346 = .ok (.aload_n 0, 1) := by decide +kernel
theorem dL_law_347 : decode cL_law 347 = .ok (.iload_n 3, 1) := by decide +kernel
theorem dL_law_348 : decode cL_law 348 = .ok (.iconst 1, 1) := by decide +kernel
theorem dL_law_349 : decode cL_law 349 = .ok (.iadd, 1) := by decide +kernel
theorem dL_law_350 : decode cL_law 350 = .ok (.iaload, 1) := by decide +kernel
theorem dL_law_351 : decode cL_law 351 = .ok (.aload_n 0, 1) := by decide +kernel
theorem dL_law_352 : decode cL_law 352 = .ok (.iload_n 3, 1) := by decide +kernel
theorem dL_law_353 : decode cL_law 353 = .ok (.iconst 2, 1) := by decide +kernel
theorem dL_law_354 : decode cL_law 354 = .ok (.iadd, 1) := by decide +kernel
theorem dL_law_355 : decode cL_law 355 = .ok (.iaload, 1) := by decide +kernel
theorem dL_law_356 : decode cL_law 356 = .ok (.invokevirtual 37, 3) := by decide +kernel
theorem dL_law_359 : decode cL_law 359 = .ok (.aload_n 2, 1) := by decide +kernel
theorem dL_law_360 : decode cL_law 360 = .ok (.aload_n 0, 1) := by decide +kernel
theorem dL_law_361 : decode cL_law 361 = .ok (.iload_n 3, 1) := by decide +kernel
theorem dL_law_362 : decode cL_law 362 = .ok (.iconst 1, 1) := by decide +kernel
theorem dL_law_363 : decode cL_law 363 = .ok (.iadd, 1) := by decide +kernel
theorem dL_law_364 : decode cL_law 364 = .ok (.iaload, 1) := by decide +kernel
theorem dL_law_365 : decode cL_law 365 = .ok (.aload_n 0, 1) := by decide +kernel
theorem dL_law_366 : decode cL_law 366 = .ok (.iload_n 3, 1) := by decide +kernel
theorem dL_law_367 : decode cL_law 367 = .ok (.iconst 2, 1) := by decide +kernel
theorem dL_law_368 : decode cL_law 368 = .ok (.iadd, 1) := by decide +kernel
theorem dL_law_369 : decode cL_law 369 = .ok (.iaload, 1) := by decide +kernel
theorem dL_law_370 : decode cL_law 370 = .ok (.invokevirtual 41, 3) := by decide +kernel
theorem dL_law_373 : decode cL_law 373 = .ok (.if_icmp .eq 550, 3) := by decide +kernel
theorem dL_law_376 : decode cL_law 376 = .ok (.iconst 0, 1) := by decide +kernel
theorem dL_law_377 : decode cL_law 377 = .ok (.ireturn, 1) := by decide +kernel
theorem dL_law_378 : decode cL_law 378 = .ok (.aload_n 1, 1) := by decide +kernel
theorem dL_law_379 : decode cL_law 379 = .ok (.aload_n 0, 1) := by decide +kernel
theorem dL_law_380 : decode cL_law 380 = .ok (.iload_n 3, 1) := by decide +kernel
theorem dL_law_381 : decode cL_law 381 = .ok (.iconst 1, 1) := by decide +kernel
theorem dL_law_382 : decode cL_law 382 = .ok (.iadd, 1) := by decide +kernel
theorem dL_law_383 : decode cL_law 383 = .ok (.iaload, 1) := by decide +kernel
theorem dL_law_384 : decode cL_law 384 = .ok (.invokevirtual 42, 3) := by decide +kernel
theorem dL_law_387 : decode cL_law 387 = .ok (.aload_n 2, 1) := by decide +kernel
theorem dL_law_388 : decode cL_law 388 = .ok (.aload_n 0, 1) := by decide +kernel
theorem dL_law_389 : decode cL_law 389 = .ok (.iload_n 3, 1) := by decide +kernel
theorem dL_law_390 : decode cL_law 390 = .ok (.iconst 1, 1) := by decide +kernel
theorem dL_law_391 : decode cL_law 391 = .ok (.iadd, 1) := by decide +kernel
theorem dL_law_392 : decode cL_law 392 = .ok (.iaload, 1) := by decide +kernel
theorem dL_law_393 : decode cL_law 393 = .ok (.invokevirtual 45, 3) := by decide +kernel
theorem dL_law_396 : decode cL_law 396 = .ok (.if_icmp .eq 527, 3) := by decide +kernel
theorem dL_law_399 : decode cL_law 399 = .ok (.iconst 0, 1) := by decide +kernel
theorem dL_law_400 : decode cL_law 400 = .ok (.ireturn, 1) := by decide +kernel
theorem dL_law_401 : decode cL_law 401 = .ok (.aload_n 1, 1) := by decide +kernel
theorem dL_law_402 : decode cL_law 402 = .ok (.aload_n 0, 1) := by decide +kernel
theorem dL_law_403 : decode cL_law 403 = .ok (.iload_n 3, 1) := by decide +kernel
theorem dL_law_404 : decode cL_law 404 = .ok (.iconst 1, 1) := by decide +kernel
theorem dL_law_405 : decode cL_law 405 = .ok (.iadd, 1) := by decide +kernel
theorem dL_law_406 : decode cL_law 406 = .ok (.iaload, 1) := by decide +kernel
theorem dL_law_407 : decode cL_law 407 = .ok (.aload_n 0, 1) := by decide +kernel
theorem dL_law_408 : decode cL_law 408 = .ok (.iload_n 3, 1) := by decide +kernel
theorem dL_law_409 : decode cL_law 409 = .ok (.iconst 2, 1) := by decide +kernel
theorem dL_law_410 : decode cL_law 410 = .ok (.iadd, 1) := by decide +kernel
theorem dL_law_411 : decode cL_law 411 = .ok (.iaload, 1) := by decide +kernel
theorem dL_law_412 : decode cL_law 412 = .ok (.aload_n 0, 1) := by decide +kernel
theorem dL_law_413 : decode cL_law 413 = .ok (.iload_n 3, 1) := by decide +kernel
theorem dL_law_414 : decode cL_law 414 = .ok (.iconst 3, 1) := by decide +kernel
theorem dL_law_415 : decode cL_law 415 = .ok (.iadd, 1) := by decide +kernel
theorem dL_law_416 : decode cL_law 416 = .ok (.iaload, 1) := by decide +kernel
theorem dL_law_417 : decode cL_law 417 = .ok (.aload_n 0, 1) := by decide +kernel
theorem dL_law_418 : decode cL_law 418 = .ok (.iload_n 3, 1) := by decide +kernel
theorem dL_law_419 : decode cL_law 419 = .ok (.iconst 4, 1) := by decide +kernel
theorem dL_law_420 : decode cL_law 420 = .ok (.iadd, 1) := by decide +kernel
theorem dL_law_421 : decode cL_law 421 = .ok (.iaload, 1) := by decide +kernel
theorem dL_law_422 : decode cL_law 422 = .ok (.invokevirtual 46, 3) := by decide +kernel
theorem dL_law_425 : decode cL_law 425 = .ok (.aload_n 2, 1) := by decide +kernel
theorem dL_law_426 : decode cL_law 426 = .ok (.aload_n 0, 1) := by decide +kernel
theorem dL_law_427 : decode cL_law 427 = .ok (.iload_n 3, 1) := by decide +kernel
theorem dL_law_428 : decode cL_law 428 = .ok (.iconst 1, 1) := by decide +kernel
theorem dL_law_429 : decode cL_law 429 = .ok (.iadd, 1) := by decide +kernel
theorem dL_law_430 : decode cL_law 430 = .ok (.iaload, 1) := by decide +kernel
theorem dL_law_431 : decode cL_law 431 = .ok (.aload_n 0, 1) := by decide +kernel
theorem dL_law_432 : decode cL_law 432 = .ok (.iload_n 3, 1) := by decide +kernel
theorem dL_law_433 : decode cL_law 433 = .ok (.iconst 2, 1) := by decide +kernel
theorem dL_law_434 : decode cL_law 434 = .ok (.iadd, 1) := by decide +kernel
theorem dL_law_435 : decode cL_law 435 = .ok (.iaload, 1) := by decide +kernel
theorem dL_law_436 : decode cL_law 436 = .ok (.aload_n 0, 1) := by decide +kernel
theorem dL_law_437 : decode cL_law 437 = .ok (.iload_n 3, 1) := by decide +kernel
theorem dL_law_438 : decode cL_law 438 = .ok (.iconst 3, 1) := by decide +kernel
theorem dL_law_439 : decode cL_law 439 = .ok (.iadd, 1) := by decide +kernel
theorem dL_law_440 : decode cL_law 440 = .ok (.iaload, 1) := by decide +kernel
theorem dL_law_441 : decode cL_law 441 = .ok (.aload_n 0, 1) := by decide +kernel
theorem dL_law_442 : decode cL_law 442 = .ok (.iload_n 3, 1) := by decide +kernel
theorem dL_law_443 : decode cL_law 443 = .ok (.iconst 4, 1) := by decide +kernel
theorem dL_law_444 : decode cL_law 444 = .ok (.iadd, 1) := by decide +kernel
theorem dL_law_445 : decode cL_law 445 = .ok (.iaload, 1) := by decide +kernel
theorem dL_law_446 : decode cL_law 446 = .ok (.invokevirtual 49, 3) := by decide +kernel
theorem dL_law_449 : decode cL_law 449 = .ok (.if_icmp .eq 474, 3) := by decide +kernel
theorem dL_law_452 : decode cL_law 452 = .ok (.iconst 0, 1) := by decide +kernel
theorem dL_law_453 : decode cL_law 453 = .ok (.ireturn, 1) := by decide +kernel
theorem dL_law_454 : decode cL_law 454 = .ok (.aload_n 1, 1) := by decide +kernel
theorem dL_law_455 : decode cL_law 455 = .ok (.aload_n 0, 1) := by decide +kernel
theorem dL_law_456 : decode cL_law 456 = .ok (.iload_n 3, 1) := by decide +kernel
theorem dL_law_457 : decode cL_law 457 = .ok (.iconst 1, 1) := by decide +kernel
theorem dL_law_458 : decode cL_law 458 = .ok (.iadd, 1) := by decide +kernel
theorem dL_law_459 : decode cL_law 459 = .ok (.iaload, 1) := by decide +kernel
theorem dL_law_460 : decode cL_law 460 = .ok (.aload_n 0, 1) := by decide +kernel
theorem dL_law_461 : decode cL_law 461 = .ok (.iload_n 3, 1) := by decide +kernel
theorem dL_law_462 : decode cL_law 462 = .ok (.iconst 2, 1) := by decide +kernel
theorem dL_law_463 : decode cL_law 463 = .ok (.iadd, 1) := by decide +kernel
theorem dL_law_464 : decode cL_law 464 = .ok (.iaload, 1) := by decide +kernel
theorem dL_law_465 : decode cL_law 465 = .ok (.invokevirtual 50, 3) := by decide +kernel
theorem dL_law_468 : decode cL_law 468 = .ok (.aload_n 2, 1) := by decide +kernel
theorem dL_law_469 : decode cL_law 469 = .ok (.aload_n 0, 1) := by decide +kernel
theorem dL_law_470 : decode cL_law 470 = .ok (.iload_n 3, 1) := by decide +kernel
theorem dL_law_471 : decode cL_law 471 = .ok (.iconst 1, 1) := by decide +kernel
theorem dL_law_472 : decode cL_law 472 = .ok (.iadd, 1) := by decide +kernel
theorem dL_law_473 : decode cL_law 473 = .ok (.iaload, 1) := by decide +kernel
theorem dL_law_474 : decode cL_law 474 = .ok (.aload_n 0, 1) := by decide +kernel
theorem dL_law_475 : decode cL_law 475 = .ok (.iload_n 3, 1) := by decide +kernel
theorem dL_law_476 : decode cL_law 476 = .ok (.iconst 2, 1) := by decide +kernel
theorem dL_law_477 : decode cL_law 477 = .ok (.iadd, 1) := by decide +kernel
theorem dL_law_478 : decode cL_law 478 = .ok (.iaload, 1) := by decide +kernel
theorem dL_law_479 : decode cL_law 479 = .ok (.invokevirtual 53, 3) := by decide +kernel
theorem dL_law_482 : decode cL_law 482 = .ok (.if_icmp .eq 441, 3) := by decide +kernel
theorem dL_law_485 : decode cL_law 485 = .ok (.iconst 0, 1) := by decide +kernel
theorem dL_law_486 : decode cL_law 486 = .ok (.ireturn, 1) := by decide +kernel
theorem dL_law_487 : decode cL_law 487 = .ok (.aload_n 1, 1) := by decide +kernel
theorem dL_law_488 : decode cL_law 488 = .ok (.aload_n 0, 1) := by decide +kernel
theorem dL_law_489 : decode cL_law 489 = .ok (.iload_n 3, 1) := by decide +kernel
theorem dL_law_490 : decode cL_law 490 = .ok (.iconst 1, 1) := by decide +kernel
theorem dL_law_491 : decode cL_law 491 = .ok (.iadd, 1) := by decide +kernel
theorem dL_law_492 : decode cL_law 492 = .ok (.iaload, 1) := by decide +kernel
theorem dL_law_493 : decode cL_law 493 = .ok (.aload_n 0, 1) := by decide +kernel
theorem dL_law_494 : decode cL_law 494 = .ok (.iload_n 3, 1) := by decide +kernel
theorem dL_law_495 : decode cL_law 495 = .ok (.iconst 2, 1) := by decide +kernel
theorem dL_law_496 : decode cL_law 496 = .ok (.iadd, 1) := by decide +kernel
theorem dL_law_497 : decode cL_law 497 = .ok (.iaload, 1) := by decide +kernel
theorem dL_law_498 : decode cL_law 498 = .ok (.aload_n 0, 1) := by decide +kernel
theorem dL_law_499 : decode cL_law 499 = .ok (.iload_n 3, 1) := by decide +kernel
theorem dL_law_500 : decode cL_law 500 = .ok (.iconst 3, 1) := by decide +kernel
theorem dL_law_501 : decode cL_law 501 = .ok (.iadd, 1) := by decide +kernel
theorem dL_law_502 : decode cL_law 502 = .ok (.iaload, 1) := by decide +kernel
theorem dL_law_503 : decode cL_law 503 = .ok (.invokevirtual 54, 3) := by decide +kernel
theorem dL_law_506 : decode cL_law 506 = .ok (.aload_n 2, 1) := by decide +kernel
theorem dL_law_507 : decode cL_law 507 = .ok (.aload_n 0, 1) := by decide +kernel
theorem dL_law_508 : decode cL_law 508 = .ok (.iload_n 3, 1) := by decide +kernel
theorem dL_law_509 : decode cL_law 509 = .ok (.iconst 1, 1) := by decide +kernel
theorem dL_law_510 : decode cL_law 510 = .ok (.iadd, 1) := by decide +kernel
theorem dL_law_511 : decode cL_law 511 = .ok (.iaload, 1) := by decide +kernel
theorem dL_law_512 : decode cL_law 512 = .ok (.aload_n 0, 1) := by decide +kernel
theorem dL_law_513 : decode cL_law 513 = .ok (.iload_n 3, 1) := by decide +kernel
theorem dL_law_514 : decode cL_law 514 = .ok (.iconst 2, 1) := by decide +kernel
theorem dL_law_515 : decode cL_law 515 = .ok (.iadd, 1) := by decide +kernel
theorem dL_law_516 : decode cL_law 516 = .ok (.iaload, 1) := by decide +kernel
theorem dL_law_517 : decode cL_law 517 = .ok (.aload_n 0, 1) := by decide +kernel
theorem dL_law_518 : decode cL_law 518 = .ok (.iload_n 3, 1) := by decide +kernel
theorem dL_law_519 : decode cL_law 519 = .ok (.iconst 3, 1) := by decide +kernel
theorem dL_law_520 : decode cL_law 520 = .ok (.iadd, 1) := by decide +kernel
theorem dL_law_521 : decode cL_law 521 = .ok (.iaload, 1) := by decide +kernel
theorem dL_law_522 : decode cL_law 522 = .ok (.invokevirtual 57, 3) := by decide +kernel
theorem dL_law_525 : decode cL_law 525 = .ok (.if_icmp .eq 398, 3) := by decide +kernel
theorem dL_law_528 : decode cL_law 528 = .ok (.iconst 0, 1) := by decide +kernel
theorem dL_law_529 : decode cL_law 529 = .ok (.ireturn, 1) := by decide +kernel
theorem dL_law_530 : decode cL_law 530 = .ok (.aload_n 1, 1) := by decide +kernel
theorem dL_law_531 : decode cL_law 531 = .ok (.aload_n 0, 1) := by decide +kernel
theorem dL_law_532 : decode cL_law 532 = .ok (.iload_n 3, 1) := by decide +kernel
theorem dL_law_533 : decode cL_law 533 = .ok (.iconst 1, 1) := by decide +kernel
theorem dL_law_534 : decode cL_law 534 = .ok (.iadd, 1) := by decide +kernel
theorem dL_law_535 : decode cL_law 535 = .ok (.iaload, 1) := by decide +kernel
theorem dL_law_536 : decode cL_law 536 = .ok (.aload_n 0, 1) := by decide +kernel
theorem dL_law_537 : decode cL_law 537 = .ok (.iload_n 3, 1) := by decide +kernel
theorem dL_law_538 : decode cL_law 538 = .ok (.iconst 2, 1) := by decide +kernel
theorem dL_law_539 : decode cL_law 539 = .ok (.iadd, 1) := by decide +kernel
theorem dL_law_540 : decode cL_law 540 = .ok (.iaload, 1) := by decide +kernel
theorem dL_law_541 : decode cL_law 541 = .ok (.invokevirtual 58, 3) := by decide +kernel
theorem dL_law_544 : decode cL_law 544 = .ok (.aload_n 2, 1) := by decide +kernel
theorem dL_law_545 : decode cL_law 545 = .ok (.aload_n 0, 1) := by decide +kernel
theorem dL_law_546 : decode cL_law 546 = .ok (.iload_n 3, 1) := by decide +kernel
theorem dL_law_547 : decode cL_law 547 = .ok (.iconst 1, 1) := by decide +kernel
theorem dL_law_548 : decode cL_law 548 = .ok (.iadd, 1) := by decide +kernel
theorem dL_law_549 : decode cL_law 549 = .ok (.iaload, 1) := by decide +kernel
theorem dL_law_550 : decode cL_law 550 = .ok (.aload_n 0, 1) := by decide +kernel
theorem dL_law_551 : decode cL_law 551 = .ok (.iload_n 3, 1) := by decide +kernel
theorem dL_law_552 : decode cL_law 552 = .ok (.iconst 2, 1) := by decide +kernel
theorem dL_law_553 : decode cL_law 553 = .ok (.iadd, 1) := by decide +kernel
theorem dL_law_554 : decode cL_law 554 = .ok (.iaload, 1) := by decide +kernel
theorem dL_law_555 : decode cL_law 555 = .ok (.invokevirtual 61, 3) := by decide +kernel
theorem dL_law_558 : decode cL_law 558 = .ok (.if_icmp .eq 365, 3) := by decide +kernel
theorem dL_law_561 : decode cL_law 561 = .ok (.iconst 0, 1) := by decide +kernel
theorem dL_law_562 : decode cL_law 562 = .ok (.ireturn, 1) := by decide +kernel
theorem dL_law_563 : decode cL_law 563 = .ok (.aload_n 1, 1) := by decide +kernel
theorem dL_law_564 : decode cL_law 564 = .ok (.aload_n 0, 1) := by decide +kernel
theorem dL_law_565 : decode cL_law 565 = .ok (.iload_n 3, 1) := by decide +kernel
theorem dL_law_566 : decode cL_law 566 = .ok (.iconst 1, 1) := by decide +kernel
theorem dL_law_567 : decode cL_law 567 = .ok (.iadd, 1) := by decide +kernel
theorem dL_law_568 : decode cL_law 568 = .ok (.iaload, 1) := by decide +kernel
theorem dL_law_569 : decode cL_law 569 = .ok (.i2f, 1) := by decide +kernel
theorem dL_law_570 : decode cL_law 570 = .ok (.ldc 62, 2) := by decide +kernel
theorem dL_law_572 : decode cL_law 572 = .ok (.fmul, 1) := by decide +kernel
theorem dL_law_573 : decode cL_law 573 = .ok (.invokevirtual 63, 3) := by decide +kernel
theorem dL_law_576 : decode cL_law 576 = .ok (.aload_n 2, 1) := by decide +kernel
theorem dL_law_577 : decode cL_law 577 = .ok (.aload_n 0, 1) := by decide +kernel
theorem dL_law_578 : decode cL_law 578 = .ok (.iload_n 3, 1) := by decide +kernel
theorem dL_law_579 : decode cL_law 579 = .ok (.iconst 1, 1) := by decide +kernel
theorem dL_law_580 : decode cL_law 580 = .ok (.iadd, 1) := by decide +kernel
theorem dL_law_581 : decode cL_law 581 = .ok (.iaload, 1) := by decide +kernel
theorem dL_law_582 : decode cL_law 582 = .ok (.i2f, 1) := by decide +kernel
theorem dL_law_583 : decode cL_law 583 = .ok (.ldc 62, 2) := by decide +kernel
theorem dL_law_585 : decode cL_law 585 = .ok (.fmul, 1) := by decide +kernel
theorem dL_law_586 : decode cL_law 586 = .ok (.invokevirtual 67, 3) := by decide +kernel
theorem dL_law_589 : decode cL_law 589 = .ok (.if_icmp .eq 334, 3) := by decide +kernel
theorem dL_law_592 : decode cL_law 592 = .ok (.iconst 0, 1) := by decide +kernel
theorem dL_law_593 : decode cL_law 593 = .ok (.ireturn, 1) := by decide +kernel
theorem dL_law_594 : decode cL_law 594 = .ok (.aload_n 1, 1) := by decide +kernel
theorem dL_law_595 : decode cL_law 595 = .ok (.aload_n 0, 1) := by decide +kernel
theorem dL_law_596 : decode cL_law 596 = .ok (.iload_n 3, 1) := by decide +kernel
theorem dL_law_597 : decode cL_law 597 = .ok (.iconst 1, 1) := by decide +kernel
theorem dL_law_598 : decode cL_law 598 = .ok (.iadd, 1) := by decide +kernel
theorem dL_law_599 : decode cL_law 599 = .ok (.iaload, 1) := by decide +kernel
theorem dL_law_600 : decode cL_law 600 = .ok (.aload_n 0, 1) := by decide +kernel
theorem dL_law_601 : decode cL_law 601 = .ok (.iload_n 3, 1) := by decide +kernel
theorem dL_law_602 : decode cL_law 602 = .ok (.iconst 2, 1) := by decide +kernel
theorem dL_law_603 : decode cL_law 603 = .ok (.iadd, 1) := by decide +kernel
theorem dL_law_604 : decode cL_law 604 = .ok (.iaload, 1) := by decide +kernel
theorem dL_law_605 : decode cL_law 605 = .ok (.i2f, 1) := by decide +kernel
theorem dL_law_606 : decode cL_law 606 = .ok (.ldc 62, 2) := by decide +kernel
theorem dL_law_608 : decode cL_law 608 = .ok (.fmul, 1) := by decide +kernel
theorem dL_law_609 : decode cL_law 609 = .ok (.aload_n 0, 1) := by decide +kernel
theorem dL_law_610 : decode cL_law 610 = .ok (.iload_n 3, 1) := by decide +kernel
theorem dL_law_611 : decode cL_law 611 = .ok (.iconst 3, 1) := by decide +kernel
theorem dL_law_612 : decode cL_law 612 = .ok (.iadd, 1) := by decide +kernel
theorem dL_law_613 : decode cL_law 613 = .ok (.iaload, 1) := by decide +kernel
theorem dL_law_614 : decode cL_law 614 = .ok (.invokevirtual 68, 3) := by decide +kernel
theorem dL_law_617 : decode cL_law 617 = .ok (.aload_n 2, 1) := by decide +kernel
theorem dL_law_618 : decode cL_law 618 = .ok (.aload_n 0, 1) := by decide +kernel
theorem dL_law_619 : decode cL_law 619 = .ok (.iload_n 3, 1) := by decide +kernel
theorem dL_law_620 : decode cL_law 620 = .ok (.iconst 1, 1) := by decide +kernel
theorem dL_law_621 : decode cL_law 621 = .ok (.iadd, 1) := by decide +kernel
theorem dL_law_622 : decode cL_law 622 = .ok (.iaload, 1) := by decide +kernel
theorem dL_law_623 : decode cL_law 623 = .ok (.aload_n 0, 1) := by decide +kernel
theorem dL_law_624 : decode cL_law 624 = .ok (.iload_n 3, 1) := by decide +kernel
theorem dL_law_625 : decode cL_law 625 = .ok (.iconst 2, 1) := by decide +kernel
theorem dL_law_626 : decode cL_law 626 = .ok (.iadd, 1) := by decide +kernel
theorem dL_law_627 : decode cL_law 627 = .ok (.iaload, 1) := by decide +kernel
theorem dL_law_628 : decode cL_law 628 = .ok (.i2f, 1) := by decide +kernel
theorem dL_law_629 : decode cL_law 629 = .ok (.ldc 62, 2) := by decide +kernel
theorem dL_law_631 : decode cL_law 631 = .ok (.fmul, 1) := by decide +kernel
theorem dL_law_632 : decode cL_law 632 = .ok (.aload_n 0, 1) := by decide +kernel
theorem dL_law_633 : decode cL_law 633 = .ok (.iload_n 3, 1) := by decide +kernel
theorem dL_law_634 : decode cL_law 634 = .ok (.iconst 3, 1) := by decide +kernel
theorem dL_law_635 : decode cL_law 635 = .ok (.iadd, 1) := by decide +kernel
theorem dL_law_636 : decode cL_law 636 = .ok (.iaload, 1) := by decide +kernel
theorem dL_law_637 : decode cL_law 637 = .ok (.invokevirtual 72, 3) := by decide +kernel
theorem dL_law_640 : decode cL_law 640 = .ok (.if_icmp .eq 283, 3) := by decide +kernel
theorem dL_law_643 : decode cL_law 643 = .ok (.iconst 0, 1) := by decide +kernel
theorem dL_law_644 : decode cL_law 644 = .ok (.ireturn, 1) := by decide +kernel
theorem dL_law_645 : decode cL_law 645 = .ok (.aload_n 1, 1) := by decide +kernel
theorem dL_law_646 : decode cL_law 646 = .ok (.aload_n 0, 1) := by decide +kernel
theorem dL_law_647 : decode cL_law 647 = .ok (.iload_n 3, 1) := by decide +kernel
theorem dL_law_648 : decode cL_law 648 = .ok (.iconst 1, 1) := by decide +kernel
theorem dL_law_649 : decode cL_law 649 = .ok (.iadd, 1) := by decide +kernel
theorem dL_law_650 : decode cL_law 650 = .ok (.iaload, 1) := by decide +kernel
theorem dL_law_651 : decode cL_law 651 = .ok (.aload_n 0, 1) := by decide +kernel
theorem dL_law_652 : decode cL_law 652 = .ok (.iload_n 3, 1) := by decide +kernel
theorem dL_law_653 : decode cL_law 653 = .ok (.iconst 2, 1) := by decide +kernel
theorem dL_law_654 : decode cL_law 654 = .ok (.iadd, 1) := by decide +kernel
theorem dL_law_655 : decode cL_law 655 = .ok (.iaload, 1) := by decide +kernel
theorem dL_law_656 : decode cL_law 656 = .ok (.i2f, 1) := by decide +kernel
theorem dL_law_657 : decode cL_law 657 = .ok (.ldc 62, 2) := by decide +kernel
theorem dL_law_659 : decode cL_law 659 = .ok (.fmul, 1) := by decide +kernel
theorem dL_law_660 : decode cL_law 660 = .ok (.aload_n 0, 1) := by decide +kernel
theorem dL_law_661 : decode cL_law 661 = .ok (.iload_n 3, 1) := by decide +kernel
theorem dL_law_662 : decode cL_law 662 = .ok (.iconst 3, 1) := by decide +kernel
theorem dL_law_663 : decode cL_law 663 = .ok (.iadd, 1) := by decide +kernel
theorem dL_law_664 : decode cL_law 664 = .ok (.iaload, 1) := by decide +kernel
theorem dL_law_665 : decode cL_law 665 = .ok (.invokevirtual 73, 3) := by decide +kernel
theorem dL_law_668 : decode cL_law 668 = .ok (.aload_n 2, 1) := by decide +kernel
theorem dL_law_669 : decode cL_law 669 = .ok (.aload_n 0, 1) := by decide +kernel
theorem dL_law_670 : decode cL_law 670 = .ok (.iload_n 3, 1) := by decide +kernel
theorem dL_law_671 : decode cL_law 671 = .ok (.iconst 1, 1) := by decide +kernel
theorem dL_law_672 : decode cL_law 672 = .ok (.iadd, 1) := by decide +kernel
theorem dL_law_673 : decode cL_law 673 = .ok (.iaload, 1) := by decide +kernel
theorem dL_law_674 : decode cL_law 674 = .ok (.aload_n 0, 1) := by decide +kernel
theorem dL_law_675 : decode cL_law 675 = .ok (.iload_n 3, 1) := by decide +kernel
theorem dL_law_676 : decode cL_law 676 = .ok (.iconst 2, 1) := by decide +kernel
theorem dL_law_677 : decode cL_law 677 = .ok (.iadd, 1) := by decide +kernel
theorem dL_law_678 : decode cL_law 678 = .ok (.iaload, 1) := by decide +kernel
theorem dL_law_679 : decode cL_law 679 = .ok (.i2f, 1) := by decide +kernel
theorem dL_law_680 : decode cL_law 680 = .ok (.ldc 62, 2) := by decide +kernel
theorem dL_law_682 : decode cL_law 682 = .ok (.fmul, 1) := by decide +kernel
theorem dL_law_683 : decode cL_law 683 = .ok (.aload_n 0, 1) := by decide +kernel
theorem dL_law_684 : decode cL_law 684 = .ok (.iload_n 3, 1) := by decide +kernel
theorem dL_law_685 : decode cL_law 685 = .ok (.iconst 3, 1) := by decide +kernel
theorem dL_law_686 : decode cL_law 686 = .ok (.iadd, 1) := by decide +kernel
theorem dL_law_687 : decode cL_law 687 = .ok (.iaload, 1) := by decide +kernel
theorem dL_law_688 : decode cL_law 688 = .ok (.invokevirtual 76, 3) := by decide +kernel
theorem dL_law_691 : decode cL_law 691 = .ok (.if_icmp .eq 232, 3) := by decide +kernel
theorem dL_law_694 : decode cL_law 694 = .ok (.iconst 0, 1) := by decide +kernel
theorem dL_law_695 : decode cL_law 695 = .ok (.ireturn, 1) := by decide +kernel
theorem dL_law_696 : decode cL_law 696 = .ok (.aload_n 1, 1) := by decide +kernel
theorem dL_law_697 : decode cL_law 697 = .ok (.aload_n 0, 1) := by decide +kernel
theorem dL_law_698 : decode cL_law 698 = .ok (.iload_n 3, 1) := by decide +kernel
theorem dL_law_699 : decode cL_law 699 = .ok (.iconst 1, 1) := by decide +kernel
theorem dL_law_700 : decode cL_law 700 = .ok (.iadd, 1) := by decide +kernel
theorem dL_law_701 : decode cL_law 701 = .ok (.iaload, 1) := by decide +kernel
theorem dL_law_702 : decode cL_law 702 = .ok (.invokevirtual 77, 3) := by decide +kernel
theorem dL_law_705 : decode cL_law 705 = .ok (.aload_n 2, 1) := by decide +kernel
theorem dL_law_706 : decode cL_law 706 = .ok (.aload_n 0, 1) := by decide +kernel
theorem dL_law_707 : decode cL_law 707 = .ok (.iload_n 3, 1) := by decide +kernel
theorem dL_law_708 : decode cL_law 708 = .ok (.iconst 1, 1) := by decide +kernel
theorem dL_law_709 : decode cL_law 709 = .ok (.iadd, 1) := by decide +kernel
theorem dL_law_710 : decode cL_law 710 = .ok (.iaload, 1) := by decide +kernel
theorem dL_law_711 : decode cL_law 711 = .ok (.invokevirtual 80, 3) := by decide +kernel
theorem dL_law_714 : decode cL_law 714 = .ok (.if_icmp .eq 209, 3) := by decide +kernel
theorem dL_law_717 : decode cL_law 717 = .ok (.iconst 0, 1) := by decide +kernel
theorem dL_law_718 : decode cL_law 718 = .ok (.ireturn, 1) := by decide +kernel
theorem dL_law_719 : decode cL_law 719 = .ok (.aload_n 1, 1) := by decide +kernel
theorem dL_law_720 : decode cL_law 720 = .ok (.aload_n 0, 1) := by decide +kernel
theorem dL_law_721 : decode cL_law 721 = .ok (.iload_n 3, 1) := by decide +kernel
theorem dL_law_722 : decode cL_law 722 = .ok (.iconst 1, 1) := by decide +kernel
theorem dL_law_723 : decode cL_law 723 = .ok (.iadd, 1) := by decide +kernel
theorem dL_law_724 : decode cL_law 724 = .ok (.iaload, 1) := by decide +kernel
theorem dL_law_725 : decode cL_law 725 = .ok (.aload_n 0, 1) := by decide +kernel
theorem dL_law_726 : decode cL_law 726 = .ok (.iload_n 3, 1) := by decide +kernel
theorem dL_law_727 : decode cL_law 727 = .ok (.iconst 2, 1) := by decide +kernel
theorem dL_law_728 : decode cL_law 728 = .ok (.iadd, 1) := by decide +kernel
theorem dL_law_729 : decode cL_law 729 = .ok (.iaload, 1) := by decide +kernel
theorem dL_law_730 : decode cL_law 730 = .ok (.invokevirtual 81, 3) := by decide +kernel
theorem dL_law_733 : decode cL_law 733 = .ok (.aload_n 2, 1) := by decide +kernel
theorem dL_law_734 : decode cL_law 734 = .ok (.aload_n 0, 1) := by decide +kernel
theorem dL_law_735 : decode cL_law 735 = .ok (.iload_n 3, 1) := by decide +kernel
theorem dL_law_736 : decode cL_law 736 = .ok (.iconst 1, 1) := by decide +kernel
theorem dL_law_737 : decode cL_law 737 = .ok (.iadd, 1) := by decide +kernel
theorem dL_law_738 : decode cL_law 738 = .ok (.iaload, 1) := by decide +kernel
theorem dL_law_739 : decode cL_law 739 = .ok (.aload_n 0, 1) := by decide +kernel
theorem dL_law_740 : decode cL_law 740 = .ok (.iload_n 3, 1) := by decide +kernel
theorem dL_law_741 : decode cL_law 741 = .ok (.iconst 2, 1) := by decide +kernel
theorem dL_law_742 : decode cL_law 742 = .ok (.iadd, 1) := by decide +kernel
theorem dL_law_743 : decode cL_law 743 = .ok (.iaload, 1) := by decide +kernel
theorem dL_law_744 : decode cL_law 744 = .ok (.invokevirtual 84, 3) := by decide +kernel
theorem dL_law_747 : decode cL_law 747 = .ok (.if_icmp .eq 176, 3) := by decide +kernel
theorem dL_law_750 : decode cL_law 750 = .ok (.iconst 0, 1) := by decide +kernel
theorem dL_law_751 : decode cL_law 751 = .ok (.ireturn, 1) := by decide +kernel
theorem dL_law_752 : decode cL_law 752 = .ok (.aload_n 1, 1) := by decide +kernel
theorem dL_law_753 : decode cL_law 753 = .ok (.aload_n 0, 1) := by decide +kernel
theorem dL_law_754 : decode cL_law 754 = .ok (.iload_n 3, 1) := by decide +kernel
theorem dL_law_755 : decode cL_law 755 = .ok (.iconst 1, 1) := by decide +kernel
theorem dL_law_756 : decode cL_law 756 = .ok (.iadd, 1) := by decide +kernel
theorem dL_law_757 : decode cL_law 757 = .ok (.iaload, 1) := by decide +kernel
theorem dL_law_758 : decode cL_law 758 = .ok (.aload_n 0, 1) := by decide +kernel
theorem dL_law_759 : decode cL_law 759 = .ok (.iload_n 3, 1) := by decide +kernel
theorem dL_law_760 : decode cL_law 760 = .ok (.iconst 2, 1) := by decide +kernel
theorem dL_law_761 : decode cL_law 761 = .ok (.iadd, 1) := by decide +kernel
theorem dL_law_762 : decode cL_law 762 = .ok (.iaload, 1) := by decide +kernel
theorem dL_law_763 : decode cL_law 763 = .ok (.invokevirtual 85, 3) := by decide +kernel
theorem dL_law_766 : decode cL_law 766 = .ok (.aload_n 2, 1) := by decide +kernel
theorem dL_law_767 : decode cL_law 767 = .ok (.aload_n 0, 1) := by decide +kernel
theorem dL_law_768 : decode cL_law 768 = .ok (.iload_n 3, 1) := by decide +kernel
theorem dL_law_769 : decode cL_law 769 = .ok (.iconst 1, 1) := by decide +kernel
theorem dL_law_770 : decode cL_law 770 = .ok (.iadd, 1) := by decide +kernel
theorem dL_law_771 : decode cL_law 771 = .ok (.iaload, 1) := by decide +kernel
theorem dL_law_772 : decode cL_law 772 = .ok (.aload_n 0, 1) := by decide +kernel
theorem dL_law_773 : decode cL_law 773 = .ok (.iload_n 3, 1) := by decide +kernel
theorem dL_law_774 : decode cL_law 774 = .ok (.iconst 2, 1) := by decide +kernel
theorem dL_law_775 : decode cL_law 775 = .ok (.iadd, 1) := by decide +kernel
theorem dL_law_776 : decode cL_law 776 = .ok (.iaload, 1) := by decide +kernel
theorem dL_law_777 : decode cL_law 777 = .ok (.invokevirtual 88, 3) := by decide +kernel
theorem dL_law_780 : decode cL_law 780 = .ok (.if_icmp .eq 143, 3) := by decide +kernel
theorem dL_law_783 : decode cL_law 783 = .ok (.iconst 0, 1) := by decide +kernel
theorem dL_law_784 : decode cL_law 784 = .ok (.ireturn, 1) := by decide +kernel
theorem dL_law_785 : decode cL_law 785 = .ok (.aload_n 1, 1) := by decide +kernel
theorem dL_law_786 : decode cL_law 786 = .ok (.aload_n 0, 1) := by decide +kernel
theorem dL_law_787 : decode cL_law 787 = .ok (.iload_n 3, 1) := by decide +kernel
theorem dL_law_788 : decode cL_law 788 = .ok (.iconst 1, 1) := by decide +kernel
theorem dL_law_789 : decode cL_law 789 = .ok (.iadd, 1) := by decide +kernel
theorem dL_law_790 : decode cL_law 790 = .ok (.iaload, 1) := by decide +kernel
theorem dL_law_791 : decode cL_law 791 = .ok (.aload_n 0, 1) := by decide +kernel
theorem dL_law_792 : decode cL_law 792 = .ok (.iload_n 3, 1) := by decide +kernel
theorem dL_law_793 : decode cL_law 793 = .ok (.iconst 2, 1) := by decide +kernel
theorem dL_law_794 : decode cL_law 794 = .ok (.iadd, 1) := by decide +kernel
theorem dL_law_795 : decode cL_law 795 = .ok (.iaload, 1) := by decide +kernel
theorem dL_law_796 : decode cL_law 796 = .ok (.invokevirtual 89, 3) := by decide +kernel
theorem dL_law_799 : decode cL_law 799 = .ok (.aload_n 2, 1) := by decide +kernel
theorem dL_law_800 : decode cL_law 800 = .ok (.aload_n 0, 1) := by decide +kernel
theorem dL_law_801 : decode cL_law 801 = .ok (.iload_n 3, 1) := by decide +kernel
theorem dL_law_802 : decode cL_law 802 = .ok (.iconst 1, 1) := by decide +kernel
theorem dL_law_803 : decode cL_law 803 = .ok (.iadd, 1) := by decide +kernel
theorem dL_law_804 : decode cL_law 804 = .ok (.iaload, 1) := by decide +kernel
theorem dL_law_805 : decode cL_law 805 = .ok (.aload_n 0, 1) := by decide +kernel
theorem dL_law_806 : decode cL_law 806 = .ok (.iload_n 3, 1) := by decide +kernel
theorem dL_law_807 : decode cL_law 807 = .ok (.iconst 2, 1) := by decide +kernel
theorem dL_law_808 : decode cL_law 808 = .ok (.iadd, 1) := by decide +kernel
theorem dL_law_809 : decode cL_law 809 = .ok (.iaload, 1) := by decide +kernel
theorem dL_law_810 : decode cL_law 810 = .ok (.invokevirtual 92, 3) := by decide +kernel
theorem dL_law_813 : decode cL_law 813 = .ok (.if_icmp .eq 110, 3) := by decide +kernel
theorem dL_law_816 : decode cL_law 816 = .ok (.iconst 0, 1) := by decide +kernel
theorem dL_law_817 : decode cL_law 817 = .ok (.ireturn, 1) := by decide +kernel
theorem dL_law_818 : decode cL_law 818 = .ok (.aload_n 1, 1) := by decide +kernel
theorem dL_law_819 : decode cL_law 819 = .ok (.aload_n 0, 1) := by decide +kernel
theorem dL_law_820 : decode cL_law 820 = .ok (.iload_n 3, 1) := by decide +kernel
theorem dL_law_821 : decode cL_law 821 = .ok (.iconst 1, 1) := by decide +kernel
theorem dL_law_822 : decode cL_law 822 = .ok (.iadd, 1) := by decide +kernel
theorem dL_law_823 : decode cL_law 823 = .ok (.iaload, 1) := by decide +kernel
theorem dL_law_824 : decode cL_law 824 = .ok (.invokevirtual 93, 3) := by decide +kernel
theorem dL_law_827 : decode cL_law 827 = .ok (.aload_n 2, 1) := by decide +kernel
theorem dL_law_828 : decode cL_law 828 = .ok (.aload_n 0, 1) := by decide +kernel
theorem dL_law_829 : decode cL_law 829 = .ok (.iload_n 3, 1) := by decide +kernel
theorem dL_law_830 : decode cL_law 830 = .ok (.iconst 1, 1) := by decide +kernel
theorem dL_law_831 : decode cL_law 831 = .ok (.iadd, 1) := by decide +kernel
theorem dL_law_832 : decode cL_law 832 = .ok (.iaload, 1) := by decide +kernel
theorem dL_law_833 : decode cL_law 833 = .ok (.invokevirtual 96, 3) := by decide +kernel
theorem dL_law_836 : decode cL_law 836 = .ok (.if_icmp .eq 87, 3) := by decide +kernel
theorem dL_law_839 : decode cL_law 839 = .ok (.iconst 0, 1) := by decide +kernel
theorem dL_law_840 : decode cL_law 840 = .ok (.ireturn, 1) := by decide +kernel
theorem dL_law_841 : decode cL_law 841 = .ok (.aload_n 1, 1) := by decide +kernel
theorem dL_law_842 : decode cL_law 842 = .ok (.aload_n 0, 1) := by decide +kernel
theorem dL_law_843 : decode cL_law 843 = .ok (.iload_n 3, 1) := by decide +kernel
theorem dL_law_844 : decode cL_law 844 = .ok (.iconst 1, 1) := by decide +kernel
theorem dL_law_845 : decode cL_law 845 = .ok (.iadd, 1) := by decide +kernel
theorem dL_law_846 : decode cL_law 846 = .ok (.iaload, 1) := by decide +kernel
theorem dL_law_847 : decode cL_law 847 = .ok (.invokevirtual 97, 3) := by decide +kernel
theorem dL_law_850 : decode cL_law 850 = .ok (.aload_n 2, 1) := by decide +kernel
theorem dL_law_851 : decode cL_law 851 = .ok (.aload_n 0, 1) := by decide +kernel
theorem dL_law_852 : decode cL_law 852 = .ok (.iload_n 3, 1) := by decide +kernel
theorem dL_law_853 : decode cL_law 853 = .ok (.iconst 1, 1) := by decide +kernel
theorem dL_law_854 : decode cL_law 854 = .ok (.iadd, 1) := by decide +kernel
theorem dL_law_855 : decode cL_law 855 = .ok (.iaload, 1) := by decide +kernel
theorem dL_law_856 : decode cL_law 856 = .ok (.invokevirtual 100, 3) := by decide +kernel
theorem dL_law_859 : decode cL_law 859 = .ok (.if_icmp .eq 64, 3) := by decide +kernel
theorem dL_law_862 : decode cL_law 862 = .ok (.iconst 0, 1) := by decide +kernel
theorem dL_law_863 : decode cL_law 863 = .ok (.ireturn, 1) := by decide +kernel
theorem dL_law_864 : decode cL_law 864 = .ok (.aload_n 1, 1) := by decide +kernel
theorem dL_law_865 : decode cL_law 865 = .ok (.aload_n 0, 1) := by decide +kernel
theorem dL_law_866 : decode cL_law 866 = .ok (.iload_n 3, 1) := by decide +kernel
theorem dL_law_867 : decode cL_law 867 = .ok (.iconst 1, 1) := by decide +kernel
theorem dL_law_868 : decode cL_law 868 = .ok (.iadd, 1) := by decide +kernel
theorem dL_law_869 : decode cL_law 869 = .ok (.iaload, 1) := by decide +kernel
theorem dL_law_870 : decode cL_law 870 = .ok (.invokevirtual 101, 3) := by decide +kernel
theorem dL_law_873 : decode cL_law 873 = .ok (.aload_n 2, 1) := by decide +kernel
theorem dL_law_874 : decode cL_law 874 = .ok (.aload_n 0, 1) := by decide +kernel
theorem dL_law_875 : decode cL_law 875 = .ok (.iload_n 3, 1) := by decide +kernel
theorem dL_law_876 : decode cL_law 876 = .ok (.iconst 1, 1) := by decide +kernel
theorem dL_law_877 : decode cL_law 877 = .ok (.iadd, 1) := by decide +kernel
theorem dL_law_878 : decode cL_law 878 = .ok (.iaload, 1) := by decide +kernel
theorem dL_law_879 : decode cL_law 879 = .ok (.invokevirtual 104, 3) := by decide +kernel
theorem dL_law_882 : decode cL_law 882 = .ok (.if_icmp .eq 41, 3) := by decide +kernel
theorem dL_law_885 : decode cL_law 885 = .ok (.iconst 0, 1) := by decide +kernel
theorem dL_law_886 : decode cL_law 886 = .ok (.ireturn, 1) := by decide +kernel
theorem dL_law_887 : decode cL_law 887 = .ok (.aload_n 1, 1) := by decide +kernel
theorem dL_law_888 : decode cL_law 888 = .ok (.aload_n 0, 1) := by decide +kernel
theorem dL_law_889 : decode cL_law 889 = .ok (.iload_n 3, 1) := by decide +kernel
theorem dL_law_890 : decode cL_law 890 = .ok (.iconst 1, 1) := by decide +kernel
theorem dL_law_891 : decode cL_law 891 = .ok (.iadd, 1) := by decide +kernel
theorem dL_law_892 : decode cL_law 892 = .ok (.iaload, 1) := by decide +kernel
theorem dL_law_893 : decode cL_law 893 = .ok (.invokevirtual 105, 3) := by decide +kernel
theorem dL_law_896 : decode cL_law 896 = .ok (.aload_n 2, 1) := by decide +kernel
theorem dL_law_897 : decode cL_law 897 = .ok (.aload_n 0, 1) := by decide +kernel
theorem dL_law_898 : decode cL_law 898 = .ok (.iload_n 3, 1) := by decide +kernel
theorem dL_law_899 : decode cL_law 899 = .ok (.iconst 1, 1) := by decide +kernel
theorem dL_law_900 : decode cL_law 900 = .ok (.iadd, 1) := by decide +kernel
theorem dL_law_901 : decode cL_law 901 = .ok (.iaload, 1) := by decide +kernel
theorem dL_law_902 : decode cL_law 902 = .ok (.invokevirtual 108, 3) := by decide +kernel
theorem dL_law_905 : decode cL_law 905 = .ok (.if_icmp .eq 18, 3) := by decide +kernel
theorem dL_law_908 : decode cL_law 908 = .ok (.iconst 0, 1) := by decide +kernel
theorem dL_law_909 : decode cL_law 909 = .ok (.ireturn, 1) := by decide +kernel
theorem dL_law_910 : decode cL_law 910 = .ok (.aload_n 1, 1) := by decide +kernel
theorem dL_law_911 : decode cL_law 911 = .ok (.invokevirtual 109, 3) := by decide +kernel
theorem dL_law_914 : decode cL_law 914 = .ok (.aload_n 2, 1) := by decide +kernel
theorem dL_law_915 : decode cL_law 915 = .ok (.invokevirtual 113, 3) := by decide +kernel
theorem dL_law_918 : decode cL_law 918 = .ok (.if_icmp .eq 5, 3) := by decide +kernel
theorem dL_law_921 : decode cL_law 921 = .ok (.iconst 0, 1) := by decide +kernel
theorem dL_law_922 : decode cL_law 922 = .ok (.ireturn, 1) := by decide +kernel
theorem dL_law_923 : decode cL_law 923 = .ok (.iinc 3 6, 3) := by decide +kernel
theorem dL_law_926 : decode cL_law 926 = .ok (.goto (-908), 3) := by decide +kernel
theorem dL_law_929 : decode cL_law 929 = .ok (.iconst 1, 1) := by decide +kernel
theorem dL_law_930 : decode cL_law 930 = .ok (.ireturn, 1) := by decide +kernel
