theorem dX11_init_68 : decode cX11_init 68 = .ok (.dup, 1) := by decide +kernel
theorem dX11_init_69 : decode cX11_init 69 = .ok (.aload_n 0, 1) := by decide +kernel
theorem dX11_init_70 : decode cX11_init 70 = .ok (.getfield 30, 3) := by decide +kernel
theorem dX11_init_73 : decode cX11_init 73 = .ok (.aload_n 0, 1) := by decide +kernel
theorem dX11_init_74 : decode cX11_init 74 = .ok (.getfield 24, 3) := by decide +kernel
theorem dX11_init_77 : decode cX11_init 77 = .ok (.iconst 0, 1) := by decide +kernel
theorem dX11_init_78 : decode cX11_init 78 = .ok (.invokespecial 36, 3) := by decide +kernel
theorem dX11_init_81 : decode cX11_init 81 = .ok (.putfield 43, 3) := by decide +kernel
theorem dX11_init_84 : decode cX11_init 84 = .ok (.aload_n 0, 1) := by decide +kernel
theorem dX11_init_85 : decode cX11_init 85 = .ok (.new 34, 3) := by decide +kernel
theorem dX11_init_88 : decode cX11_init 88 = .ok (.dup, 1) := by decide +kernel
theorem dX11_init_89 : decode cX11_init 89 = .ok (.aload_n 0, 1) := by decide +kernel
theorem dX11_init_90 : decode cX11_init 90 = .ok (.getfield 30, 3) := by decide +kernel
theorem dX11_init_93 : decode cX11_init 93 = .ok (.aload_n 0, 1) := by decide +kernel
theorem dX11_init_94 : decode cX11_init 94 = .ok (.getfield 24, 3) := by decide +kernel
theorem dX11_init_97 : decode cX11_init 97 = .ok (.iconst 0, 1) := by decide +kernel
theorem dX11_init_98 : decode cX11_init 98 = .ok (.invokespecial 36, 3) := by decide +kernel
theorem dX11_init_101 : decode cX11_init 101 = .ok (.putfield 46, 3) := by decide +kernel
theorem dX11_init_104 : decode cX11_init 104 = .ok (.aload_n 0, 1) := by decide +kernel
theorem dX11_init_105 : decode cX11_init 105 = .ok (.getfield 39, 3) := by decide +kernel
theorem dX11_init_108 : decode cX11_init 108 = .ok (.aload_n 0, 1) := by decide +kernel
theorem dX11_init_109 : decode cX11_init 109 = .ok (.getfield 20, 3) := by decide +kernel
theorem dX11_init_112 : decode cX11_init 112 = .ok (.invokevirtual 49, 3) := by decide +kernel
theorem dX11_init_115 : decode cX11_init 115 = .ok (.return_, 1) := by decide +kernel
theorem dX11_grid_0 : decode cX11_grid 0 = .ok (.iload_n 1, 1) := by decide +kernel
theorem dX11_grid_1 : decode cX11_grid 1 = .ok (.invokestatic 53, 3) := by decide +kernel
theorem dX11_grid_4 : decode cX11_grid 4 = .ok (.ifCond .eq 15, 3) := by decide +kernel
theorem dX11_grid_7 : decode cX11_grid 7 = .ok (.iload_n 2, 1) := by decide +kernel
theorem dX11_grid_8 : decode cX11_grid 8 = .ok (.bipush 12, 2) := by decide +kernel
theorem dX11_grid_10 : decode cX11_grid 10 = .ok (.if_icmp .gt 9, 3) := by decide +kernel
theorem dX11_grid_13 : decode cX11_grid 13 = .ok (.iload_n 3, 1) := by decide +kernel
theorem dX11_grid_14 : decode cX11_grid 14 = .ok (.bipush 13, 2) := by decide +kernel
theorem dX11_grid_16 : decode cX11_grid 16 = .ok (.if_icmp .le 5, 3) := by decide +kernel
theorem dX11_grid_19 : decode cX11_grid 19 = .ok (.iconst (-1), 1) := by decide +kernel
theorem dX11_grid_20 : decode cX11_grid 20 = .ok (.ireturn, 1) := by decide +kernel
theorem dX11_grid_21 : decode cX11_grid 21 = .ok (.aload_n 0, 1) := by decide +kernel
theorem dX11_grid_22 : decode cX11_grid 22 = .ok (.getfield 39, 3) := by decide +kernel
theorem dX11_grid_25 : decode cX11_grid 25 = .ok (.getfield 57, 3) := by decide +kernel
theorem dX11_grid_28 : decode cX11_grid 28 = .ok (.iconst 1, 1) := by decide +kernel
theorem dX11_grid_29 : decode cX11_grid 29 = .ok (.if_icmp .ne 6, 3) := by decide +kernel
theorem dX11_grid_32 : decode cX11_grid 32 = .ok (.bipush (-2), 2) := by decide +kernel
theorem dX11_grid_34 : decode cX11_grid 34 = .ok (.ireturn, 1) := by decide +kernel
theorem dX11_grid_35 : decode cX11_grid 35 = .ok (.aload_n 0, 1) := by decide +kernel
theorem dX11_grid_36 : decode cX11_grid 36 = .ok (.getfield 30, 3) := by decide +kernel
theorem dX11_grid_39 : decode cX11_grid 39 = .ok (.getfield 60, 3) := by decide +kernel
theorem dX11_grid_42 : decode cX11_grid 42 = .ok (.bipush 6, 2) := by decide +kernel
theorem dX11_grid_44 : decode cX11_grid 44 = .ok (.if_icmp .lt 6, 3) := by decide +kernel
theorem dX11_grid_47 : decode cX11_grid 47 = .ok (.bipush (-3), 2) := by decide +kernel
theorem dX11_grid_49 : decode cX11_grid 49 = .ok (.ireturn, 1) := by decide +kernel
theorem dX11_grid_50 : decode cX11_grid 50 = .ok (.iload_n 2, 1) := by decide +kernel
theorem dX11_grid_51 : decode cX11_grid 51 = .ok (.ifCond .lt 7, 3) := by decide +kernel
theorem dX11_grid_54 : decode cX11_grid 54 = .ok (.iload_n 3, 1) := by decide +kernel
theorem dX11_grid_55 : decode cX11_grid 55 = .ok (.ifCond .ge 8, 3) := by decide +kernel
theorem dX11_grid_58 : decode cX11_grid 58 = .ok (.iconst 5, 1) := by decide +kernel
theorem dX11_grid_59 : decode cX11_grid 59 = .ok (.invokestatic 63, 3) := by decide +kernel
theorem dX11_grid_62 : decode cX11_grid 62 = .ok (.ireturn, 1) := by decide +kernel
theorem dX11_grid_63 : decode cX11_grid 63 = .ok (.new 67, 3) := by decide +kernel
theorem dX11_grid_66 : decode cX11_grid 66 = .ok (.dup, 1) := by decide +kernel
theorem dX11_grid_67 : decode cX11_grid 67 = .ok (.iload_n 1, 1) := by decide +kernel
theorem dX11_grid_68 : decode cX11_grid 68 = .ok (.iload_n 2, 1) := by decide +kernel
theorem dX11_grid_69 : decode cX11_grid 69 = .ok (.invokespecial 69, 3) := by decide +kernel
theorem dX11_grid_72 : decode cX11_grid 72 = .ok (.astore 4, 2) := by decide +kernel
theorem dX11_grid_74 : decode cX11_grid 74 = .ok (.iconst 0, 1) := by decide +kernel
theorem dX11_grid_75 : decode cX11_grid 75 = .ok (.istore 5, 2) := by decide +kernel
theorem dX11_grid_77 : decode cX11_grid 77 = .ok (.iload 5, 2) := by decide +kernel
theorem dX11_grid_79 : decode cX11_grid 79 = .ok (.iload_n 2, 1) := by decide +kernel
theorem dX11_grid_80 : decode cX11_grid 80 = .ok (.if_icmp .ge 22, 3) := by decide +kernel
theorem dX11_grid_83 : decode cX11_grid 83 = .ok (.aload 4, 2) := by decide +kernel
theorem dX11_grid_85 : decode cX11_grid 85 = .ok (.getfield 72, 3) := by decide +kernel
theorem dX11_grid_88 : decode cX11_grid 88 = .ok (.iload 5, 2) := by decide +kernel
theorem dX11_grid_90 : decode cX11_grid 90 = .ok (.iload_n 1, 1) := by decide +kernel
theorem dX11_grid_91 : decode cX11_grid 91 = .ok (.iload_n 3, 1) := by decide +kernel
theorem dX11_grid_92 : decode cX11_grid 92 = .ok (.invokestatic 76, 3) := by decide +kernel
theorem dX11_grid_95 : decode cX11_grid 95 = .ok (.aastore, 1) := by decide +kernel
theorem dX11_grid_96 : decode cX11_grid 96 = .ok (.iinc 5 1, 3) := by decide +kernel
theorem dX11_grid_99 : decode cX11_grid 99 = .ok (.goto (-22), 3) := by decide +kernel
theorem dX11_grid_102 : decode cX11_grid 102 = .ok (.aload_n 0, 1) := by decide +kernel
theorem dX11_grid_103 : decode cX11_grid 103 = .ok (.getfield 30, 3) := by decide +kernel
theorem dX11_grid_106 : decode cX11_grid 106 = .ok (.getfield 80, 3) := by decide +kernel
theorem dX11_grid_109 : decode cX11_grid 109 = .ok (.aload_n 0, 1) := by decide +kernel
theorem dX11_grid_110 : decode cX11_grid 110 = .ok (.getfield 30, 3) := by decide +kernel
theorem dX11_grid_113 : decode cX11_grid 113 = .ok (.getfield 60, 3) := by decide +kernel
theorem dX11_grid_116 : decode cX11_grid 116 = .ok (.aload 4, 2) := by decide +kernel
theorem dX11_grid_118 : decode cX11_grid 118 = .ok (.aastore, 1) := by decide +kernel
theorem dX11_grid_119 : decode cX11_grid 119 = .ok (.aload_n 0, 1) := by decide +kernel
theorem dX11_grid_120 : decode cX11_grid 120 = .ok (.getfield 30, 3) := by decide +kernel
theorem dX11_grid_123 : decode cX11_grid 123 = .ok (.dup, 1) := by decide +kernel
theorem dX11_grid_124 : decode cX11_grid 124 = .ok (.getfield 60, 3) := by decide +kernel
theorem dX11_grid_127 : decode cX11_grid 127 = .ok (.dup_x1, 1) := by decide +kernel
theorem dX11_grid_128 : decode cX11_grid 128 = .ok (.iconst 1, 1) := by decide +kernel
theorem dX11_grid_129 : decode cX11_grid 129 = .ok (.iadd, 1) := by decide +kernel
theorem dX11_grid_130 : decode cX11_grid 130 = .ok (.putfield 60, 3) := by decide +kernel
theorem dX11_grid_133 : decode cX11_grid 133 = .ok (.ireturn, 1) := by decide +kernel
theorem dX11_line_0 : decode cX11_line 0 = .ok (.aload_n 0, 1) := by decide +kernel
theorem dX11_line_1 : decode cX11_line 1 = .ok (.getfield 30, 3) := by decide +kernel
theorem dX11_line_4 : decode cX11_line 4 = .ok (.iload_n 1, 1) := by decide +kernel
theorem dX11_line_5 : decode cX11_line 5 = .ok (.invokevirtual 84, 3) := by decide +kernel
theorem dX11_line_8 : decode cX11_line 8 = .ok (.astore 4, 2) := by decide +kernel
theorem dX11_line_10 : decode cX11_line 10 = .ok (.aload 4, 2) := by decide +kernel
theorem dX11_line_12 : decode cX11_line 12 = .ok (.ifnull 9, 3) := by decide +kernel
theorem dX11_line_15 : decode cX11_line 15 = .ok (.iload_n 3, 1) := by decide +kernel
theorem dX11_line_16 : decode cX11_line 16 = .ok (.bipush 13, 2) := by decide +kernel
theorem dX11_line_18 : decode cX11_line 18 = .ok (.if_icmp .le 5, 3) := by decide +kernel
theorem dX11_line_21 : decode cX11_line 21 = .ok (.iconst (-1), 1) := by decide +kernel
theorem dX11_line_22 : decode cX11_line 22 = .ok (.ireturn, 1) := by decide +kernel
theorem dX11_line_23 : decode cX11_line 23 = .ok (.aload_n 0, 1) := by decide +kernel
theorem dX11_line_24 : decode cX11_line 24 = .ok (.getfield 39, 3) := by decide +kernel
theorem dX11_line_27 : decode cX11_line 27 = .ok (.getfield 57, 3) := by decide +kernel
theorem dX11_line_30 : decode cX11_line 30 = .ok (.iconst 1, 1) := by decide +kernel
theorem dX11_line_31 : decode cX11_line 31 = .ok (.if_icmp .ne 6, 3) := by decide +kernel
theorem dX11_line_34 : decode cX11_line 34 = .ok (.bipush (-2), 2) := by decide +kernel
theorem dX11_line_36 : decode cX11_line 36 = .ok (.ireturn, 1) := by decide +kernel
theorem dX11_line_37 : decode cX11_line 37 = .ok (.iload_n 3, 1) := by decide +kernel
theorem dX11_line_38 : decode cX11_line 38 = .ok (.ifCond .ge 8, 3) := by decide +kernel
theorem dX11_line_41 : decode cX11_line 41 = .ok (.iconst 5, 1) := by decide +kernel
theorem dX11_line_42 : decode cX11_line 42 = .ok (.invokestatic 63, 3) := by decide +kernel
theorem dX11_line_45 : decode cX11_line 45 = .ok (.ireturn, 1) := by decide +kernel
theorem dX11_line_46 : decode cX11_line 46 = .ok (.aload 4, 2) := by decide +kernel
theorem dX11_line_48 : decode cX11_line 48 = .ok (.iload_n 2, 1) := by decide +kernel
theorem dX11_line_49 : decode cX11_line 49 = .ok (.invokevirtual 88, 3) := by decide +kernel
theorem dX11_line_52 : decode cX11_line 52 = .ok (.ifCond .ne 8, 3) := by decide +kernel
theorem dX11_line_55 : decode cX11_line 55 = .ok (.iconst 2, 1) := by decide +kernel
theorem dX11_line_56 : decode cX11_line 56 = .ok (.invokestatic 63, 3) := by decide +kernel
theorem dX11_line_59 : decode cX11_line 59 = .ok (.ireturn, 1) := by decide +kernel
theorem dX11_line_60 : decode cX11_line 60 = .ok (.aload 4, 2) := by decide +kernel
theorem dX11_line_62 : decode cX11_line 62 = .ok (.getfield 72, 3) := by decide +kernel
theorem dX11_line_65 : decode cX11_line 65 = .ok (.iload_n 2, 1) := by decide +kernel
theorem dX11_line_66 : decode cX11_line 66 = .ok (.aload 4, 2) := by decide +kernel
theorem dX11_line_68 : decode cX11_line 68 = .ok (.getfield 91, 3) := by decide +kernel
theorem dX11_line_71 : decode cX11_line 71 = .ok (.iload_n 3, 1) := by decide +kernel
theorem dX11_line_72 : decode cX11_line 72 = .ok (.invokestatic 76, 3) := by decide +kernel
theorem dX11_line_75 : decode cX11_line 75 = .ok (.aastore, 1) := by decide +kernel
theorem dX11_line_76 : decode cX11_line 76 = .ok (.iload_n 3, 1) := by decide +kernel
theorem dX11_line_77 : decode cX11_line 77 = .ok (.ireturn, 1) := by decide +kernel
theorem dX11_put_0 : decode cX11_put 0 = .ok (.aload_n 0, 1) := by decide +kernel
theorem dX11_put_1 : decode cX11_put 1 = .ok (.getfield 30, 3) := by decide +kernel
theorem dX11_put_4 : decode cX11_put 4 = .ok (.iload_n 1, 1) := by decide +kernel
theorem dX11_put_5 : decode cX11_put 5 = .ok (.invokevirtual 84, 3) := by decide +kernel
theorem dX11_put_8 : decode cX11_put 8 = .ok (.astore 6, 2) := by decide +kernel
theorem dX11_put_10 : decode cX11_put 10 = .ok (.aload 6, 2) := by decide +kernel
theorem dX11_put_12 : decode cX11_put 12 = .ok (.ifnonnull 5, 3) := by decide +kernel
theorem dX11_put_15 : decode cX11_put 15 = .ok (.iconst (-1), 1) := by decide +kernel
theorem dX11_put_16 : decode cX11_put 16 = .ok (.ireturn, 1) := by decide +kernel
theorem dX11_put_17 : decode cX11_put 17 = .ok (.aload_n 0, 1) := by decide +kernel
theorem dX11_put_18 : decode cX11_put 18 = .ok (.getfield 39, 3) := by decide +kernel
theorem dX11_put_21 : decode cX11_put 21 = .ok (.getfield 57, 3) := by decide +kernel
theorem dX11_put_24 : decode cX11_put 24 = .ok (.iconst 1, 1) := by decide +kernel
theorem dX11_put_25 : decode cX11_put 25 = .ok (.if_icmp .ne 6, 3) := by decide +kernel
theorem dX11_put_28 : decode cX11_put 28 = .ok (.bipush (-2), 2) := by decide +kernel
theorem dX11_put_30 : decode cX11_put 30 = .ok (.ireturn, 1) := by decide +kernel
theorem dX11_put_31 : decode cX11_put 31 = .ok (.aload 6, 2) := by decide +kernel
theorem dX11_put_33 : decode cX11_put 33 = .ok (.iload_n 2, 1) := by decide +kernel
theorem dX11_put_34 : decode cX11_put 34 = .ok (.invokevirtual 94, 3) := by decide +kernel
theorem dX11_put_37 : decode cX11_put 37 = .ok (.istore 7, 2) := by decide +kernel
theorem dX11_put_39 : decode cX11_put 39 = .ok (.iload 7, 2) := by decide +kernel
theorem dX11_put_41 : decode cX11_put 41 = .ok (.ifCond .eq 9, 3) := by decide +kernel
theorem dX11_put_44 : decode cX11_put 44 = .ok (.iload 7, 2) := by decide +kernel
theorem dX11_put_46 : decode cX11_put 46 = .ok (.invokestatic 63, 3) := by decide +kernel
theorem dX11_put_49 : decode cX11_put 49 = .ok (.ireturn, 1) := by decide +kernel
theorem dX11_put_50 : decode cX11_put 50 = .ok (.aload 6, 2) := by decide +kernel
theorem dX11_put_52 : decode cX11_put 52 = .ok (.getfield 72, 3) := by decide +kernel
theorem dX11_put_55 : decode cX11_put 55 = .ok (.iload_n 2, 1) := by decide +kernel
theorem dX11_put_56 : decode cX11_put 56 = .ok (.aaload, 1) := by decide +kernel
theorem dX11_put_57 : decode cX11_put 57 = .ok (.astore 8, 2) := by decide +kernel
theorem dX11_put_59 : decode cX11_put 59 = .ok (.aload 8, 2) := by decide +kernel
theorem dX11_put_61 : decode cX11_put 61 = .ok (.iload_n 3, 1) := by decide +kernel
theorem dX11_put_62 : decode cX11_put 62 = .ok (.invokevirtual 97, 3) := by decide +kernel
theorem dX11_put_65 : decode cX11_put 65 = .ok (.ifCond .ne 8, 3) := by decide +kernel
theorem dX11_put_68 : decode cX11_put 68 = .ok (.iconst 2, 1) := by decide +kernel
theorem dX11_put_69 : decode cX11_put 69 = .ok (.invokestatic 63, 3) := by decide +kernel
theorem dX11_put_72 : decode cX11_put 72 = .ok (.ireturn, 1) := by decide +kernel
theorem dX11_put_73 : decode cX11_put 73 = .ok (.aload 8, 2) := by decide +kernel
theorem dX11_put_75 : decode cX11_put 75 = .ok (.getfield 100, 3) := by decide +kernel
theorem dX11_put_78 : decode cX11_put 78 = .ok (.iload_n 3, 1) := by decide +kernel
theorem dX11_put_79 : decode cX11_put 79 = .ok (.aload 8, 2) := by decide +kernel
theorem dX11_put_81 : decode cX11_put 81 = .ok (.getfield 104, 3) := by decide +kernel
theorem dX11_put_84 : decode cX11_put 84 = .ok (.lload 4, 2) := by decide +kernel
theorem dX11_put_86 : decode cX11_put 86 = .ok (.invokestatic 105, 3) := by decide +kernel
theorem dX11_put_89 : decode cX11_put 89 = .ok (.lastore, 1) := by decide +kernel
theorem dX11_put_90 : decode cX11_put 90 = .ok (.iconst 1, 1) := by decide +kernel
theorem dX11_put_91 : decode cX11_put 91 = .ok (.ireturn, 1) := by decide +kernel
theorem dX11_item_0 : decode cX11_item 0 = .ok (.aload_n 0, 1) := by decide +kernel
theorem dX11_item_1 : decode cX11_item 1 = .ok (.getfield 30, 3) := by decide +kernel
theorem dX11_item_4 : decode cX11_item 4 = .ok (.iload_n 1, 1) := by decide +kernel
theorem dX11_item_5 : decode cX11_item 5 = .ok (.invokevirtual 84, 3) := by decide +kernel
theorem dX11_item_8 : decode cX11_item 8 = .ok (.astore 5, 2) := by decide +kernel
theorem dX11_item_10 : decode cX11_item 10 = .ok (.aload 5, 2) := by decide +kernel
theorem dX11_item_12 : decode cX11_item 12 = .ok (.ifnull 21, 3) := by decide +kernel
theorem dX11_item_15 : decode cX11_item 15 = .ok (.aload 5, 2) := by decide +kernel
theorem dX11_item_17 : decode cX11_item 17 = .ok (.getfield 91, 3) := by decide +kernel
theorem dX11_item_20 : decode cX11_item 20 = .ok (.iload_n 2, 1) := by decide +kernel
theorem dX11_item_21 : decode cX11_item 21 = .ok (.if_icmp .ne 12, 3) := by decide +kernel
theorem dX11_item_24 : decode cX11_item 24 = .ok (.aload 5, 2) := by decide +kernel
theorem dX11_item_26 : decode cX11_item 26 = .ok (.iload_n 3, 1) := by decide +kernel
theorem dX11_item_27 : decode cX11_item 27 = .ok (.invokevirtual 94, 3) := by decide +kernel
theorem dX11_item_30 : decode cX11_item 30 = .ok (.ifCond .eq 7, 3) := by decide +kernel
theorem dX11_item_33 : decode cX11_item 33 = .ok (.ldc2_w 109, 3) := by decide +kernel
theorem dX11_item_36 : decode cX11_item 36 = .ok (.lreturn, 1) := by decide +kernel
theorem dX11_item_37 : decode cX11_item 37 = .ok (.aload 5, 2) := by decide +kernel
theorem dX11_item_39 : decode cX11_item 39 = .ok (.getfield 72, 3) := by decide +kernel
theorem dX11_item_42 : decode cX11_item 42 = .ok (.iload_n 3, 1) := by decide +kernel
theorem dX11_item_43 : decode cX11_item 43 = .ok (.aaload, 1) := by decide +kernel
theorem dX11_item_44 : decode cX11_item 44 = .ok (.astore 6, 2) := by decide +kernel
theorem dX11_item_46 : decode cX11_item 46 = .ok (.aload 6, 2) := by decide +kernel
theorem dX11_item_48 : decode cX11_item 48 = .ok (.iload 4, 2) := by decide +kernel
theorem dX11_item_50 : decode cX11_item 50 = .ok (.invokevirtual 97, 3) := by decide +kernel
theorem dX11_item_53 : decode cX11_item 53 = .ok (.ifCond .eq 14, 3) := by decide +kernel
theorem dX11_item_56 : decode cX11_item 56 = .ok (.aload 6, 2) := by decide +kernel
theorem dX11_item_58 : decode cX11_item 58 = .ok (.getfield 100, 3) := by decide +kernel
theorem dX11_item_61 : decode cX11_item 61 = .ok (.iload 4, 2) := by decide +kernel
theorem dX11_item_63 : decode cX11_item 63 = .ok (.laload, 1) := by decide +kernel
theorem dX11_item_64 : decode cX11_item 64 = .ok (.goto 6, 3) := by decide +kernel
theorem dX11_item_67 : decode cX11_item 67 = .ok (.ldc2_w 109, 3) := by decide +kernel
theorem dX11_item_70 : decode cX11_item 70 = .ok (.lreturn, 1) := by decide +kernel
theorem dX11_lay_0 : decode cX11_lay 0 = .ok (.aload_n 0, 1) := by decide +kernel
theorem dX11_lay_1 : decode cX11_lay 1 = .ok (.getfield 30, 3) := by decide +kernel
theorem dX11_lay_4 : decode cX11_lay 4 = .ok (.iload_n 1, 1) := by decide +kernel
theorem dX11_lay_5 : decode cX11_lay 5 = .ok (.invokevirtual 84, 3) := by decide +kernel
theorem dX11_lay_8 : decode cX11_lay 8 = .ok (.astore 5, 2) := by decide +kernel
theorem dX11_lay_10 : decode cX11_lay 10 = .ok (.aload_n 0, 1) := by decide +kernel
theorem dX11_lay_11 : decode cX11_lay 11 = .ok (.getfield 30, 3) := by decide +kernel
theorem dX11_lay_14 : decode cX11_lay 14 = .ok (.iload_n 3, 1) := by decide +kernel
theorem dX11_lay_15 : decode cX11_lay 15 = .ok (.invokevirtual 84, 3) := by decide +kernel
theorem dX11_lay_18 : decode cX11_lay 18 = .ok (.astore 6, 2) := by decide +kernel
theorem dX11_lay_20 : decode cX11_lay 20 = .ok (.aload 5, 2) := by decide +kernel
theorem dX11_lay_22 : decode cX11_lay 22 = .ok (.ifnull 8, 3) := by decide +kernel
theorem dX11_lay_25 : decode cX11_lay 25 = .ok (.aload 6, 2) := by decide +kernel
theorem dX11_lay_27 : decode cX11_lay 27 = .ok (.ifnonnull 5, 3) := by decide +kernel
theorem dX11_lay_30 : decode cX11_lay 30 = .ok (.iconst (-1), 1) := by decide +kernel
theorem dX11_lay_31 : decode cX11_lay 31 = .ok (.ireturn, 1) := by decide +kernel
theorem dX11_lay_32 : decode cX11_lay 32 = .ok (.aload_n 0, 1) := by decide +kernel
theorem dX11_lay_33 : decode cX11_lay 33 = .ok (.getfield 39, 3) := by decide +kernel
theorem dX11_lay_36 : decode cX11_lay 36 = .ok (.getfield 57, 3) := by decide +kernel
theorem dX11_lay_39 : decode cX11_lay 39 = .ok (.iconst 1, 1) := by decide +kernel
theorem dX11_lay_40 : decode cX11_lay 40 = .ok (.if_icmp .ne 6, 3) := by decide +kernel
theorem dX11_lay_43 : decode cX11_lay 43 = .ok (.bipush (-2), 2) := by decide +kernel
theorem dX11_lay_45 : decode cX11_lay 45 = .ok (.ireturn, 1) := by decide +kernel
theorem dX11_lay_46 : decode cX11_lay 46 = .ok (.aload 6, 2) := by decide +kernel
theorem dX11_lay_48 : decode cX11_lay 48 = .ok (.iload 4, 2) := by decide +kernel
theorem dX11_lay_50 : decode cX11_lay 50 = .ok (.invokevirtual 88, 3) := by decide +kernel
theorem dX11_lay_53 : decode cX11_lay 53 = .ok (.ifCond .eq 12, 3) := by decide +kernel
theorem dX11_lay_56 : decode cX11_lay 56 = .ok (.aload 5, 2) := by decide +kernel
theorem dX11_lay_58 : decode cX11_lay 58 = .ok (.iload_n 2, 1) := by decide +kernel
theorem dX11_lay_59 : decode cX11_lay 59 = .ok (.invokevirtual 88, 3) := by decide +kernel
theorem dX11_lay_62 : decode cX11_lay 62 = .ok (.ifCond .ne 8, 3) := by decide +kernel
theorem dX11_lay_65 : decode cX11_lay 65 = .ok (.iconst 2, 1) := by decide +kernel
theorem dX11_lay_66 : decode cX11_lay 66 = .ok (.invokestatic 63, 3) := by decide +kernel
theorem dX11_lay_69 : decode cX11_lay 69 = .ok (.ireturn, 1) := by decide +kernel
theorem dX11_lay_70 : decode cX11_lay 70 = .ok (.aload 6, 2) := by decide +kernel
theorem dX11_lay_72 : decode cX11_lay 72 = .ok (.getfield 72, 3) := by decide +kernel
theorem dX11_lay_75 : decode cX11_lay 75 = .ok (.iload 4, 2) := by decide +kernel
theorem dX11_lay_77 : decode cX11_lay 77 = .ok (.aaload, 1) := by decide +kernel
theorem dX11_lay_78 : decode cX11_lay 78 = .ok (.astore 7, 2) := by decide +kernel
theorem dX11_lay_80 : decode cX11_lay 80 = .ok (.aload 7, 2) := by decide +kernel
theorem dX11_lay_82 : decode cX11_lay 82 = .ok (.ifnull 21, 3) := by decide +kernel
theorem dX11_lay_85 : decode cX11_lay 85 = .ok (.aload 7, 2) := by decide +kernel
theorem dX11_lay_87 : decode cX11_lay 87 = .ok (.getfield 104, 3) := by decide +kernel
theorem dX11_lay_90 : decode cX11_lay 90 = .ok (.aload 5, 2) := by decide +kernel
theorem dX11_lay_92 : decode cX11_lay 92 = .ok (.getfield 91, 3) := by decide +kernel
theorem dX11_lay_95 : decode cX11_lay 95 = .ok (.if_icmp .eq 8, 3) := by decide +kernel
theorem dX11_lay_98 : decode cX11_lay 98 = .ok (.iconst 4, 1) := by decide +kernel
theorem dX11_lay_99 : decode cX11_lay 99 = .ok (.invokestatic 63, 3) := by decide +kernel
theorem dX11_lay_102 : decode cX11_lay 102 = .ok (.ireturn, 1) := by decide +kernel
theorem dX11_lay_103 : decode cX11_lay 103 = .ok (.aload 5, 2) := by decide +kernel
theorem dX11_lay_105 : decode cX11_lay 105 = .ok (.getfield 72, 3) := by decide +kernel
theorem dX11_lay_108 : decode cX11_lay 108 = .ok (.iload_n 2, 1) := by decide +kernel
theorem dX11_lay_109 : decode cX11_lay 109 = .ok (.aload 7, 2) := by decide +kernel
theorem dX11_lay_111 : decode cX11_lay 111 = .ok (.aastore, 1) := by decide +kernel
theorem dX11_lay_112 : decode cX11_lay 112 = .ok (.aload 7, 2) := by decide +kernel
theorem dX11_lay_114 : decode cX11_lay 114 = .ok (.ifnonnull 7, 3) := by decide +kernel
theorem dX11_lay_117 : decode cX11_lay 117 = .ok (.iconst 0, 1) := by decide +kernel
theorem dX11_lay_118 : decode cX11_lay 118 = .ok (.goto 4, 3) := by decide +kernel
theorem dX11_lay_121 : decode cX11_lay 121 = .ok (.iconst 1, 1) := by decide +kernel
theorem dX11_lay_122 : decode cX11_lay 122 = .ok (.ireturn, 1) := by decide +kernel
theorem dX11_size_0 : decode cX11_size 0 = .ok (.aload_n 0, 1) := by decide +kernel
theorem dX11_size_1 : decode cX11_size 1 = .ok (.getfield 30, 3) := by decide +kernel
theorem dX11_size_4 : decode cX11_size 4 = .ok (.iload_n 1, 1) := by decide +kernel
theorem dX11_size_5 : decode cX11_size 5 = .ok (.invokevirtual 84, 3) := by decide +kernel
theorem dX11_size_8 : decode cX11_size 8 = .ok (.astore_n 3, 1) := by decide +kernel
theorem dX11_size_9 : decode cX11_size 9 = .ok (.aload_n 3, 1) := by decide +kernel
theorem dX11_size_10 : decode cX11_size 10 = .ok (.ifnonnull 5, 3) := by decide +kernel
theorem dX11_size_13 : decode cX11_size 13 = .ok (.iconst (-1), 1) := by decide +kernel
theorem dX11_size_14 : decode cX11_size 14 = .ok (.ireturn, 1) := by decide +kernel
theorem dX11_size_15 : decode cX11_size 15 = .ok (.iload_n 2, 1) := by decide +kernel
theorem dX11_size_16 : decode cX11_size 16 = .ok (.iconst (-1), 1) := by decide +kernel
theorem dX11_size_17 : decode cX11_size 17 = .ok (.if_icmp .ne 9, 3) := by decide +kernel
theorem dX11_size_20 : decode cX11_size 20 = .ok (.aload_n 3, 1) := by decide +kernel
theorem dX11_size_21 : decode cX11_size 21 = .ok (.getfield 72, 3) := by decide +kernel
theorem dX11_size_24 : decode cX11_size 24 = .ok (.arraylength, 1) := by decide +kernel
theorem dX11_size_25 : decode cX11_size 25 = .ok (.ireturn, 1) := by decide +kernel
theorem dX11_size_26 : decode cX11_size 26 = .ok (.aload_n 3, 1) := by decide +kernel
theorem dX11_size_27 : decode cX11_size 27 = .ok (.iload_n 2, 1) := by decide +kernel
theorem dX11_size_28 : decode cX11_size 28 = .ok (.invokevirtual 94, 3) := by decide +kernel
theorem dX11_size_31 : decode cX11_size 31 = .ok (.istore 4, 2) := by decide +kernel
theorem dX11_size_33 : decode cX11_size 33 = .ok (.iload 4, 2) := by decide +kernel
theorem dX11_size_35 : decode cX11_size 35 = .ok (.ifCond .eq 11, 3) := by decide +kernel
theorem dX11_size_38 : decode cX11_size 38 = .ok (.iload 4, 2) := by decide +kernel
theorem dX11_size_40 : decode cX11_size 40 = .ok (.invokestatic 63, 3) := by decide +kernel
theorem dX11_size_43 : decode cX11_size 43 = .ok (.goto 13, 3) := by decide +kernel
theorem dX11_size_46 : decode cX11_size 46 = .ok (.aload_n 3, 1) := by decide +kernel
theorem dX11_size_47 : decode cX11_size 47 = .ok (.getfield 72, 3) := by decide +kernel
theorem dX11_size_50 : decode cX11_size 50 = .ok (.iload_n 2, 1) := by decide +kernel
theorem dX11_size_51 : decode cX11_size 51 = .ok (.aaload, 1) := by decide +kernel
theorem dX11_size_52 : decode cX11_size 52 = .ok (.getfield 100, 3) := by decide +kernel
theorem dX11_size_55 : decode cX11_size 55 = .ok (.arraylength, 1) := by decide +kernel
theorem dX11_size_56 : decode cX11_size 56 = .ok (.ireturn, 1) := by decide +kernel
theorem dX11_way_0 : decode cX11_way 0 = .ok (.iload_n 2, 1) := by decide +kernel
theorem dX11_way_1 : decode cX11_way 1 = .ok (.iconst 1, 1) := by decide +kernel
theorem dX11_way_2 : decode cX11_way 2 = .ok (.if_icmp .lt 22, 3) := by decide +kernel
theorem dX11_way_5 : decode cX11_way 5 = .ok (.iload_n 2, 1) := by decide +kernel
theorem dX11_way_6 : decode cX11_way 6 = .ok (.ldc 111, 2) := by decide +kernel
theorem dX11_way_8 : decode cX11_way 8 = .ok (.if_icmp .gt 16, 3) := by decide +kernel
theorem dX11_way_11 : decode cX11_way 11 = .ok (.lload_n 3, 1) := by decide +kernel
theorem dX11_way_12 : decode cX11_way 12 = .ok (.ldc2_w 109, 3) := by decide +kernel
theorem dX11_way_15 : decode cX11_way 15 = .ok (.lcmp, 1) := by decide +kernel
theorem dX11_way_16 : decode cX11_way 16 = .ok (.ifCond .eq 8, 3) := by decide +kernel
theorem dX11_way_19 : decode cX11_way 19 = .ok (.iload 5, 2) := by decide +kernel
theorem dX11_way_21 : decode cX11_way 21 = .ok (.ifCond .ge 5, 3) := by decide +kernel
theorem dX11_way_24 : decode cX11_way 24 = .ok (.iconst (-1), 1) := by decide +kernel
theorem dX11_way_25 : decode cX11_way 25 = .ok (.ireturn, 1) := by decide +kernel
theorem dX11_way_26 : decode cX11_way 26 = .ok (.aload_n 0, 1) := by decide +kernel
theorem dX11_way_27 : decode cX11_way 27 = .ok (.iload 6, 2) := by decide +kernel
theorem dX11_way_29 : decode cX11_way 29 = .ok (.iload 7, 2) := by decide +kernel
theorem dX11_way_31 : decode cX11_way 31 = .ok (.invokevirtual 112, 3) := by decide +kernel
theorem dX11_way_34 : decode cX11_way 34 = .ok (.ifCond .ne 5, 3) := by decide +kernel
theorem dX11_way_37 : decode cX11_way 37 = .ok (.iconst (-1), 1) := by decide +kernel
theorem dX11_way_38 : decode cX11_way 38 = .ok (.ireturn, 1) := by decide +kernel
theorem dX11_way_39 : decode cX11_way 39 = .ok (.aload_n 0, 1) := by decide +kernel
theorem dX11_way_40 : decode cX11_way 40 = .ok (.invokevirtual 116, 3) := by decide +kernel
theorem dX11_way_43 : decode cX11_way 43 = .ok (.istore 8, 2) := by decide +kernel
theorem dX11_way_45 : decode cX11_way 45 = .ok (.iload 8, 2) := by decide +kernel
theorem dX11_way_47 : decode cX11_way 47 = .ok (.ifCond .eq 6, 3) := by decide +kernel
theorem dX11_way_50 : decode cX11_way 50 = .ok (.iload 8, 2) := by decide +kernel
theorem dX11_way_52 : decode cX11_way 52 = .ok (.ireturn, 1) := by decide +kernel
theorem dX11_way_53 : decode cX11_way 53 = .ok (.aload_n 0, 1) := by decide +kernel
theorem dX11_way_54 : decode cX11_way 54 = .ok (.getfield 30, 3) := by decide +kernel
theorem dX11_way_57 : decode cX11_way 57 = .ok (.new 120, 3) := by decide +kernel
theorem dX11_way_60 : decode cX11_way 60 = .ok (.dup, 1) := by decide +kernel
theorem dX11_way_61 : decode cX11_way 61 = .ok (.iload_n 1, 1) := by decide +kernel
theorem dX11_way_62 : decode cX11_way 62 = .ok (.iload_n 2, 1) := by decide +kernel
theorem dX11_way_63 : decode cX11_way 63 = .ok (.lload_n 3, 1) := by decide +kernel
theorem dX11_way_64 : decode cX11_way 64 = .ok (.iload 5, 2) := by decide +kernel
theorem dX11_way_66 : decode cX11_way 66 = .ok (.iload 6, 2) := by decide +kernel
theorem dX11_way_68 : decode cX11_way 68 = .ok (.iload 7, 2) := by decide +kernel
theorem dX11_way_70 : decode cX11_way 70 = .ok (.invokespecial 122, 3) := by decide +kernel
theorem dX11_way_73 : decode cX11_way 73 = .ok (.invokevirtual 125, 3) := by decide +kernel
theorem dX11_way_76 : decode cX11_way 76 = .ok (.ireturn, 1) := by decide +kernel
theorem dX11_reader_0 : decode cX11_reader 0 = .ok (.aload_n 0, 1) := by decide +kernel
theorem dX11_reader_1 : decode cX11_reader 1 = .ok (.getfield 30, 3) := by decide +kernel
theorem dX11_reader_4 : decode cX11_reader 4 = .ok (.iload_n 2, 1) := by decide +kernel
theorem dX11_reader_5 : decode cX11_reader 5 = .ok (.invokevirtual 84, 3) := by decide +kernel
theorem dX11_reader_8 : decode cX11_reader 8 = .ok (.astore 6, 2) := by decide +kernel
theorem dX11_reader_10 : decode cX11_reader 10 = .ok (.aload 6, 2) := by decide +kernel
theorem dX11_reader_12 : decode cX11_reader 12 = .ok (.ifnull 21, 3) := by decide +kernel
theorem dX11_reader_15 : decode cX11_reader 15 = .ok (.iload_n 3, 1) := by decide +kernel
theorem dX11_reader_16 : decode cX11_reader 16 = .ok (.invokestatic 53, 3) := by decide +kernel
theorem dX11_reader_19 : decode cX11_reader 19 = .ok (.ifCond .eq 14, 3) := by decide +kernel
theorem dX11_reader_22 : decode cX11_reader 22 = .ok (.aload_n 0, 1) := by decide +kernel
theorem dX11_reader_23 : decode cX11_reader 23 = .ok (.iload 4, 2) := by decide +kernel
theorem dX11_reader_25 : decode cX11_reader 25 = .ok (.iload 5, 2) := by decide +kernel
theorem dX11_reader_27 : decode cX11_reader 27 = .ok (.invokevirtual 112, 3) := by decide +kernel
theorem dX11_reader_30 : decode cX11_reader 30 = .ok (.ifCond .ne 5, 3) := by decide +kernel
theorem dX11_reader_33 : decode cX11_reader 33 = .ok (.iconst (-1), 1) := by decide +kernel
theorem dX11_reader_34 : decode cX11_reader 34 = .ok (.ireturn, 1) := by decide +kernel
theorem dX11_reader_35 : decode cX11_reader 35 = .ok (.aload_n 0, 1) := by decide +kernel
theorem dX11_reader_36 : decode cX11_reader 36 = .ok (.invokevirtual 116, 3) := by decide +kernel
theorem dX11_reader_39 : decode cX11_reader 39 = .ok (.istore 7, 2) := by decide +kernel
theorem dX11_reader_41 : decode cX11_reader 41 = .ok (.iload 7, 2) := by decide +kernel
theorem dX11_reader_43 : decode cX11_reader 43 = .ok (.ifCond .eq 6, 3) := by decide +kernel
theorem dX11_reader_46 : decode cX11_reader 46 = .ok (.iload 7, 2) := by decide +kernel
theorem dX11_reader_48 : decode cX11_reader 48 = .ok (.ireturn, 1) := by decide +kernel
theorem dX11_reader_49 : decode cX11_reader 49 = .ok (.aload_n 0, 1) := by decide +kernel
theorem dX11_reader_50 : decode cX11_reader 50 = .ok (.getfield 30, 3) := by decide +kernel
theorem dX11_reader_53 : decode cX11_reader 53 = .ok (.new 129, 3) := by decide +kernel
theorem dX11_reader_56 : decode cX11_reader 56 = .ok (.dup, 1) := by decide +kernel
theorem dX11_reader_57 : decode cX11_reader 57 = .ok (.iload_n 1, 1) := by decide +kernel
theorem dX11_reader_58 : decode cX11_reader 58 = .ok (.aload 6, 2) := by decide +kernel
theorem dX11_reader_60 : decode cX11_reader 60 = .ok (.iload_n 3, 1) := by decide +kernel
theorem dX11_reader_61 : decode cX11_reader 61 = .ok (.iload 4, 2) := by decide +kernel
theorem dX11_reader_63 : decode cX11_reader 63 = .ok (.iload 5, 2) := by decide +kernel
theorem dX11_reader_65 : decode cX11_reader 65 = .ok (.invokespecial 131, 3) := by decide +kernel
theorem dX11_reader_68 : decode cX11_reader 68 = .ok (.invokevirtual 125, 3) := by decide +kernel
theorem dX11_reader_71 : decode cX11_reader 71 = .ok (.ireturn, 1) := by decide +kernel
theorem dX11_search_0 : decode cX11_search 0 = .ok (.aload_n 0, 1) := by decide +kernel
theorem dX11_search_1 : decode cX11_search 1 = .ok (.getfield 30, 3) := by decide +kernel
theorem dX11_search_4 : decode cX11_search 4 = .ok (.iload_n 1, 1) := by decide +kernel
theorem dX11_search_5 : decode cX11_search 5 = .ok (.invokevirtual 84, 3) := by decide +kernel
theorem dX11_search_8 : decode cX11_search 8 = .ok (.astore 6, 2) := by decide +kernel
theorem dX11_search_10 : decode cX11_search 10 = .ok (.aload 6, 2) := by decide +kernel
theorem dX11_search_12 : decode cX11_search 12 = .ok (.ifnull 10, 3) := by decide +kernel
theorem dX11_search_15 : decode cX11_search 15 = .ok (.iload_n 2, 1) := by decide +kernel
theorem dX11_search_16 : decode cX11_search 16 = .ok (.invokestatic 53, 3) := by decide +kernel
theorem dX11_search_19 : decode cX11_search 19 = .ok (.ifCond .ne 5, 3) := by decide +kernel
theorem dX11_search_22 : decode cX11_search 22 = .ok (.iconst (-1), 1) := by decide +kernel
theorem dX11_search_23 : decode cX11_search 23 = .ok (.ireturn, 1) := by decide +kernel
theorem dX11_search_24 : decode cX11_search 24 = .ok (.iload_n 3, 1) := by decide +kernel
theorem dX11_search_25 : decode cX11_search 25 = .ok (.ifCond .lt 16, 3) := by decide +kernel
theorem dX11_search_28 : decode cX11_search 28 = .ok (.iload_n 3, 1) := by decide +kernel
theorem dX11_search_29 : decode cX11_search 29 = .ok (.bipush 100, 2) := by decide +kernel
theorem dX11_search_31 : decode cX11_search 31 = .ok (.if_icmp .gt 10, 3) := by decide +kernel
theorem dX11_search_34 : decode cX11_search 34 = .ok (.lload 4, 2) := by decide +kernel
theorem dX11_search_36 : decode cX11_search 36 = .ok (.lconst 0, 1) := by decide +kernel
theorem dX11_search_37 : decode cX11_search 37 = .ok (.lcmp, 1) := by decide +kernel
theorem dX11_search_38 : decode cX11_search 38 = .ok (.ifCond .ge 5, 3) := by decide +kernel
theorem dX11_search_41 : decode cX11_search 41 = .ok (.iconst (-1), 1) := by decide +kernel
theorem dX11_search_42 : decode cX11_search 42 = .ok (.ireturn, 1) := by decide +kernel
theorem dX11_search_43 : decode cX11_search 43 = .ok (.aload_n 0, 1) := by decide +kernel
theorem dX11_search_44 : decode cX11_search 44 = .ok (.getfield 39, 3) := by decide +kernel
theorem dX11_search_47 : decode cX11_search 47 = .ok (.getfield 57, 3) := by decide +kernel
theorem dX11_search_50 : decode cX11_search 50 = .ok (.iconst 1, 1) := by decide +kernel
theorem dX11_search_51 : decode cX11_search 51 = .ok (.if_icmp .ne 6, 3) := by decide +kernel
theorem dX11_search_54 : decode cX11_search 54 = .ok (.bipush (-2), 2) := by decide +kernel
theorem dX11_search_56 : decode cX11_search 56 = .ok (.ireturn, 1) := by decide +kernel
theorem dX11_search_57 : decode cX11_search 57 = .ok (.aload_n 0, 1) := by decide +kernel
theorem dX11_search_58 : decode cX11_search 58 = .ok (.getfield 30, 3) := by decide +kernel
theorem dX11_search_61 : decode cX11_search 61 = .ok (.getfield 134, 3) := by decide +kernel
theorem dX11_search_64 : decode cX11_search 64 = .ok (.bipush 8, 2) := by decide +kernel
theorem dX11_search_66 : decode cX11_search 66 = .ok (.if_icmp .lt 6, 3) := by decide +kernel
theorem dX11_search_69 : decode cX11_search 69 = .ok (.bipush (-3), 2) := by decide +kernel
theorem dX11_search_71 : decode cX11_search 71 = .ok (.ireturn, 1) := by decide +kernel
theorem dX11_search_72 : decode cX11_search 72 = .ok (.aload_n 0, 1) := by decide +kernel
theorem dX11_search_73 : decode cX11_search 73 = .ok (.getfield 30, 3) := by decide +kernel
theorem dX11_search_76 : decode cX11_search 76 = .ok (.getfield 137, 3) := by decide +kernel
theorem dX11_search_79 : decode cX11_search 79 = .ok (.aload_n 0, 1) := by decide +kernel
theorem dX11_search_80 : decode cX11_search 80 = .ok (.getfield 30, 3) := by decide +kernel
theorem dX11_search_83 : decode cX11_search 83 = .ok (.getfield 134, 3) := by decide +kernel
theorem dX11_search_86 : decode cX11_search 86 = .ok (.new 141, 3) := by decide +kernel
theorem dX11_search_89 : decode cX11_search 89 = .ok (.dup, 1) := by decide +kernel
theorem dX11_search_90 : decode cX11_search 90 = .ok (.aload 6, 2) := by decide +kernel
theorem dX11_search_92 : decode cX11_search 92 = .ok (.iload_n 2, 1) := by decide +kernel
theorem dX11_search_93 : decode cX11_search 93 = .ok (.iload_n 3, 1) := by decide +kernel
theorem dX11_search_94 : decode cX11_search 94 = .ok (.lload 4, 2) := by decide +kernel
theorem dX11_search_96 : decode cX11_search 96 = .ok (.invokespecial 143, 3) := by decide +kernel
theorem dX11_search_99 : decode cX11_search 99 = .ok (.aastore, 1) := by decide +kernel
theorem dX11_search_100 : decode cX11_search 100 = .ok (.aload_n 0, 1) := by decide +kernel
theorem dX11_search_101 : decode cX11_search 101 = .ok (.getfield 39, 3) := by decide +kernel
theorem dX11_search_104 : decode cX11_search 104 = .ok (.getfield 146, 3) := by decide +kernel
theorem dX11_search_107 : decode cX11_search 107 = .ok (.aload_n 0, 1) := by decide +kernel
theorem dX11_search_108 : decode cX11_search 108 = .ok (.getfield 30, 3) := by decide +kernel
theorem dX11_search_111 : decode cX11_search 111 = .ok (.getfield 134, 3) := by decide +kernel
theorem dX11_search_114 : decode cX11_search 114 = .ok (.aaload, 1) := by decide +kernel
theorem dX11_search_115 : decode cX11_search 115 = .ok (.lload 4, 2) := by decide +kernel
theorem dX11_search_117 : decode cX11_search 117 = .ok (.invokevirtual 150, 3) := by decide +kernel
theorem dX11_search_120 : decode cX11_search 120 = .ok (.aload_n 0, 1) := by decide +kernel
theorem dX11_search_121 : decode cX11_search 121 = .ok (.getfield 30, 3) := by decide +kernel
theorem dX11_search_124 : decode cX11_search 124 = .ok (.dup, 1) := by decide +kernel
theorem dX11_search_125 : decode cX11_search 125 = .ok (.getfield 134, 3) := by decide +kernel
theorem dX11_search_128 : decode cX11_search 128 = .ok (.dup_x1, 1) := by decide +kernel
theorem dX11_search_129 : decode cX11_search 129 = .ok (.iconst 1, 1) := by decide +kernel
theorem dX11_search_130 : decode cX11_search 130 = .ok (.iadd, 1) := by decide +kernel
theorem dX11_search_131 : decode cX11_search 131 = .ok (.putfield 134, 3) := by decide +kernel
theorem dX11_search_134 : decode cX11_search 134 = .ok (.ireturn, 1) := by decide +kernel
theorem dX11_share_0 : decode cX11_share 0 = .ok (.iload_n 1, 1) := by decide +kernel
theorem dX11_share_1 : decode cX11_share 1 = .ok (.ifCond .lt 14, 3) := by decide +kernel
theorem dX11_share_4 : decode cX11_share 4 = .ok (.iload_n 1, 1) := by decide +kernel
theorem dX11_share_5 : decode cX11_share 5 = .ok (.aload_n 0, 1) := by decide +kernel
theorem dX11_share_6 : decode cX11_share 6 = .ok (.getfield 30, 3) := by decide +kernel
theorem dX11_share_9 : decode cX11_share 9 = .ok (.getfield 134, 3) := by decide +kernel
theorem dX11_share_12 : decode cX11_share 12 = .ok (.if_icmp .lt 5, 3) := by decide +kernel
theorem dX11_share_15 : decode cX11_share 15 = .ok (.iconst (-1), 1) := by decide +kernel
theorem dX11_share_16 : decode cX11_share 16 = .ok (.ireturn, 1) := by decide +kernel
theorem dX11_share_17 : decode cX11_share 17 = .ok (.iload_n 2, 1) := by decide +kernel
theorem dX11_share_18 : decode cX11_share 18 = .ok (.ifCond .lt 14, 3) := by decide +kernel
theorem dX11_share_21 : decode cX11_share 21 = .ok (.iload_n 2, 1) := by decide +kernel
theorem dX11_share_22 : decode cX11_share 22 = .ok (.iload_n 3, 1) := by decide +kernel
theorem dX11_share_23 : decode cX11_share 23 = .ok (.if_icmp .gt 9, 3) := by decide +kernel
theorem dX11_share_26 : decode cX11_share 26 = .ok (.iload_n 3, 1) := by decide +kernel
theorem dX11_share_27 : decode cX11_share 27 = .ok (.bipush 20, 2) := by decide +kernel
theorem dX11_share_29 : decode cX11_share 29 = .ok (.if_icmp .le 5, 3) := by decide +kernel
theorem dX11_share_32 : decode cX11_share 32 = .ok (.iconst (-1), 1) := by decide +kernel
theorem dX11_share_33 : decode cX11_share 33 = .ok (.ireturn, 1) := by decide +kernel
theorem dX11_share_34 : decode cX11_share 34 = .ok (.aload_n 0, 1) := by decide +kernel
theorem dX11_share_35 : decode cX11_share 35 = .ok (.iload 4, 2) := by decide +kernel
theorem dX11_share_37 : decode cX11_share 37 = .ok (.iload 5, 2) := by decide +kernel
theorem dX11_share_39 : decode cX11_share 39 = .ok (.invokevirtual 112, 3) := by decide +kernel
theorem dX11_share_42 : decode cX11_share 42 = .ok (.ifCond .ne 5, 3) := by decide +kernel
theorem dX11_share_45 : decode cX11_share 45 = .ok (.iconst (-1), 1) := by decide +kernel
theorem dX11_share_46 : decode cX11_share 46 = .ok (.ireturn, 1) := by decide +kernel
theorem dX11_share_47 : decode cX11_share 47 = .ok (.aload_n 0, 1) := by decide +kernel
theorem dX11_share_48 : decode cX11_share 48 = .ok (.invokevirtual 116, 3) := by decide +kernel
theorem dX11_share_51 : decode cX11_share 51 = .ok (.istore 6, 2) := by decide +kernel
theorem dX11_share_53 : decode cX11_share 53 = .ok (.iload 6, 2) := by decide +kernel
theorem dX11_share_55 : decode cX11_share 55 = .ok (.ifCond .eq 6, 3) := by decide +kernel
theorem dX11_share_58 : decode cX11_share 58 = .ok (.iload 6, 2) := by decide +kernel
theorem dX11_share_60 : decode cX11_share 60 = .ok (.ireturn, 1) := by decide +kernel
theorem dX11_share_61 : decode cX11_share 61 = .ok (.new 155, 3) := by decide +kernel
theorem dX11_share_64 : decode cX11_share 64 = .ok (.dup, 1) := by decide +kernel
theorem dX11_share_65 : decode cX11_share 65 = .ok (.aload_n 0, 1) := by decide +kernel
theorem dX11_share_66 : decode cX11_share 66 = .ok (.getfield 30, 3) := by decide +kernel
theorem dX11_share_69 : decode cX11_share 69 = .ok (.getfield 137, 3) := by decide +kernel
theorem dX11_share_72 : decode cX11_share 72 = .ok (.iload_n 1, 1) := by decide +kernel
theorem dX11_share_73 : decode cX11_share 73 = .ok (.aaload, 1) := by decide +kernel
theorem dX11_share_74 : decode cX11_share 74 = .ok (.iload_n 1, 1) := by decide +kernel
theorem dX11_share_75 : decode cX11_share 75 = .ok (.iload_n 2, 1) := by decide +kernel
theorem dX11_share_76 : decode cX11_share 76 = .ok (.iload_n 3, 1) := by decide +kernel
theorem dX11_share_77 : decode cX11_share 77 = .ok (.iload 4, 2) := by decide +kernel
theorem dX11_share_79 : decode cX11_share 79 = .ok (.iload 5, 2) := by decide +kernel
theorem dX11_share_81 : decode cX11_share 81 = .ok (.invokespecial 157, 3) := by decide +kernel
theorem dX11_share_84 : decode cX11_share 84 = .ok (.astore 7, 2) := by decide +kernel
theorem dX11_share_86 : decode cX11_share 86 = .ok (.aload_n 0, 1) := by decide +kernel
theorem dX11_share_87 : decode cX11_share 87 = .ok (.getfield 30, 3) := by decide +kernel
theorem dX11_share_90 : decode cX11_share 90 = .ok (.aload 7, 2) := by decide +kernel
theorem dX11_share_92 : decode cX11_share 92 = .ok (.invokevirtual 125, 3) := by decide +kernel
theorem dX11_share_95 : decode cX11_share 95 = .ok (.ireturn, 1) := by decide +kernel
theorem dX11_turn_0 : decode cX11_turn 0 = .ok (.aload_n 0, 1) := by decide +kernel
theorem dX11_turn_1 : decode cX11_turn 1 = .ok (.iload_n 1, 1) := by decide +kernel
theorem dX11_turn_2 : decode cX11_turn 2 = .ok (.invokevirtual 160, 3) := by decide +kernel
theorem dX11_turn_5 : decode cX11_turn 5 = .ok (.ifCond .ne 5, 3) := by decide +kernel
theorem dX11_turn_8 : decode cX11_turn 8 = .ok (.iconst (-1), 1) := by decide +kernel
theorem dX11_turn_9 : decode cX11_turn 9 = .ok (.ireturn, 1) := by decide +kernel
theorem dX11_turn_10 : decode cX11_turn 10 = .ok (.aload_n 0, 1) := by decide +kernel
theorem dX11_turn_11 : decode cX11_turn 11 = .ok (.getfield 39, 3) := by decide +kernel
theorem dX11_turn_14 : decode cX11_turn 14 = .ok (.getfield 57, 3) := by decide +kernel
theorem dX11_turn_17 : decode cX11_turn 17 = .ok (.iconst 1, 1) := by decide +kernel
theorem dX11_turn_18 : decode cX11_turn 18 = .ok (.if_icmp .ne 6, 3) := by decide +kernel
theorem dX11_turn_21 : decode cX11_turn 21 = .ok (.bipush (-2), 2) := by decide +kernel
theorem dX11_turn_23 : decode cX11_turn 23 = .ok (.ireturn, 1) := by decide +kernel
theorem dX11_turn_24 : decode cX11_turn 24 = .ok (.aload_n 0, 1) := by decide +kernel
theorem dX11_turn_25 : decode cX11_turn 25 = .ok (.getfield 30, 3) := by decide +kernel
theorem dX11_turn_28 : decode cX11_turn 28 = .ok (.getfield 163, 3) := by decide +kernel
theorem dX11_turn_31 : decode cX11_turn 31 = .ok (.sipush 400, 3) := by decide +kernel
theorem dX11_turn_34 : decode cX11_turn 34 = .ok (.if_icmp .lt 6, 3) := by decide +kernel
theorem dX11_turn_37 : decode cX11_turn 37 = .ok (.bipush (-3), 2) := by decide +kernel
theorem dX11_turn_39 : decode cX11_turn 39 = .ok (.ireturn, 1) := by decide +kernel
theorem dX11_turn_40 : decode cX11_turn 40 = .ok (.aload_n 0, 1) := by decide +kernel
theorem dX11_turn_41 : decode cX11_turn 41 = .ok (.getfield 30, 3) := by decide +kernel
theorem dX11_turn_44 : decode cX11_turn 44 = .ok (.getfield 166, 3) := by decide +kernel
theorem dX11_turn_47 : decode cX11_turn 47 = .ok (.aload_n 0, 1) := by decide +kernel
theorem dX11_turn_48 : decode cX11_turn 48 = .ok (.getfield 30, 3) := by decide +kernel
theorem dX11_turn_51 : decode cX11_turn 51 = .ok (.getfield 163, 3) := by decide +kernel
theorem dX11_turn_54 : decode cX11_turn 54 = .ok (.iload_n 1, 1) := by decide +kernel
theorem dX11_turn_55 : decode cX11_turn 55 = .ok (.iastore, 1) := by decide +kernel
theorem dX11_turn_56 : decode cX11_turn 56 = .ok (.aload_n 0, 1) := by decide +kernel
theorem dX11_turn_57 : decode cX11_turn 57 = .ok (.getfield 30, 3) := by decide +kernel
theorem dX11_turn_60 : decode cX11_turn 60 = .ok (.dup, 1) := by decide +kernel
theorem dX11_turn_61 : decode cX11_turn 61 = .ok (.getfield 163, 3) := by decide +kernel
theorem dX11_turn_64 : decode cX11_turn 64 = .ok (.iconst 1, 1) := by decide +kernel
theorem dX11_turn_65 : decode cX11_turn 65 = .ok (.iadd, 1) := by decide +kernel
theorem dX11_turn_66 : decode cX11_turn 66 = .ok (.putfield 163, 3) := by decide +kernel
theorem dX11_turn_69 : decode cX11_turn 69 = .ok (.aload_n 0, 1) := by decide +kernel
theorem dX11_turn_70 : decode cX11_turn 70 = .ok (.getfield 30, 3) := by decide +kernel
theorem dX11_turn_73 : decode cX11_turn 73 = .ok (.getfield 163, 3) := by decide +kernel
theorem dX11_turn_76 : decode cX11_turn 76 = .ok (.ireturn, 1) := by decide +kernel
theorem dX11_run_0 : decode cX11_run 0 = .ok (.iload_n 1, 1) := by decide +kernel
theorem dX11_run_1 : decode cX11_run 1 = .ok (.iconst 1, 1) := by decide +kernel
theorem dX11_run_2 : decode cX11_run 2 = .ok (.if_icmp .lt 10, 3) := by decide +kernel
theorem dX11_run_5 : decode cX11_run 5 = .ok (.iload_n 1, 1) := by decide +kernel
theorem dX11_run_6 : decode cX11_run 6 = .ok (.sipush 1000, 3) := by decide +kernel
theorem dX11_run_9 : decode cX11_run 9 = .ok (.if_icmp .le 5, 3) := by decide +kernel
theorem dX11_run_12 : decode cX11_run 12 = .ok (.iconst (-1), 1) := by decide +kernel
theorem dX11_run_13 : decode cX11_run 13 = .ok (.ireturn, 1) := by decide +kernel
theorem dX11_run_14 : decode cX11_run 14 = .ok (.aload_n 0, 1) := by decide +kernel
theorem dX11_run_15 : decode cX11_run 15 = .ok (.getfield 39, 3) := by decide +kernel
theorem dX11_run_18 : decode cX11_run 18 = .ok (.getfield 57, 3) := by decide +kernel
theorem dX11_run_21 : decode cX11_run 21 = .ok (.iconst 2, 1) := by decide +kernel
theorem dX11_run_22 : decode cX11_run 22 = .ok (.if_icmp .eq 14, 3) := by decide +kernel
theorem dX11_run_25 : decode cX11_run 25 = .ok (.aload_n 0, 1) := by decide +kernel
theorem dX11_run_26 : decode cX11_run 26 = .ok (.getfield 39, 3) := by decide +kernel
theorem dX11_run_29 : decode cX11_run 29 = .ok (.getfield 57, 3) := by decide +kernel
theorem dX11_run_32 : decode cX11_run 32 = .ok (.iconst 3, 1) := by decide +kernel
theorem dX11_run_33 : decode cX11_run 33 = .ok (.if_icmp .ne 6, 3) := by decide +kernel
theorem dX11_run_36 : decode cX11_run 36 = .ok (.bipush (-2), 2) := by decide +kernel
theorem dX11_run_38 : decode cX11_run 38 = .ok (.ireturn, 1) := by decide +kernel
theorem dX11_run_39 : decode cX11_run 39 = .ok (.aload_n 0, 1) := by decide +kernel
theorem dX11_run_40 : decode cX11_run 40 = .ok (.getfield 39, 3) := by decide +kernel
theorem dX11_run_43 : decode cX11_run 43 = .ok (.iload_n 1, 1) := by decide +kernel
theorem dX11_run_44 : decode cX11_run 44 = .ok (.invokevirtual 170, 3) := by decide +kernel
theorem dX11_run_47 : decode cX11_run 47 = .ok (.ireturn, 1) := by decide +kernel
theorem dX11_interrupt_0 : decode cX11_interrupt 0 = .ok (.aload_n 0, 1) := by decide +kernel
theorem dX11_interrupt_1 : decode cX11_interrupt 1 = .ok (.iload_n 1, 1) := by decide +kernel
theorem dX11_interrupt_2 : decode cX11_interrupt 2 = .ok (.invokevirtual 173, 3) := by decide +kernel
theorem dX11_interrupt_5 : decode cX11_interrupt 5 = .ok (.ifCond .ne 5, 3) := by decide +kernel
theorem dX11_interrupt_8 : decode cX11_interrupt 8 = .ok (.iconst (-1), 1) := by decide +kernel
theorem dX11_interrupt_9 : decode cX11_interrupt 9 = .ok (.ireturn, 1) := by decide +kernel
theorem dX11_interrupt_10 : decode cX11_interrupt 10 = .ok (.aload_n 0, 1) := by decide +kernel
theorem dX11_interrupt_11 : decode cX11_interrupt 11 = .ok (.getfield 39, 3) := by decide +kernel
theorem dX11_interrupt_14 : decode cX11_interrupt 14 = .ok (.getfield 57, 3) := by decide +kernel
theorem dX11_interrupt_17 : decode cX11_interrupt 17 = .ok (.iconst 1, 1) := by decide +kernel
theorem dX11_interrupt_18 : decode cX11_interrupt 18 = .ok (.if_icmp .eq 6, 3) := by decide +kernel
theorem dX11_interrupt_21 : decode cX11_interrupt 21 = .ok (.bipush (-2), 2) := by decide +kernel
theorem dX11_interrupt_23 : decode cX11_interrupt 23 = .ok (.ireturn, 1) := by decide +kernel
theorem dX11_interrupt_24 : decode cX11_interrupt 24 = .ok (.aload_n 0, 1) := by decide +kernel
theorem dX11_interrupt_25 : decode cX11_interrupt 25 = .ok (.getfield 39, 3) := by decide +kernel
theorem dX11_interrupt_28 : decode cX11_interrupt 28 = .ok (.iload_n 1, 1) := by decide +kernel
theorem dX11_interrupt_29 : decode cX11_interrupt 29 = .ok (.invokevirtual 176, 3) := by decide +kernel
theorem dX11_interrupt_32 : decode cX11_interrupt 32 = .ok (.ireturn, 1) := by decide +kernel
theorem dX11_close_0 : decode cX11_close 0 = .ok (.aload_n 0, 1) := by decide +kernel
theorem dX11_close_1 : decode cX11_close 1 = .ok (.getfield 39, 3) := by decide +kernel
theorem dX11_close_4 : decode cX11_close 4 = .ok (.getfield 57, 3) := by decide +kernel
theorem dX11_close_7 : decode cX11_close 7 = .ok (.iconst 1, 1) := by decide +kernel
theorem dX11_close_8 : decode cX11_close 8 = .ok (.if_icmp .ne 13, 3) := by decide +kernel
theorem dX11_close_11 : decode cX11_close 11 = .ok (.aload_n 0, 1) := by decide +kernel
theorem dX11_close_12 : decode cX11_close 12 = .ok (.getfield 39, 3) := by decide +kernel
theorem dX11_close_15 : decode cX11_close 15 = .ok (.invokevirtual 179, 3) := by decide +kernel
theorem dX11_close_18 : decode cX11_close 18 = .ok (.goto 5, 3) := by decide +kernel
theorem dX11_close_21 : decode cX11_close 21 = .ok (.bipush (-2), 2) := by decide +kernel
theorem dX11_close_23 : decode cX11_close 23 = .ok (.ireturn, 1) := by decide +kernel
theorem dX11_anew_0 : decode cX11_anew 0 = .ok (.aload_n 0, 1) := by decide +kernel
theorem dX11_anew_1 : decode cX11_anew 1 = .ok (.getfield 39, 3) := by decide +kernel
theorem dX11_anew_4 : decode cX11_anew 4 = .ok (.aload_n 0, 1) := by decide +kernel
theorem dX11_anew_5 : decode cX11_anew 5 = .ok (.getfield 20, 3) := by decide +kernel
theorem dX11_anew_8 : decode cX11_anew 8 = .ok (.invokevirtual 49, 3) := by decide +kernel
theorem dX11_anew_11 : decode cX11_anew 11 = .ok (.aload_n 0, 1) := by decide +kernel
theorem dX11_anew_12 : decode cX11_anew 12 = .ok (.getfield 30, 3) := by decide +kernel
theorem dX11_anew_15 : decode cX11_anew 15 = .ok (.getfield 182, 3) := by decide +kernel
theorem dX11_anew_18 : decode cX11_anew 18 = .ok (.ireturn, 1) := by decide +kernel
theorem dX11_taken_0 : decode cX11_taken 0 = .ok (.aload_n 0, 1) := by decide +kernel
theorem dX11_taken_1 : decode cX11_taken 1 = .ok (.getfield 39, 3) := by decide +kernel
theorem dX11_taken_4 : decode cX11_taken 4 = .ok (.getfield 185, 3) := by decide +kernel
theorem dX11_taken_7 : decode cX11_taken 7 = .ok (.ireturn, 1) := by decide +kernel
theorem dX11_answer_0 : decode cX11_answer 0 = .ok (.aload_n 0, 1) := by decide +kernel
theorem dX11_answer_1 : decode cX11_answer 1 = .ok (.iload_n 1, 1) := by decide +kernel
theorem dX11_answer_2 : decode cX11_answer 2 = .ok (.invokevirtual 173, 3) := by decide +kernel
theorem dX11_answer_5 : decode cX11_answer 5 = .ok (.ifCond .eq 14, 3) := by decide +kernel
theorem dX11_answer_8 : decode cX11_answer 8 = .ok (.aload_n 0, 1) := by decide +kernel
theorem dX11_answer_9 : decode cX11_answer 9 = .ok (.getfield 39, 3) := by decide +kernel
theorem dX11_answer_12 : decode cX11_answer 12 = .ok (.iload_n 1, 1) := by decide +kernel
theorem dX11_answer_13 : decode cX11_answer 13 = .ok (.invokevirtual 188, 3) := by decide +kernel
theorem dX11_answer_16 : decode cX11_answer 16 = .ok (.goto 6, 3) := by decide +kernel
theorem dX11_answer_19 : decode cX11_answer 19 = .ok (.ldc2_w 109, 3) := by decide +kernel
theorem dX11_answer_22 : decode cX11_answer 22 = .ok (.lreturn, 1) := by decide +kernel
theorem dX11_told_0 : decode cX11_told 0 = .ok (.aload_n 0, 1) := by decide +kernel
theorem dX11_told_1 : decode cX11_told 1 = .ok (.iload_n 1, 1) := by decide +kernel
theorem dX11_told_2 : decode cX11_told 2 = .ok (.invokevirtual 173, 3) := by decide +kernel
theorem dX11_told_5 : decode cX11_told 5 = .ok (.ifCond .ne 5, 3) := by decide +kernel
theorem dX11_told_8 : decode cX11_told 8 = .ok (.iconst (-1), 1) := by decide +kernel
theorem dX11_told_9 : decode cX11_told 9 = .ok (.ireturn, 1) := by decide +kernel
theorem dX11_told_10 : decode cX11_told 10 = .ok (.aload_n 0, 1) := by decide +kernel
theorem dX11_told_11 : decode cX11_told 11 = .ok (.getfield 39, 3) := by decide +kernel
theorem dX11_told_14 : decode cX11_told 14 = .ok (.getfield 192, 3) := by decide +kernel
theorem dX11_told_17 : decode cX11_told 17 = .ok (.iload_n 1, 1) := by decide +kernel
theorem dX11_told_18 : decode cX11_told 18 = .ok (.aaload, 1) := by decide +kernel
theorem dX11_told_19 : decode cX11_told 19 = .ok (.astore_n 3, 1) := by decide +kernel
theorem dX11_told_20 : decode cX11_told 20 = .ok (.iload_n 2, 1) := by decide +kernel
theorem dX11_told_21 : decode cX11_told 21 = .ok (.tableswitch 112 0 8 #[51, 64, 69, 74, 79, 84, 89, 94, 99], 51) := by decide +kernel
theorem dX11_told_72 : decode cX11_told 72 = .ok (.aload_n 0, 1) := by decide +kernel
theorem dX11_told_73 : decode cX11_told 73 = .ok (.getfield 30, 3) := by decide +kernel
theorem dX11_told_76 : decode cX11_told 76 = .ok (.getfield 196, 3) := by decide +kernel
theorem dX11_told_79 : decode cX11_told 79 = .ok (.iload_n 1, 1) := by decide +kernel
theorem dX11_told_80 : decode cX11_told 80 = .ok (.aaload, 1) := by decide +kernel
theorem dX11_told_81 : decode cX11_told 81 = .ok (.getfield 200, 3) := by decide +kernel
theorem dX11_told_84 : decode cX11_told 84 = .ok (.ireturn, 1) := by decide +kernel
theorem dX11_told_85 : decode cX11_told 85 = .ok (.aload_n 3, 1) := by decide +kernel
theorem dX11_told_86 : decode cX11_told 86 = .ok (.getfield 205, 3) := by decide +kernel
theorem dX11_told_89 : decode cX11_told 89 = .ok (.ireturn, 1) := by decide +kernel
theorem dX11_told_90 : decode cX11_told 90 = .ok (.aload_n 3, 1) := by decide +kernel
theorem dX11_told_91 : decode cX11_told 91 = .ok (.getfield 210, 3) := by decide +kernel
theorem dX11_told_94 : decode cX11_told 94 = .ok (.ireturn, 1) := by decide +kernel
theorem dX11_told_95 : decode cX11_told 95 = .ok (.aload_n 3, 1) := by decide +kernel
theorem dX11_told_96 : decode cX11_told 96 = .ok (.getfield 213, 3) := by decide +kernel
theorem dX11_told_99 : decode cX11_told 99 = .ok (.ireturn, 1) := by decide +kernel
theorem dX11_told_100 : decode cX11_told 100 = .ok (.aload_n 3, 1) := by decide +kernel
theorem dX11_told_101 : decode cX11_told 101 = .ok (.getfield 216, 3) := by decide +kernel
theorem dX11_told_104 : decode cX11_told 104 = .ok (.ireturn, 1) := by decide +kernel
theorem dX11_told_105 : decode cX11_told 105 = .ok (.aload_n 3, 1) := by decide +kernel
theorem dX11_told_106 : decode cX11_told 106 = .ok (.getfield 219, 3) := by decide +kernel
theorem dX11_told_109 : decode cX11_told 109 = .ok (.ireturn, 1) := by decide +kernel
theorem dX11_told_110 : decode cX11_told 110 = .ok (.aload_n 3, 1) := by decide +kernel
theorem dX11_told_111 : decode cX11_told 111 = .ok (.getfield 222, 3) := by decide +kernel
theorem dX11_told_114 : decode cX11_told 114 = .ok (.ireturn, 1) := by decide +kernel
theorem dX11_told_115 : decode cX11_told 115 = .ok (.aload_n 3, 1) := by decide +kernel
theorem dX11_told_116 : decode cX11_told 116 = .ok (.getfield 225, 3) := by decide +kernel
theorem dX11_told_119 : decode cX11_told 119 = .ok (.ireturn, 1) := by decide +kernel
theorem dX11_told_120 : decode cX11_told 120 = .ok (.aload_n 0, 1) := by decide +kernel
theorem dX11_told_121 : decode cX11_told 121 = .ok (.getfield 30, 3) := by decide +kernel
theorem dX11_told_124 : decode cX11_told 124 = .ok (.getfield 196, 3) := by decide +kernel
theorem dX11_told_127 : decode cX11_told 127 = .ok (.iload_n 1, 1) := by decide +kernel
theorem dX11_told_128 : decode cX11_told 128 = .ok (.aaload, 1) := by decide +kernel
theorem dX11_told_129 : decode cX11_told 129 = .ok (.invokevirtual 228, 3) := by decide +kernel
theorem dX11_told_132 : decode cX11_told 132 = .ok (.ireturn, 1) := by decide +kernel
theorem dX11_told_133 : decode cX11_told 133 = .ok (.iconst (-1), 1) := by decide +kernel
theorem dX11_told_134 : decode cX11_told 134 = .ok (.ireturn, 1) := by decide +kernel
theorem dX11_best_0 : decode cX11_best 0 = .ok (.iload_n 1, 1) := by decide +kernel
theorem dX11_best_1 : decode cX11_best 1 = .ok (.ifCond .lt 14, 3) := by decide +kernel
theorem dX11_best_4 : decode cX11_best 4 = .ok (.iload_n 1, 1) := by decide +kernel
theorem dX11_best_5 : decode cX11_best 5 = .ok (.aload_n 0, 1) := by decide +kernel
theorem dX11_best_6 : decode cX11_best 6 = .ok (.getfield 30, 3) := by decide +kernel
theorem dX11_best_9 : decode cX11_best 9 = .ok (.getfield 134, 3) := by decide +kernel
theorem dX11_best_12 : decode cX11_best 12 = .ok (.if_icmp .lt 7, 3) := by decide +kernel
theorem dX11_best_15 : decode cX11_best 15 = .ok (.ldc2_w 231, 3) := by decide +kernel
theorem dX11_best_18 : decode cX11_best 18 = .ok (.lreturn, 1) := by decide +kernel
theorem dX11_best_19 : decode cX11_best 19 = .ok (.aload_n 0, 1) := by decide +kernel
theorem dX11_best_20 : decode cX11_best 20 = .ok (.getfield 39, 3) := by decide +kernel
theorem dX11_best_23 : decode cX11_best 23 = .ok (.getfield 146, 3) := by decide +kernel
theorem dX11_best_26 : decode cX11_best 26 = .ok (.iload_n 1, 1) := by decide +kernel
theorem dX11_best_27 : decode cX11_best 27 = .ok (.aaload, 1) := by decide +kernel
theorem dX11_best_28 : decode cX11_best 28 = .ok (.astore_n 3, 1) := by decide +kernel
theorem dX11_best_29 : decode cX11_best 29 = .ok (.iload_n 2, 1) := by decide +kernel
theorem dX11_best_30 : decode cX11_best 30 = .ok (.tableswitch 71 0 3 #[30, 50, 56, 61], 30) := by decide +kernel
theorem dX11_best_60 : decode cX11_best 60 = .ok (.aload_n 3, 1) := by decide +kernel
theorem dX11_best_61 : decode cX11_best 61 = .ok (.getfield 233, 3) := by decide +kernel
theorem dX11_best_64 : decode cX11_best 64 = .ok (.bipush (-9), 2) := by decide +kernel
theorem dX11_best_66 : decode cX11_best 66 = .ok (.if_icmp .ne 9, 3) := by decide +kernel
theorem dX11_best_69 : decode cX11_best 69 = .ok (.ldc2_w 109, 3) := by decide +kernel
theorem dX11_best_72 : decode cX11_best 72 = .ok (.goto 7, 3) := by decide +kernel
theorem dX11_best_75 : decode cX11_best 75 = .ok (.aload_n 3, 1) := by decide +kernel
theorem dX11_best_76 : decode cX11_best 76 = .ok (.getfield 236, 3) := by decide +kernel
theorem dX11_best_79 : decode cX11_best 79 = .ok (.lreturn, 1) := by decide +kernel
theorem dX11_best_80 : decode cX11_best 80 = .ok (.aload_n 3, 1) := by decide +kernel
theorem dX11_best_81 : decode cX11_best 81 = .ok (.getfield 233, 3) := by decide +kernel
theorem dX11_best_84 : decode cX11_best 84 = .ok (.i2l, 1) := by decide +kernel
theorem dX11_best_85 : decode cX11_best 85 = .ok (.lreturn, 1) := by decide +kernel
theorem dX11_best_86 : decode cX11_best 86 = .ok (.aload_n 3, 1) := by decide +kernel
theorem dX11_best_87 : decode cX11_best 87 = .ok (.getfield 240, 3) := by decide +kernel
theorem dX11_best_90 : decode cX11_best 90 = .ok (.lreturn, 1) := by decide +kernel
theorem dX11_best_91 : decode cX11_best 91 = .ok (.aload_n 0, 1) := by decide +kernel
theorem dX11_best_92 : decode cX11_best 92 = .ok (.getfield 39, 3) := by decide +kernel
theorem dX11_best_95 : decode cX11_best 95 = .ok (.iload_n 1, 1) := by decide +kernel
theorem dX11_best_96 : decode cX11_best 96 = .ok (.invokevirtual 243, 3) := by decide +kernel
theorem dX11_best_99 : decode cX11_best 99 = .ok (.i2l, 1) := by decide +kernel
theorem dX11_best_100 : decode cX11_best 100 = .ok (.lreturn, 1) := by decide +kernel
theorem dX11_best_101 : decode cX11_best 101 = .ok (.ldc2_w 231, 3) := by decide +kernel
theorem dX11_best_104 : decode cX11_best 104 = .ok (.lreturn, 1) := by decide +kernel
theorem dX11_note_0 : decode cX11_note 0 = .ok (.iload_n 1, 1) := by decide +kernel
theorem dX11_note_1 : decode cX11_note 1 = .ok (.ifCond .lt 26, 3) := by decide +kernel
theorem dX11_note_4 : decode cX11_note 4 = .ok (.iload_n 1, 1) := by decide +kernel
theorem dX11_note_5 : decode cX11_note 5 = .ok (.aload_n 0, 1) := by decide +kernel
theorem dX11_note_6 : decode cX11_note 6 = .ok (.getfield 39, 3) := by decide +kernel
theorem dX11_note_9 : decode cX11_note 9 = .ok (.getfield 246, 3) := by decide +kernel
theorem dX11_note_12 : decode cX11_note 12 = .ok (.if_icmp .ge 15, 3) := by decide +kernel
theorem dX11_note_15 : decode cX11_note 15 = .ok (.aload_n 0, 1) := by decide +kernel
theorem dX11_note_16 : decode cX11_note 16 = .ok (.getfield 39, 3) := by decide +kernel
theorem dX11_note_19 : decode cX11_note 19 = .ok (.getfield 249, 3) := by decide +kernel
theorem dX11_note_22 : decode cX11_note 22 = .ok (.iload_n 1, 1) := by decide +kernel
theorem dX11_note_23 : decode cX11_note 23 = .ok (.iaload, 1) := by decide +kernel
theorem dX11_note_24 : decode cX11_note 24 = .ok (.goto 5, 3) := by decide +kernel
theorem dX11_note_27 : decode cX11_note 27 = .ok (.bipush (-9), 2) := by decide +kernel
theorem dX11_note_29 : decode cX11_note 29 = .ok (.ireturn, 1) := by decide +kernel
theorem dX11_finished_0 : decode cX11_finished 0 = .ok (.aload_n 0, 1) := by decide +kernel
theorem dX11_finished_1 : decode cX11_finished 1 = .ok (.iload_n 1, 1) := by decide +kernel
theorem dX11_finished_2 : decode cX11_finished 2 = .ok (.invokevirtual 160, 3) := by decide +kernel
theorem dX11_finished_5 : decode cX11_finished 5 = .ok (.ifCond .eq 15, 3) := by decide +kernel
theorem dX11_finished_8 : decode cX11_finished 8 = .ok (.aload_n 0, 1) := by decide +kernel
theorem dX11_finished_9 : decode cX11_finished 9 = .ok (.getfield 39, 3) := by decide +kernel
theorem dX11_finished_12 : decode cX11_finished 12 = .ok (.getfield 252, 3) := by decide +kernel
theorem dX11_finished_15 : decode cX11_finished 15 = .ok (.iload_n 1, 1) := by decide +kernel
theorem dX11_finished_16 : decode cX11_finished 16 = .ok (.iaload, 1) := by decide +kernel
theorem dX11_finished_17 : decode cX11_finished 17 = .ok (.goto 4, 3) := by decide +kernel
theorem dX11_finished_20 : decode cX11_finished 20 = .ok (.iconst (-1), 1) := by decide +kernel
theorem dX11_finished_21 : decode cX11_finished 21 = .ok (.ireturn, 1) := by decide +kernel
theorem dX11_count_0 : decode cX11_count 0 = .ok (.iload_n 1, 1) := by decide +kernel
theorem dX11_count_1 : decode cX11_count 1 = .ok (.tableswitch 123 0 8 #[51, 59, 67, 75, 83, 91, 99, 107, 115], 51) := by decide +kernel
theorem dX11_count_52 : decode cX11_count 52 = .ok (.aload_n 0, 1) := by decide +kernel
theorem dX11_count_53 : decode cX11_count 53 = .ok (.getfield 30, 3) := by decide +kernel
theorem dX11_count_56 : decode cX11_count 56 = .ok (.getfield 60, 3) := by decide +kernel
theorem dX11_count_59 : decode cX11_count 59 = .ok (.ireturn, 1) := by decide +kernel
theorem dX11_count_60 : decode cX11_count 60 = .ok (.aload_n 0, 1) := by decide +kernel
theorem dX11_count_61 : decode cX11_count 61 = .ok (.getfield 30, 3) := by decide +kernel
theorem dX11_count_64 : decode cX11_count 64 = .ok (.getfield 182, 3) := by decide +kernel
theorem dX11_count_67 : decode cX11_count 67 = .ok (.ireturn, 1) := by decide +kernel
theorem dX11_count_68 : decode cX11_count 68 = .ok (.aload_n 0, 1) := by decide +kernel
theorem dX11_count_69 : decode cX11_count 69 = .ok (.getfield 30, 3) := by decide +kernel
theorem dX11_count_72 : decode cX11_count 72 = .ok (.getfield 134, 3) := by decide +kernel
theorem dX11_count_75 : decode cX11_count 75 = .ok (.ireturn, 1) := by decide +kernel
theorem dX11_count_76 : decode cX11_count 76 = .ok (.aload_n 0, 1) := by decide +kernel
theorem dX11_count_77 : decode cX11_count 77 = .ok (.getfield 39, 3) := by decide +kernel
theorem dX11_count_80 : decode cX11_count 80 = .ok (.getfield 255, 3) := by decide +kernel
theorem dX11_count_83 : decode cX11_count 83 = .ok (.ireturn, 1) := by decide +kernel
theorem dX11_count_84 : decode cX11_count 84 = .ok (.aload_n 0, 1) := by decide +kernel
theorem dX11_count_85 : decode cX11_count 85 = .ok (.getfield 39, 3) := by decide +kernel
theorem dX11_count_88 : decode cX11_count 88 = .ok (.getfield 256, 3) := by decide +kernel
theorem dX11_count_91 : decode cX11_count 91 = .ok (.ireturn, 1) := by decide +kernel
theorem dX11_count_92 : decode cX11_count 92 = .ok (.aload_n 0, 1) := by decide +kernel
theorem dX11_count_93 : decode cX11_count 93 = .ok (.getfield 39, 3) := by decide +kernel
theorem dX11_count_96 : decode cX11_count 96 = .ok (.getfield 259, 3) := by decide +kernel
theorem dX11_count_99 : decode cX11_count 99 = .ok (.ireturn, 1) := by decide +kernel
theorem dX11_count_100 : decode cX11_count 100 = .ok (.aload_n 0, 1) := by decide +kernel
theorem dX11_count_101 : decode cX11_count 101 = .ok (.getfield 39, 3) := by decide +kernel
theorem dX11_count_104 : decode cX11_count 104 = .ok (.getfield 262, 3) := by decide +kernel
theorem dX11_count_107 : decode cX11_count 107 = .ok (.ireturn, 1) := by decide +kernel
theorem dX11_count_108 : decode cX11_count 108 = .ok (.aload_n 0, 1) := by decide +kernel
theorem dX11_count_109 : decode cX11_count 109 = .ok (.getfield 39, 3) := by decide +kernel
theorem dX11_count_112 : decode cX11_count 112 = .ok (.getfield 246, 3) := by decide +kernel
theorem dX11_count_115 : decode cX11_count 115 = .ok (.ireturn, 1) := by decide +kernel
theorem dX11_count_116 : decode cX11_count 116 = .ok (.aload_n 0, 1) := by decide +kernel
theorem dX11_count_117 : decode cX11_count 117 = .ok (.getfield 39, 3) := by decide +kernel
theorem dX11_count_120 : decode cX11_count 120 = .ok (.getfield 57, 3) := by decide +kernel
theorem dX11_count_123 : decode cX11_count 123 = .ok (.ireturn, 1) := by decide +kernel
theorem dX11_count_124 : decode cX11_count 124 = .ok (.iconst (-1), 1) := by decide +kernel
theorem dX11_count_125 : decode cX11_count 125 = .ok (.ireturn, 1) := by decide +kernel
theorem dX11_equal_0 : decode cX11_equal 0 = .ok (.iload_n 1, 1) := by decide +kernel
theorem dX11_equal_1 : decode cX11_equal 1 = .ok (.iconst 1, 1) := by decide +kernel
theorem dX11_equal_2 : decode cX11_equal 2 = .ok (.if_icmp .lt 9, 3) := by decide +kernel
theorem dX11_equal_5 : decode cX11_equal 5 = .ok (.iload_n 1, 1) := by decide +kernel
theorem dX11_equal_6 : decode cX11_equal 6 = .ok (.bipush 6, 2) := by decide +kernel
theorem dX11_equal_8 : decode cX11_equal 8 = .ok (.if_icmp .le 5, 3) := by decide +kernel
theorem dX11_equal_11 : decode cX11_equal 11 = .ok (.iconst (-1), 1) := by decide +kernel
theorem dX11_equal_12 : decode cX11_equal 12 = .ok (.ireturn, 1) := by decide +kernel
theorem dX11_equal_13 : decode cX11_equal 13 = .ok (.aload_n 0, 1) := by decide +kernel
theorem dX11_equal_14 : decode cX11_equal 14 = .ok (.getfield 43, 3) := by decide +kernel
theorem dX11_equal_17 : decode cX11_equal 17 = .ok (.iconst 1, 1) := by decide +kernel
theorem dX11_equal_18 : decode cX11_equal 18 = .ok (.invokevirtual 49, 3) := by decide +kernel
theorem dX11_equal_21 : decode cX11_equal 21 = .ok (.aload_n 0, 1) := by decide +kernel
theorem dX11_equal_22 : decode cX11_equal 22 = .ok (.getfield 43, 3) := by decide +kernel
theorem dX11_equal_25 : decode cX11_equal 25 = .ok (.ldc_w 265, 3) := by decide +kernel
theorem dX11_equal_28 : decode cX11_equal 28 = .ok (.invokevirtual 170, 3) := by decide +kernel
theorem dX11_equal_31 : decode cX11_equal 31 = .ok (.pop, 1) := by decide +kernel
theorem dX11_equal_32 : decode cX11_equal 32 = .ok (.aload_n 0, 1) := by decide +kernel
theorem dX11_equal_33 : decode cX11_equal 33 = .ok (.getfield 46, 3) := by decide +kernel
theorem dX11_equal_36 : decode cX11_equal 36 = .ok (.iload_n 1, 1) := by decide +kernel
theorem dX11_equal_37 : decode cX11_equal 37 = .ok (.invokevirtual 49, 3) := by decide +kernel
theorem dX11_equal_40 : decode cX11_equal 40 = .ok (.aload_n 0, 1) := by decide +kernel
theorem dX11_equal_41 : decode cX11_equal 41 = .ok (.getfield 46, 3) := by decide +kernel
theorem dX11_equal_44 : decode cX11_equal 44 = .ok (.ldc_w 265, 3) := by decide +kernel
theorem dX11_equal_47 : decode cX11_equal 47 = .ok (.invokevirtual 170, 3) := by decide +kernel
theorem dX11_equal_50 : decode cX11_equal 50 = .ok (.pop, 1) := by decide +kernel
theorem dX11_equal_51 : decode cX11_equal 51 = .ok (.aload_n 0, 1) := by decide +kernel
theorem dX11_equal_52 : decode cX11_equal 52 = .ok (.getfield 46, 3) := by decide +kernel
theorem dX11_equal_55 : decode cX11_equal 55 = .ok (.aload_n 0, 1) := by decide +kernel
theorem dX11_equal_56 : decode cX11_equal 56 = .ok (.getfield 43, 3) := by decide +kernel
theorem dX11_equal_59 : decode cX11_equal 59 = .ok (.invokevirtual 266, 3) := by decide +kernel
theorem dX11_equal_62 : decode cX11_equal 62 = .ok (.ifCond .eq 7, 3) := by decide +kernel
theorem dX11_equal_65 : decode cX11_equal 65 = .ok (.iconst 1, 1) := by decide +kernel
theorem dX11_equal_66 : decode cX11_equal 66 = .ok (.goto 4, 3) := by decide +kernel
theorem dX11_equal_69 : decode cX11_equal 69 = .ok (.iconst 0, 1) := by decide +kernel
theorem dX11_equal_70 : decode cX11_equal 70 = .ok (.ireturn, 1) := by decide +kernel
theorem dX11_refusal_0 : decode cX11_refusal 0 = .ok (.bipush (-10), 2) := by decide +kernel
theorem dX11_refusal_2 : decode cX11_refusal 2 = .ok (.iload_n 0, 1) := by decide +kernel
theorem dX11_refusal_3 : decode cX11_refusal 3 = .ok (.isub, 1) := by decide +kernel
theorem dX11_refusal_4 : decode cX11_refusal 4 = .ok (.ireturn, 1) := by decide +kernel
theorem dX11_isKind_0 : decode cX11_isKind 0 = .ok (.iload_n 0, 1) := by decide +kernel
theorem dX11_isKind_1 : decode cX11_isKind 1 = .ok (.ifCond .lt 12, 3) := by decide +kernel
theorem dX11_isKind_4 : decode cX11_isKind 4 = .ok (.iload_n 0, 1) := by decide +kernel
theorem dX11_isKind_5 : decode cX11_isKind 5 = .ok (.iconst 5, 1) := by decide +kernel
theorem dX11_isKind_6 : decode cX11_isKind 6 = .ok (.if_icmp .gt 7, 3) := by decide +kernel
theorem dX11_isKind_9 : decode cX11_isKind 9 = .ok (.iconst 1, 1) := by decide +kernel
theorem dX11_isKind_10 : decode cX11_isKind 10 = .ok (.goto 4, 3) := by decide +kernel
theorem dX11_isKind_13 : decode cX11_isKind 13 = .ok (.iconst 0, 1) := by decide +kernel
theorem dX11_isKind_14 : decode cX11_isKind 14 = .ok (.ireturn, 1) := by decide +kernel
theorem dX11_isThread_0 : decode cX11_isThread 0 = .ok (.iload_n 1, 1) := by decide +kernel
theorem dX11_isThread_1 : decode cX11_isThread 1 = .ok (.ifCond .lt 15, 3) := by decide +kernel
theorem dX11_isThread_4 : decode cX11_isThread 4 = .ok (.iload_n 1, 1) := by decide +kernel
theorem dX11_isThread_5 : decode cX11_isThread 5 = .ok (.aload_n 0, 1) := by decide +kernel
theorem dX11_isThread_6 : decode cX11_isThread 6 = .ok (.getfield 20, 3) := by decide +kernel
theorem dX11_isThread_9 : decode cX11_isThread 9 = .ok (.if_icmp .ge 7, 3) := by decide +kernel
theorem dX11_isThread_12 : decode cX11_isThread 12 = .ok (.iconst 1, 1) := by decide +kernel
theorem dX11_isThread_13 : decode cX11_isThread 13 = .ok (.goto 4, 3) := by decide +kernel
theorem dX11_isThread_16 : decode cX11_isThread 16 = .ok (.iconst 0, 1) := by decide +kernel
theorem dX11_isThread_17 : decode cX11_isThread 17 = .ok (.ireturn, 1) := by decide +kernel
theorem dX11_isTask_0 : decode cX11_isTask 0 = .ok (.iload_n 1, 1) := by decide +kernel
theorem dX11_isTask_1 : decode cX11_isTask 1 = .ok (.ifCond .lt 18, 3) := by decide +kernel
theorem dX11_isTask_4 : decode cX11_isTask 4 = .ok (.iload_n 1, 1) := by decide +kernel
theorem dX11_isTask_5 : decode cX11_isTask 5 = .ok (.aload_n 0, 1) := by decide +kernel
theorem dX11_isTask_6 : decode cX11_isTask 6 = .ok (.getfield 30, 3) := by decide +kernel
theorem dX11_isTask_9 : decode cX11_isTask 9 = .ok (.getfield 182, 3) := by decide +kernel
theorem dX11_isTask_12 : decode cX11_isTask 12 = .ok (.if_icmp .ge 7, 3) := by decide +kernel
theorem dX11_isTask_15 : decode cX11_isTask 15 = .ok (.iconst 1, 1) := by decide +kernel
theorem dX11_isTask_16 : decode cX11_isTask 16 = .ok (.goto 4, 3) := by decide +kernel
theorem dX11_isTask_19 : decode cX11_isTask 19 = .ok (.iconst 0, 1) := by decide +kernel
theorem dX11_isTask_20 : decode cX11_isTask 20 = .ok (.ireturn, 1) := by decide +kernel
theorem dX11_isLoad_0 : decode cX11_isLoad 0 = .ok (.iload_n 1, 1) := by decide +kernel
theorem dX11_isLoad_1 : decode cX11_isLoad 1 = .ok (.ifCond .lt 27, 3) := by decide +kernel
theorem dX11_isLoad_4 : decode cX11_isLoad 4 = .ok (.iload_n 1, 1) := by decide +kernel
theorem dX11_isLoad_5 : decode cX11_isLoad 5 = .ok (.aload_n 0, 1) := by decide +kernel
theorem dX11_isLoad_6 : decode cX11_isLoad 6 = .ok (.getfield 24, 3) := by decide +kernel
theorem dX11_isLoad_9 : decode cX11_isLoad 9 = .ok (.if_icmp .gt 19, 3) := by decide +kernel
theorem dX11_isLoad_12 : decode cX11_isLoad 12 = .ok (.iload_n 2, 1) := by decide +kernel
theorem dX11_isLoad_13 : decode cX11_isLoad 13 = .ok (.iconst 1, 1) := by decide +kernel
theorem dX11_isLoad_14 : decode cX11_isLoad 14 = .ok (.if_icmp .lt 14, 3) := by decide +kernel
theorem dX11_isLoad_17 : decode cX11_isLoad 17 = .ok (.iload_n 2, 1) := by decide +kernel
theorem dX11_isLoad_18 : decode cX11_isLoad 18 = .ok (.sipush 1000, 3) := by decide +kernel
theorem dX11_isLoad_21 : decode cX11_isLoad 21 = .ok (.if_icmp .gt 7, 3) := by decide +kernel
theorem dX11_isLoad_24 : decode cX11_isLoad 24 = .ok (.iconst 1, 1) := by decide +kernel
theorem dX11_isLoad_25 : decode cX11_isLoad 25 = .ok (.goto 4, 3) := by decide +kernel
theorem dX11_isLoad_28 : decode cX11_isLoad 28 = .ok (.iconst 0, 1) := by decide +kernel
theorem dX11_isLoad_29 : decode cX11_isLoad 29 = .ok (.ireturn, 1) := by decide +kernel
theorem dX11_refusalOfTask_0 : decode cX11_refusalOfTask 0 = .ok (.aload_n 0, 1) := by decide +kernel
theorem dX11_refusalOfTask_1 : decode cX11_refusalOfTask 1 = .ok (.getfield 39, 3) := by decide +kernel
theorem dX11_refusalOfTask_4 : decode cX11_refusalOfTask 4 = .ok (.getfield 57, 3) := by decide +kernel
theorem dX11_refusalOfTask_7 : decode cX11_refusalOfTask 7 = .ok (.iconst 1, 1) := by decide +kernel
theorem dX11_refusalOfTask_8 : decode cX11_refusalOfTask 8 = .ok (.if_icmp .ne 6, 3) := by decide +kernel
theorem dX11_refusalOfTask_11 : decode cX11_refusalOfTask 11 = .ok (.bipush (-2), 2) := by decide +kernel
theorem dX11_refusalOfTask_13 : decode cX11_refusalOfTask 13 = .ok (.ireturn, 1) := by decide +kernel
theorem dX11_refusalOfTask_14 : decode cX11_refusalOfTask 14 = .ok (.aload_n 0, 1) := by decide +kernel
theorem dX11_refusalOfTask_15 : decode cX11_refusalOfTask 15 = .ok (.getfield 30, 3) := by decide +kernel
theorem dX11_refusalOfTask_18 : decode cX11_refusalOfTask 18 = .ok (.getfield 182, 3) := by decide +kernel
theorem dX11_refusalOfTask_21 : decode cX11_refusalOfTask 21 = .ok (.bipush 20, 2) := by decide +kernel
theorem dX11_refusalOfTask_23 : decode cX11_refusalOfTask 23 = .ok (.if_icmp .lt 8, 3) := by decide +kernel
theorem dX11_refusalOfTask_26 : decode cX11_refusalOfTask 26 = .ok (.bipush (-3), 2) := by decide +kernel
theorem dX11_refusalOfTask_28 : decode cX11_refusalOfTask 28 = .ok (.goto 4, 3) := by decide +kernel
theorem dX11_refusalOfTask_31 : decode cX11_refusalOfTask 31 = .ok (.iconst 0, 1) := by decide +kernel
theorem dX11_refusalOfTask_32 : decode cX11_refusalOfTask 32 = .ok (.ireturn, 1) := by decide +kernel
theorem dX11_newLine_0 : decode cX11_newLine 0 = .ok (.iload_n 1, 1) := by decide +kernel
theorem dX11_newLine_1 : decode cX11_newLine 1 = .ok (.ifCond .lt 21, 3) := by decide +kernel
theorem dX11_newLine_4 : decode cX11_newLine 4 = .ok (.iload_n 1, 1) := by decide +kernel
theorem dX11_newLine_5 : decode cX11_newLine 5 = .ok (.bipush 12, 2) := by decide +kernel
theorem dX11_newLine_7 : decode cX11_newLine 7 = .ok (.if_icmp .gt 15, 3) := by decide +kernel
theorem dX11_newLine_10 : decode cX11_newLine 10 = .ok (.new 98, 3) := by decide +kernel
theorem dX11_newLine_13 : decode cX11_newLine 13 = .ok (.dup, 1) := by decide +kernel
theorem dX11_newLine_14 : decode cX11_newLine 14 = .ok (.iload_n 0, 1) := by decide +kernel
theorem dX11_newLine_15 : decode cX11_newLine 15 = .ok (.iload_n 1, 1) := by decide +kernel
theorem dX11_newLine_16 : decode cX11_newLine 16 = .ok (.invokespecial 270, 3) := by decide +kernel
theorem dX11_newLine_19 : decode cX11_newLine 19 = .ok (.goto 4, 3) := by decide +kernel
theorem dX11_newLine_22 : decode cX11_newLine 22 = .ok (.aconst_null, 1) := by decide +kernel
theorem dX11_newLine_23 : decode cX11_newLine 23 = .ok (.areturn, 1) := by decide +kernel
theorem dX11_numberOf_0 : decode cX11_numberOf 0 = .ok (.iload_n 0, 1) := by decide +kernel
theorem dX11_numberOf_1 : decode cX11_numberOf 1 = .ok (.tableswitch 77 0 5 #[39, 44, 49, 77, 53, 65], 39) := by decide +kernel
theorem dX11_numberOf_40 : decode cX11_numberOf 40 = .ok (.lload_n 1, 1) := by decide +kernel
theorem dX11_numberOf_41 : decode cX11_numberOf 41 = .ok (.l2i, 1) := by decide +kernel
theorem dX11_numberOf_42 : decode cX11_numberOf 42 = .ok (.i2b, 1) := by decide +kernel
theorem dX11_numberOf_43 : decode cX11_numberOf 43 = .ok (.i2l, 1) := by decide +kernel
theorem dX11_numberOf_44 : decode cX11_numberOf 44 = .ok (.lreturn, 1) := by decide +kernel
theorem dX11_numberOf_45 : decode cX11_numberOf 45 = .ok (.lload_n 1, 1) := by decide +kernel
theorem dX11_numberOf_46 : decode cX11_numberOf 46 = .ok (.l2i, 1) := by decide +kernel
theorem dX11_numberOf_47 : decode cX11_numberOf 47 = .ok (.i2s, 1) := by decide +kernel
theorem dX11_numberOf_48 : decode cX11_numberOf 48 = .ok (.i2l, 1) := by decide +kernel
theorem dX11_numberOf_49 : decode cX11_numberOf 49 = .ok (.lreturn, 1) := by decide +kernel
theorem dX11_numberOf_50 : decode cX11_numberOf 50 = .ok (.lload_n 1, 1) := by decide +kernel
theorem dX11_numberOf_51 : decode cX11_numberOf 51 = .ok (.l2i, 1) := by decide +kernel
theorem dX11_numberOf_52 : decode cX11_numberOf 52 = .ok (.i2l, 1) := by decide +kernel
theorem dX11_numberOf_53 : decode cX11_numberOf 53 = .ok (.lreturn, 1) := by decide +kernel
theorem dX11_numberOf_54 : decode cX11_numberOf 54 = .ok (.ldc_w 271, 3) := by decide +kernel
theorem dX11_numberOf_57 : decode cX11_numberOf 57 = .ok (.lload_n 1, 1) := by decide +kernel
theorem dX11_numberOf_58 : decode cX11_numberOf 58 = .ok (.l2f, 1) := by decide +kernel
theorem dX11_numberOf_59 : decode cX11_numberOf 59 = .ok (.ldc_w 271, 3) := by decide +kernel
theorem dX11_numberOf_62 : decode cX11_numberOf 62 = .ok (.fdiv, 1) := by decide +kernel
theorem dX11_numberOf_63 : decode cX11_numberOf 63 = .ok (.fmul, 1) := by decide +kernel
theorem dX11_numberOf_64 : decode cX11_numberOf 64 = .ok (.f2l, 1) := by decide +kernel
theorem dX11_numberOf_65 : decode cX11_numberOf 65 = .ok (.lreturn, 1) := by decide +kernel
theorem dX11_numberOf_66 : decode cX11_numberOf 66 = .ok (.ldc2_w 272, 3) := by decide +kernel
theorem dX11_numberOf_69 : decode cX11_numberOf 69 = .ok (.lload_n 1, 1) := by decide +kernel
theorem dX11_numberOf_70 : decode cX11_numberOf 70 = .ok (.l2d, 1) := by decide +kernel
theorem dX11_numberOf_71 : decode cX11_numberOf 71 = .ok (.ldc2_w 272, 3) := by decide +kernel
theorem dX11_numberOf_74 : decode cX11_numberOf 74 = .ok (.ddiv, 1) := by decide +kernel
theorem dX11_numberOf_75 : decode cX11_numberOf 75 = .ok (.dmul, 1) := by decide +kernel
theorem dX11_numberOf_76 : decode cX11_numberOf 76 = .ok (.d2l, 1) := by decide +kernel
theorem dX11_numberOf_77 : decode cX11_numberOf 77 = .ok (.lreturn, 1) := by decide +kernel
theorem dX11_numberOf_78 : decode cX11_numberOf 78 = .ok (.lload_n 1, 1) := by decide +kernel
theorem dX11_numberOf_79 : decode cX11_numberOf 79 = .ok (.lreturn, 1) := by decide +kernel
theorem dX12_init_0 : decode cX12_init 0 = .ok (.aload_n 0, 1) := by decide +kernel
theorem dX12_init_1 : decode cX12_init 1 = .ok (.invokespecial 1, 3) := by decide +kernel
theorem dX12_init_4 : decode cX12_init 4 = .ok (.aload_n 0, 1) := by decide +kernel
theorem dX12_init_5 : decode cX12_init 5 = .ok (.bipush 6, 2) := by decide +kernel
theorem dX12_init_7 : decode cX12_init 7 = .ok (.newarray .int, 2) := by decide +kernel
theorem dX12_init_9 : decode cX12_init 9 = .ok (.putfield 7, 3) := by decide +kernel
theorem dX12_init_12 : decode cX12_init 12 = .ok (.aload_n 0, 1) := by decide +kernel
theorem dX12_init_13 : decode cX12_init 13 = .ok (.bipush 6, 2) := by decide +kernel
theorem dX12_init_15 : decode cX12_init 15 = .ok (.newarray .int, 2) := by decide +kernel
theorem dX12_init_17 : decode cX12_init 17 = .ok (.putfield 13, 3) := by decide +kernel
theorem dX12_init_20 : decode cX12_init 20 = .ok (.aload_n 0, 1) := by decide +kernel
theorem dX12_init_21 : decode cX12_init 21 = .ok (.bipush 120, 2) := by decide +kernel
theorem dX12_init_23 : decode cX12_init 23 = .ok (.newarray .int, 2) := by decide +kernel
theorem dX12_init_25 : decode cX12_init 25 = .ok (.putfield 16, 3) := by decide +kernel
theorem dX12_init_28 : decode cX12_init 28 = .ok (.aload_n 0, 1) := by decide +kernel
theorem dX12_init_29 : decode cX12_init 29 = .ok (.sipush 600, 3) := by decide +kernel
theorem dX12_init_32 : decode cX12_init 32 = .ok (.newarray .int, 2) := by decide +kernel
theorem dX12_init_34 : decode cX12_init 34 = .ok (.putfield 19, 3) := by decide +kernel
theorem dX12_init_37 : decode cX12_init 37 = .ok (.aload_n 0, 1) := by decide +kernel
theorem dX12_init_38 : decode cX12_init 38 = .ok (.sipush 7200, 3) := by decide +kernel
theorem dX12_init_41 : decode cX12_init 41 = .ok (.newarray .long, 2) := by decide +kernel
theorem dX12_init_43 : decode cX12_init 43 = .ok (.putfield 22, 3) := by decide +kernel
theorem dX12_init_46 : decode cX12_init 46 = .ok (.aload_n 0, 1) := by decide +kernel
theorem dX12_init_47 : decode cX12_init 47 = .ok (.bipush 20, 2) := by decide +kernel
theorem dX12_init_49 : decode cX12_init 49 = .ok (.newarray .int, 2) := by decide +kernel
theorem dX12_init_51 : decode cX12_init 51 = .ok (.putfield 26, 3) := by decide +kernel
theorem dX12_init_54 : decode cX12_init 54 = .ok (.aload_n 0, 1) := by decide +kernel
theorem dX12_init_55 : decode cX12_init 55 = .ok (.bipush 20, 2) := by decide +kernel
theorem dX12_init_57 : decode cX12_init 57 = .ok (.newarray .int, 2) := by decide +kernel
theorem dX12_init_59 : decode cX12_init 59 = .ok (.putfield 29, 3) := by decide +kernel
theorem dX12_init_62 : decode cX12_init 62 = .ok (.aload_n 0, 1) := by decide +kernel
theorem dX12_init_63 : decode cX12_init 63 = .ok (.bipush 20, 2) := by decide +kernel
theorem dX12_init_65 : decode cX12_init 65 = .ok (.newarray .long, 2) := by decide +kernel
theorem dX12_init_67 : decode cX12_init 67 = .ok (.putfield 32, 3) := by decide +kernel
theorem dX12_init_70 : decode cX12_init 70 = .ok (.aload_n 0, 1) := by decide +kernel
theorem dX12_init_71 : decode cX12_init 71 = .ok (.bipush 20, 2) := by decide +kernel
theorem dX12_init_73 : decode cX12_init 73 = .ok (.newarray .int, 2) := by decide +kernel
theorem dX12_init_75 : decode cX12_init 75 = .ok (.putfield 35, 3) := by decide +kernel
theorem dX12_init_78 : decode cX12_init 78 = .ok (.aload_n 0, 1) := by decide +kernel
theorem dX12_init_79 : decode cX12_init 79 = .ok (.bipush 20, 2) := by decide +kernel
theorem dX12_init_81 : decode cX12_init 81 = .ok (.newarray .int, 2) := by decide +kernel
theorem dX12_init_83 : decode cX12_init 83 = .ok (.putfield 38, 3) := by decide +kernel
theorem dX12_init_86 : decode cX12_init 86 = .ok (.aload_n 0, 1) := by decide +kernel
theorem dX12_init_87 : decode cX12_init 87 = .ok (.bipush 20, 2) := by decide +kernel
theorem dX12_init_89 : decode cX12_init 89 = .ok (.newarray .int, 2) := by decide +kernel
theorem dX12_init_91 : decode cX12_init 91 = .ok (.putfield 41, 3) := by decide +kernel
theorem dX12_init_94 : decode cX12_init 94 = .ok (.aload_n 0, 1) := by decide +kernel
theorem dX12_init_95 : decode cX12_init 95 = .ok (.bipush 20, 2) := by decide +kernel
theorem dX12_init_97 : decode cX12_init 97 = .ok (.newarray .int, 2) := by decide +kernel
theorem dX12_init_99 : decode cX12_init 99 = .ok (.putfield 44, 3) := by decide +kernel
theorem dX12_init_102 : decode cX12_init 102 = .ok (.aload_n 0, 1) := by decide +kernel
theorem dX12_init_103 : decode cX12_init 103 = .ok (.bipush 20, 2) := by decide +kernel
theorem dX12_init_105 : decode cX12_init 105 = .ok (.newarray .int, 2) := by decide +kernel
theorem dX12_init_107 : decode cX12_init 107 = .ok (.putfield 47, 3) := by decide +kernel
theorem dX12_init_110 : decode cX12_init 110 = .ok (.aload_n 0, 1) := by decide +kernel
theorem dX12_init_111 : decode cX12_init 111 = .ok (.bipush 20, 2) := by decide +kernel
theorem dX12_init_113 : decode cX12_init 113 = .ok (.newarray .int, 2) := by decide +kernel
theorem dX12_init_115 : decode cX12_init 115 = .ok (.putfield 50, 3) := by decide +kernel
theorem dX12_init_118 : decode cX12_init 118 = .ok (.aload_n 0, 1) := by decide +kernel
theorem dX12_init_119 : decode cX12_init 119 = .ok (.bipush 8, 2) := by decide +kernel
theorem dX12_init_121 : decode cX12_init 121 = .ok (.newarray .int, 2) := by decide +kernel
theorem dX12_init_123 : decode cX12_init 123 = .ok (.putfield 53, 3) := by decide +kernel
theorem dX12_init_126 : decode cX12_init 126 = .ok (.aload_n 0, 1) := by decide +kernel
theorem dX12_init_127 : decode cX12_init 127 = .ok (.bipush 8, 2) := by decide +kernel
theorem dX12_init_129 : decode cX12_init 129 = .ok (.newarray .int, 2) := by decide +kernel
theorem dX12_init_131 : decode cX12_init 131 = .ok (.putfield 56, 3) := by decide +kernel
theorem dX12_init_134 : decode cX12_init 134 = .ok (.aload_n 0, 1) := by decide +kernel
theorem dX12_init_135 : decode cX12_init 135 = .ok (.bipush 8, 2) := by decide +kernel
theorem dX12_init_137 : decode cX12_init 137 = .ok (.newarray .int, 2) := by decide +kernel
theorem dX12_init_139 : decode cX12_init 139 = .ok (.putfield 59, 3) := by decide +kernel
theorem dX12_init_142 : decode cX12_init 142 = .ok (.aload_n 0, 1) := by decide +kernel
theorem dX12_init_143 : decode cX12_init 143 = .ok (.bipush 8, 2) := by decide +kernel
theorem dX12_init_145 : decode cX12_init 145 = .ok (.newarray .long, 2) := by decide +kernel
theorem dX12_init_147 : decode cX12_init 147 = .ok (.putfield 62, 3) := by decide +kernel
theorem dX12_init_150 : decode cX12_init 150 = .ok (.aload_n 0, 1) := by decide +kernel
theorem dX12_init_151 : decode cX12_init 151 = .ok (.sipush 400, 3) := by decide +kernel
theorem dX12_init_154 : decode cX12_init 154 = .ok (.newarray .int, 2) := by decide +kernel
theorem dX12_init_156 : decode cX12_init 156 = .ok (.putfield 65, 3) := by decide +kernel
theorem dX12_init_159 : decode cX12_init 159 = .ok (.aload_n 0, 1) := by decide +kernel
theorem dX12_init_160 : decode cX12_init 160 = .ok (.sipush 310, 3) := by decide +kernel
theorem dX12_init_163 : decode cX12_init 163 = .ok (.newarray .int, 2) := by decide +kernel
theorem dX12_init_165 : decode cX12_init 165 = .ok (.putfield 68, 3) := by decide +kernel
theorem dX12_init_168 : decode cX12_init 168 = .ok (.aload_n 0, 1) := by decide +kernel
theorem dX12_init_169 : decode cX12_init 169 = .ok (.sipush 310, 3) := by decide +kernel
theorem dX12_init_172 : decode cX12_init 172 = .ok (.newarray .int, 2) := by decide +kernel
theorem dX12_init_174 : decode cX12_init 174 = .ok (.putfield 71, 3) := by decide +kernel
theorem dX12_init_177 : decode cX12_init 177 = .ok (.aload_n 0, 1) := by decide +kernel
theorem dX12_init_178 : decode cX12_init 178 = .ok (.bipush 36, 2) := by decide +kernel
theorem dX12_init_180 : decode cX12_init 180 = .ok (.newarray .long, 2) := by decide +kernel
theorem dX12_init_182 : decode cX12_init 182 = .ok (.putfield 74, 3) := by decide +kernel
theorem dX12_init_185 : decode cX12_init 185 = .ok (.aload_n 0, 1) := by decide +kernel
theorem dX12_init_186 : decode cX12_init 186 = .ok (.bipush 36, 2) := by decide +kernel
theorem dX12_init_188 : decode cX12_init 188 = .ok (.newarray .long, 2) := by decide +kernel
theorem dX12_init_190 : decode cX12_init 190 = .ok (.putfield 77, 3) := by decide +kernel
theorem dX12_init_193 : decode cX12_init 193 = .ok (.aload_n 0, 1) := by decide +kernel
theorem dX12_init_194 : decode cX12_init 194 = .ok (.sipush 310, 3) := by decide +kernel
theorem dX12_init_197 : decode cX12_init 197 = .ok (.newarray .int, 2) := by decide +kernel
theorem dX12_init_199 : decode cX12_init 199 = .ok (.putfield 80, 3) := by decide +kernel
theorem dX12_init_202 : decode cX12_init 202 = .ok (.aload_n 0, 1) := by decide +kernel
theorem dX12_init_203 : decode cX12_init 203 = .ok (.bipush 36, 2) := by decide +kernel
theorem dX12_init_205 : decode cX12_init 205 = .ok (.newarray .long, 2) := by decide +kernel
theorem dX12_init_207 : decode cX12_init 207 = .ok (.putfield 83, 3) := by decide +kernel
theorem dX12_init_210 : decode cX12_init 210 = .ok (.aload_n 0, 1) := by decide +kernel
theorem dX12_init_211 : decode cX12_init 211 = .ok (.iload_n 1, 1) := by decide +kernel
theorem dX12_init_212 : decode cX12_init 212 = .ok (.iconst 1, 1) := by decide +kernel
theorem dX12_init_213 : decode cX12_init 213 = .ok (.if_icmp .ge 7, 3) := by decide +kernel
theorem dX12_init_216 : decode cX12_init 216 = .ok (.iconst 1, 1) := by decide +kernel
theorem dX12_init_217 : decode cX12_init 217 = .ok (.goto 15, 3) := by decide +kernel
theorem dX12_init_220 : decode cX12_init 220 = .ok (.iload_n 1, 1) := by decide +kernel
theorem dX12_init_221 : decode cX12_init 221 = .ok (.bipush 6, 2) := by decide +kernel
theorem dX12_init_223 : decode cX12_init 223 = .ok (.if_icmp .le 8, 3) := by decide +kernel
theorem dX12_init_226 : decode cX12_init 226 = .ok (.bipush 6, 2) := by decide +kernel
theorem dX12_init_228 : decode cX12_init 228 = .ok (.goto 4, 3) := by decide +kernel
theorem dX12_init_231 : decode cX12_init 231 = .ok (.iload_n 1, 1) := by decide +kernel
theorem dX12_init_232 : decode cX12_init 232 = .ok (.putfield 86, 3) := by decide +kernel
theorem dX12_init_235 : decode cX12_init 235 = .ok (.aload_n 0, 1) := by decide +kernel
theorem dX12_init_236 : decode cX12_init 236 = .ok (.iload_n 2, 1) := by decide +kernel
theorem dX12_init_237 : decode cX12_init 237 = .ok (.ifCond .ge 7, 3) := by decide +kernel
theorem dX12_init_240 : decode cX12_init 240 = .ok (.iconst 0, 1) := by decide +kernel
theorem dX12_init_241 : decode cX12_init 241 = .ok (.goto 17, 3) := by decide +kernel
theorem dX12_init_244 : decode cX12_init 244 = .ok (.iload_n 2, 1) := by decide +kernel
theorem dX12_init_245 : decode cX12_init 245 = .ok (.sipush 1000, 3) := by decide +kernel
theorem dX12_init_248 : decode cX12_init 248 = .ok (.if_icmp .le 9, 3) := by decide +kernel
theorem dX12_init_251 : decode cX12_init 251 = .ok (.sipush 1000, 3) := by decide +kernel
theorem dX12_init_254 : decode cX12_init 254 = .ok (.goto 4, 3) := by decide +kernel
theorem dX12_init_257 : decode cX12_init 257 = .ok (.iload_n 2, 1) := by decide +kernel
theorem dX12_init_258 : decode cX12_init 258 = .ok (.putfield 90, 3) := by decide +kernel
theorem dX12_init_261 : decode cX12_init 261 = .ok (.aload_n 0, 1) := by decide +kernel
theorem dX12_init_262 : decode cX12_init 262 = .ok (.invokevirtual 93, 3) := by decide +kernel
theorem dX12_init_265 : decode cX12_init 265 = .ok (.return_, 1) := by decide +kernel
theorem dX12_in_0 : decode cX12_in 0 = .ok (.iload_n 0, 1) := by decide +kernel
theorem dX12_in_1 : decode cX12_in 1 = .ok (.iload_n 1, 1) := by decide +kernel
theorem dX12_in_2 : decode cX12_in 2 = .ok (.if_icmp .lt 12, 3) := by decide +kernel
theorem dX12_in_5 : decode cX12_in 5 = .ok (.iload_n 0, 1) := by decide +kernel
theorem dX12_in_6 : decode cX12_in 6 = .ok (.iload_n 2, 1) := by decide +kernel
theorem dX12_in_7 : decode cX12_in 7 = .ok (.if_icmp .gt 7, 3) := by decide +kernel
theorem dX12_in_10 : decode cX12_in 10 = .ok (.iconst 1, 1) := by decide +kernel
theorem dX12_in_11 : decode cX12_in 11 = .ok (.goto 4, 3) := by decide +kernel
theorem dX12_in_14 : decode cX12_in 14 = .ok (.iconst 0, 1) := by decide +kernel
theorem dX12_in_15 : decode cX12_in 15 = .ok (.ireturn, 1) := by decide +kernel
theorem dX12_begins_0 : decode cX12_begins 0 = .ok (.iconst 0, 1) := by decide +kernel
theorem dX12_begins_1 : decode cX12_begins 1 = .ok (.istore_n 1, 1) := by decide +kernel
theorem dX12_begins_2 : decode cX12_begins 2 = .ok (.iload_n 1, 1) := by decide +kernel
theorem dX12_begins_3 : decode cX12_begins 3 = .ok (.sipush 310, 3) := by decide +kernel
theorem dX12_begins_6 : decode cX12_begins 6 = .ok (.if_icmp .ge 16, 3) := by decide +kernel
theorem dX12_begins_9 : decode cX12_begins 9 = .ok (.aload_n 0, 1) := by decide +kernel
theorem dX12_begins_10 : decode cX12_begins 10 = .ok (.getfield 68, 3) := by decide +kernel
theorem dX12_begins_13 : decode cX12_begins 13 = .ok (.iload_n 1, 1) := by decide +kernel
theorem dX12_begins_14 : decode cX12_begins 14 = .ok (.iconst 0, 1) := by decide +kernel
theorem dX12_begins_15 : decode cX12_begins 15 = .ok (.iastore, 1) := by decide +kernel
theorem dX12_begins_16 : decode cX12_begins 16 = .ok (.iinc 1 1, 3) := by decide +kernel
theorem dX12_begins_19 : decode cX12_begins 19 = .ok (.goto (-17), 3) := by decide +kernel
theorem dX12_begins_22 : decode cX12_begins 22 = .ok (.iconst 0, 1) := by decide +kernel
theorem dX12_begins_23 : decode cX12_begins 23 = .ok (.istore_n 1, 1) := by decide +kernel
theorem dX12_begins_24 : decode cX12_begins 24 = .ok (.iload_n 1, 1) := by decide +kernel
theorem dX12_begins_25 : decode cX12_begins 25 = .ok (.bipush 20, 2) := by decide +kernel
theorem dX12_begins_27 : decode cX12_begins 27 = .ok (.if_icmp .ge 29, 3) := by decide +kernel
theorem dX12_begins_30 : decode cX12_begins 30 = .ok (.aload_n 0, 1) := by decide +kernel
theorem dX12_begins_31 : decode cX12_begins 31 = .ok (.getfield 68, 3) := by decide +kernel
theorem dX12_begins_34 : decode cX12_begins 34 = .ok (.bipush 12, 2) := by decide +kernel
theorem dX12_begins_36 : decode cX12_begins 36 = .ok (.iload_n 1, 1) := by decide +kernel
theorem dX12_begins_37 : decode cX12_begins 37 = .ok (.imul, 1) := by decide +kernel
theorem dX12_begins_38 : decode cX12_begins 38 = .ok (.iconst 5, 1) := by decide +kernel
theorem dX12_begins_39 : decode cX12_begins 39 = .ok (.iadd, 1) := by decide +kernel
theorem dX12_begins_40 : decode cX12_begins 40 = .ok (.bipush (-9), 2) := by decide +kernel
theorem dX12_begins_42 : decode cX12_begins 42 = .ok (.iastore, 1) := by decide +kernel
theorem dX12_begins_43 : decode cX12_begins 43 = .ok (.aload_n 0, 1) := by decide +kernel
theorem dX12_begins_44 : decode cX12_begins 44 = .ok (.getfield 74, 3) := by decide +kernel
theorem dX12_begins_47 : decode cX12_begins 47 = .ok (.iload_n 1, 1) := by decide +kernel
theorem dX12_begins_48 : decode cX12_begins 48 = .ok (.lconst 0, 1) := by decide +kernel
theorem dX12_begins_49 : decode cX12_begins 49 = .ok (.lastore, 1) := by decide +kernel
theorem dX12_begins_50 : decode cX12_begins 50 = .ok (.iinc 1 1, 3) := by decide +kernel
theorem dX12_begins_53 : decode cX12_begins 53 = .ok (.goto (-29), 3) := by decide +kernel
theorem dX12_begins_56 : decode cX12_begins 56 = .ok (.iconst 0, 1) := by decide +kernel
theorem dX12_begins_57 : decode cX12_begins 57 = .ok (.istore_n 1, 1) := by decide +kernel
theorem dX12_begins_58 : decode cX12_begins 58 = .ok (.iload_n 1, 1) := by decide +kernel
theorem dX12_begins_59 : decode cX12_begins 59 = .ok (.bipush 6, 2) := by decide +kernel
theorem dX12_begins_61 : decode cX12_begins 61 = .ok (.if_icmp .ge 21, 3) := by decide +kernel
theorem dX12_begins_64 : decode cX12_begins 64 = .ok (.aload_n 0, 1) := by decide +kernel
theorem dX12_begins_65 : decode cX12_begins 65 = .ok (.getfield 68, 3) := by decide +kernel
theorem dX12_begins_68 : decode cX12_begins 68 = .ok (.sipush 250, 3) := by decide +kernel
theorem dX12_begins_71 : decode cX12_begins 71 = .ok (.iload_n 1, 1) := by decide +kernel
theorem dX12_begins_72 : decode cX12_begins 72 = .ok (.iadd, 1) := by decide +kernel
theorem dX12_begins_73 : decode cX12_begins 73 = .ok (.bipush (-9), 2) := by decide +kernel
theorem dX12_begins_75 : decode cX12_begins 75 = .ok (.iastore, 1) := by decide +kernel
theorem dX12_begins_76 : decode cX12_begins 76 = .ok (.iinc 1 1, 3) := by decide +kernel
theorem dX12_begins_79 : decode cX12_begins 79 = .ok (.goto (-21), 3) := by decide +kernel
theorem dX12_begins_82 : decode cX12_begins 82 = .ok (.iconst 0, 1) := by decide +kernel
theorem dX12_begins_83 : decode cX12_begins 83 = .ok (.istore_n 1, 1) := by decide +kernel
theorem dX12_begins_84 : decode cX12_begins 84 = .ok (.iload_n 1, 1) := by decide +kernel
theorem dX12_begins_85 : decode cX12_begins 85 = .ok (.bipush 8, 2) := by decide +kernel
theorem dX12_begins_87 : decode cX12_begins 87 = .ok (.if_icmp .ge 48, 3) := by decide +kernel
theorem dX12_begins_90 : decode cX12_begins 90 = .ok (.aload_n 0, 1) := by decide +kernel
theorem dX12_begins_91 : decode cX12_begins 91 = .ok (.getfield 68, 3) := by decide +kernel
theorem dX12_begins_94 : decode cX12_begins 94 = .ok (.sipush 302, 3) := by decide +kernel
theorem dX12_begins_97 : decode cX12_begins 97 = .ok (.iload_n 1, 1) := by decide +kernel
theorem dX12_begins_98 : decode cX12_begins 98 = .ok (.iadd, 1) := by decide +kernel
theorem dX12_begins_99 : decode cX12_begins 99 = .ok (.bipush (-9), 2) := by decide +kernel
theorem dX12_begins_101 : decode cX12_begins 101 = .ok (.iastore, 1) := by decide +kernel
theorem dX12_begins_102 : decode cX12_begins 102 = .ok (.aload_n 0, 1) := by decide +kernel
theorem dX12_begins_103 : decode cX12_begins 103 = .ok (.getfield 74, 3) := by decide +kernel
theorem dX12_begins_106 : decode cX12_begins 106 = .ok (.bipush 20, 2) := by decide +kernel
theorem dX12_begins_108 : decode cX12_begins 108 = .ok (.iload_n 1, 1) := by decide +kernel
theorem dX12_begins_109 : decode cX12_begins 109 = .ok (.iadd, 1) := by decide +kernel
theorem dX12_begins_110 : decode cX12_begins 110 = .ok (.ldc2_w 99, 3) := by decide +kernel
theorem dX12_begins_113 : decode cX12_begins 113 = .ok (.lastore, 1) := by decide +kernel
theorem dX12_begins_114 : decode cX12_begins 114 = .ok (.aload_n 0, 1) := by decide +kernel
theorem dX12_begins_115 : decode cX12_begins 115 = .ok (.getfield 74, 3) := by decide +kernel
theorem dX12_begins_118 : decode cX12_begins 118 = .ok (.bipush 28, 2) := by decide +kernel
theorem dX12_begins_120 : decode cX12_begins 120 = .ok (.iload_n 1, 1) := by decide +kernel
theorem dX12_begins_121 : decode cX12_begins 121 = .ok (.iadd, 1) := by decide +kernel
theorem dX12_begins_122 : decode cX12_begins 122 = .ok (.aload_n 0, 1) := by decide +kernel
theorem dX12_begins_123 : decode cX12_begins 123 = .ok (.getfield 62, 3) := by decide +kernel
theorem dX12_begins_126 : decode cX12_begins 126 = .ok (.iload_n 1, 1) := by decide +kernel
theorem dX12_begins_127 : decode cX12_begins 127 = .ok (.laload, 1) := by decide +kernel
theorem dX12_begins_128 : decode cX12_begins 128 = .ok (.lastore, 1) := by decide +kernel
theorem dX12_begins_129 : decode cX12_begins 129 = .ok (.iinc 1 1, 3) := by decide +kernel
theorem dX12_begins_132 : decode cX12_begins 132 = .ok (.goto (-48), 3) := by decide +kernel
theorem dX12_begins_135 : decode cX12_begins 135 = .ok (.aload_n 0, 1) := by decide +kernel
theorem dX12_begins_136 : decode cX12_begins 136 = .ok (.getfield 68, 3) := by decide +kernel
theorem dX12_begins_139 : decode cX12_begins 139 = .ok (.sipush 242, 3) := by decide +kernel
theorem dX12_begins_142 : decode cX12_begins 142 = .ok (.aload_n 0, 1) := by decide +kernel
theorem dX12_begins_143 : decode cX12_begins 143 = .ok (.getfield 90, 3) := by decide +kernel
theorem dX12_begins_146 : decode cX12_begins 146 = .ok (.iastore, 1) := by decide +kernel
theorem dX12_begins_147 : decode cX12_begins 147 = .ok (.aload_n 0, 1) := by decide +kernel
theorem dX12_begins_148 : decode cX12_begins 148 = .ok (.getfield 68, 3) := by decide +kernel
theorem dX12_begins_151 : decode cX12_begins 151 = .ok (.sipush 245, 3) := by decide +kernel
theorem dX12_begins_154 : decode cX12_begins 154 = .ok (.bipush (-9), 2) := by decide +kernel
theorem dX12_begins_156 : decode cX12_begins 156 = .ok (.iastore, 1) := by decide +kernel
theorem dX12_begins_157 : decode cX12_begins 157 = .ok (.aload_n 0, 1) := by decide +kernel
theorem dX12_begins_158 : decode cX12_begins 158 = .ok (.getfield 68, 3) := by decide +kernel
theorem dX12_begins_161 : decode cX12_begins 161 = .ok (.sipush 247, 3) := by decide +kernel
theorem dX12_begins_164 : decode cX12_begins 164 = .ok (.aload_n 0, 1) := by decide +kernel
theorem dX12_begins_165 : decode cX12_begins 165 = .ok (.getfield 101, 3) := by decide +kernel
theorem dX12_begins_168 : decode cX12_begins 168 = .ok (.iastore, 1) := by decide +kernel
theorem dX12_begins_169 : decode cX12_begins 169 = .ok (.aload_n 0, 1) := by decide +kernel
theorem dX12_begins_170 : decode cX12_begins 170 = .ok (.getfield 68, 3) := by decide +kernel
theorem dX12_begins_173 : decode cX12_begins 173 = .ok (.sipush 248, 3) := by decide +kernel
theorem dX12_begins_176 : decode cX12_begins 176 = .ok (.aload_n 0, 1) := by decide +kernel
theorem dX12_begins_177 : decode cX12_begins 177 = .ok (.getfield 101, 3) := by decide +kernel
theorem dX12_begins_180 : decode cX12_begins 180 = .ok (.iastore, 1) := by decide +kernel
theorem dX12_begins_181 : decode cX12_begins 181 = .ok (.return_, 1) := by decide +kernel
theorem dX12_isOpen_0 : decode cX12_isOpen 0 = .ok (.aload_n 0, 1) := by decide +kernel
theorem dX12_isOpen_1 : decode cX12_isOpen 1 = .ok (.getfield 68, 3) := by decide +kernel
theorem dX12_isOpen_4 : decode cX12_isOpen 4 = .ok (.sipush 246, 3) := by decide +kernel
theorem dX12_isOpen_7 : decode cX12_isOpen 7 = .ok (.iaload, 1) := by decide +kernel
theorem dX12_isOpen_8 : decode cX12_isOpen 8 = .ok (.iconst 1, 1) := by decide +kernel
theorem dX12_isOpen_9 : decode cX12_isOpen 9 = .ok (.if_icmp .ne 7, 3) := by decide +kernel
theorem dX12_isOpen_12 : decode cX12_isOpen 12 = .ok (.iconst 1, 1) := by decide +kernel
theorem dX12_isOpen_13 : decode cX12_isOpen 13 = .ok (.goto 4, 3) := by decide +kernel
theorem dX12_isOpen_16 : decode cX12_isOpen 16 = .ok (.iconst 0, 1) := by decide +kernel
theorem dX12_isOpen_17 : decode cX12_isOpen 17 = .ok (.ireturn, 1) := by decide +kernel
theorem dX12_isGrid_0 : decode cX12_isGrid 0 = .ok (.iload_n 1, 1) := by decide +kernel
theorem dX12_isGrid_1 : decode cX12_isGrid 1 = .ok (.iconst 0, 1) := by decide +kernel
theorem dX12_isGrid_2 : decode cX12_isGrid 2 = .ok (.aload_n 0, 1) := by decide +kernel
theorem dX12_isGrid_3 : decode cX12_isGrid 3 = .ok (.getfield 104, 3) := by decide +kernel
theorem dX12_isGrid_6 : decode cX12_isGrid 6 = .ok (.iconst 1, 1) := by decide +kernel
theorem dX12_isGrid_7 : decode cX12_isGrid 7 = .ok (.isub, 1) := by decide +kernel
theorem dX12_isGrid_8 : decode cX12_isGrid 8 = .ok (.invokestatic 107, 3) := by decide +kernel
theorem dX12_isGrid_11 : decode cX12_isGrid 11 = .ok (.ireturn, 1) := by decide +kernel
theorem dX12_isTask_0 : decode cX12_isTask 0 = .ok (.iload_n 1, 1) := by decide +kernel
theorem dX12_isTask_1 : decode cX12_isTask 1 = .ok (.iconst 0, 1) := by decide +kernel
theorem dX12_isTask_2 : decode cX12_isTask 2 = .ok (.aload_n 0, 1) := by decide +kernel
theorem dX12_isTask_3 : decode cX12_isTask 3 = .ok (.getfield 101, 3) := by decide +kernel
theorem dX12_isTask_6 : decode cX12_isTask 6 = .ok (.iconst 1, 1) := by decide +kernel
theorem dX12_isTask_7 : decode cX12_isTask 7 = .ok (.isub, 1) := by decide +kernel
theorem dX12_isTask_8 : decode cX12_isTask 8 = .ok (.invokestatic 107, 3) := by decide +kernel
theorem dX12_isTask_11 : decode cX12_isTask 11 = .ok (.ireturn, 1) := by decide +kernel
theorem dX12_newLine_0 : decode cX12_newLine 0 = .ok (.iload_n 1, 1) := by decide +kernel
theorem dX12_newLine_1 : decode cX12_newLine 1 = .ok (.bipush 13, 2) := by decide +kernel
theorem dX12_newLine_3 : decode cX12_newLine 3 = .ok (.if_icmp .ne 5, 3) := by decide +kernel
theorem dX12_newLine_6 : decode cX12_newLine 6 = .ok (.iconst (-1), 1) := by decide +kernel
theorem dX12_newLine_7 : decode cX12_newLine 7 = .ok (.ireturn, 1) := by decide +kernel
theorem dX12_newLine_8 : decode cX12_newLine 8 = .ok (.aload_n 0, 1) := by decide +kernel
theorem dX12_newLine_9 : decode cX12_newLine 9 = .ok (.getfield 19, 3) := by decide +kernel
theorem dX12_newLine_12 : decode cX12_newLine 12 = .ok (.aload_n 0, 1) := by decide +kernel
theorem dX12_newLine_13 : decode cX12_newLine 13 = .ok (.getfield 111, 3) := by decide +kernel
theorem dX12_newLine_16 : decode cX12_newLine 16 = .ok (.iload_n 1, 1) := by decide +kernel
theorem dX12_newLine_17 : decode cX12_newLine 17 = .ok (.iastore, 1) := by decide +kernel
theorem dX12_newLine_18 : decode cX12_newLine 18 = .ok (.aload_n 0, 1) := by decide +kernel
theorem dX12_newLine_19 : decode cX12_newLine 19 = .ok (.dup, 1) := by decide +kernel
theorem dX12_newLine_20 : decode cX12_newLine 20 = .ok (.getfield 111, 3) := by decide +kernel
theorem dX12_newLine_23 : decode cX12_newLine 23 = .ok (.iconst 1, 1) := by decide +kernel
theorem dX12_newLine_24 : decode cX12_newLine 24 = .ok (.iadd, 1) := by decide +kernel
theorem dX12_newLine_25 : decode cX12_newLine 25 = .ok (.putfield 111, 3) := by decide +kernel
theorem dX12_newLine_28 : decode cX12_newLine 28 = .ok (.aload_n 0, 1) := by decide +kernel
theorem dX12_newLine_29 : decode cX12_newLine 29 = .ok (.getfield 111, 3) := by decide +kernel
theorem dX12_newLine_32 : decode cX12_newLine 32 = .ok (.iconst 1, 1) := by decide +kernel
theorem dX12_newLine_33 : decode cX12_newLine 33 = .ok (.isub, 1) := by decide +kernel
theorem dX12_newLine_34 : decode cX12_newLine 34 = .ok (.ireturn, 1) := by decide +kernel
theorem dX12_grid_0 : decode cX12_grid 0 = .ok (.aload_n 0, 1) := by decide +kernel
theorem dX12_grid_1 : decode cX12_grid 1 = .ok (.iconst 0, 1) := by decide +kernel
theorem dX12_grid_2 : decode cX12_grid 2 = .ok (.putfield 96, 3) := by decide +kernel
theorem dX12_grid_5 : decode cX12_grid 5 = .ok (.iload_n 1, 1) := by decide +kernel
theorem dX12_grid_6 : decode cX12_grid 6 = .ok (.iconst 0, 1) := by decide +kernel
theorem dX12_grid_7 : decode cX12_grid 7 = .ok (.iconst 5, 1) := by decide +kernel
theorem dX12_grid_8 : decode cX12_grid 8 = .ok (.invokestatic 107, 3) := by decide +kernel
theorem dX12_grid_11 : decode cX12_grid 11 = .ok (.ifCond .eq 15, 3) := by decide +kernel
theorem dX12_grid_14 : decode cX12_grid 14 = .ok (.iload_n 2, 1) := by decide +kernel
theorem dX12_grid_15 : decode cX12_grid 15 = .ok (.bipush 12, 2) := by decide +kernel
theorem dX12_grid_17 : decode cX12_grid 17 = .ok (.if_icmp .gt 9, 3) := by decide +kernel
theorem dX12_grid_20 : decode cX12_grid 20 = .ok (.iload_n 3, 1) := by decide +kernel
theorem dX12_grid_21 : decode cX12_grid 21 = .ok (.bipush 13, 2) := by decide +kernel
theorem dX12_grid_23 : decode cX12_grid 23 = .ok (.if_icmp .le 5, 3) := by decide +kernel
theorem dX12_grid_26 : decode cX12_grid 26 = .ok (.iconst (-1), 1) := by decide +kernel
theorem dX12_grid_27 : decode cX12_grid 27 = .ok (.ireturn, 1) := by decide +kernel
theorem dX12_grid_28 : decode cX12_grid 28 = .ok (.aload_n 0, 1) := by decide +kernel
theorem dX12_grid_29 : decode cX12_grid 29 = .ok (.invokevirtual 114, 3) := by decide +kernel
theorem dX12_grid_32 : decode cX12_grid 32 = .ok (.ifCond .eq 6, 3) := by decide +kernel
theorem dX12_grid_35 : decode cX12_grid 35 = .ok (.bipush (-2), 2) := by decide +kernel
theorem dX12_grid_37 : decode cX12_grid 37 = .ok (.ireturn, 1) := by decide +kernel
theorem dX12_grid_38 : decode cX12_grid 38 = .ok (.aload_n 0, 1) := by decide +kernel
theorem dX12_grid_39 : decode cX12_grid 39 = .ok (.getfield 104, 3) := by decide +kernel
theorem dX12_grid_42 : decode cX12_grid 42 = .ok (.bipush 6, 2) := by decide +kernel
theorem dX12_grid_44 : decode cX12_grid 44 = .ok (.if_icmp .ne 6, 3) := by decide +kernel
theorem dX12_grid_47 : decode cX12_grid 47 = .ok (.bipush (-3), 2) := by decide +kernel
theorem dX12_grid_49 : decode cX12_grid 49 = .ok (.ireturn, 1) := by decide +kernel
theorem dX12_grid_50 : decode cX12_grid 50 = .ok (.iload_n 2, 1) := by decide +kernel
theorem dX12_grid_51 : decode cX12_grid 51 = .ok (.ifCond .lt 7, 3) := by decide +kernel
theorem dX12_grid_54 : decode cX12_grid 54 = .ok (.iload_n 3, 1) := by decide +kernel
theorem dX12_grid_55 : decode cX12_grid 55 = .ok (.ifCond .ge 6, 3) := by decide +kernel
theorem dX12_grid_58 : decode cX12_grid 58 = .ok (.bipush (-15), 2) := by decide +kernel
theorem dX12_grid_60 : decode cX12_grid 60 = .ok (.ireturn, 1) := by decide +kernel
theorem dX12_grid_61 : decode cX12_grid 61 = .ok (.aload_n 0, 1) := by decide +kernel
theorem dX12_grid_62 : decode cX12_grid 62 = .ok (.getfield 7, 3) := by decide +kernel
theorem dX12_grid_65 : decode cX12_grid 65 = .ok (.aload_n 0, 1) := by decide +kernel
theorem dX12_grid_66 : decode cX12_grid 66 = .ok (.getfield 104, 3) := by decide +kernel
theorem dX12_grid_69 : decode cX12_grid 69 = .ok (.iload_n 1, 1) := by decide +kernel
theorem dX12_grid_70 : decode cX12_grid 70 = .ok (.iastore, 1) := by decide +kernel
theorem dX12_grid_71 : decode cX12_grid 71 = .ok (.aload_n 0, 1) := by decide +kernel
theorem dX12_grid_72 : decode cX12_grid 72 = .ok (.getfield 13, 3) := by decide +kernel
theorem dX12_grid_75 : decode cX12_grid 75 = .ok (.aload_n 0, 1) := by decide +kernel
theorem dX12_grid_76 : decode cX12_grid 76 = .ok (.getfield 104, 3) := by decide +kernel
theorem dX12_grid_79 : decode cX12_grid 79 = .ok (.iload_n 2, 1) := by decide +kernel
theorem dX12_grid_80 : decode cX12_grid 80 = .ok (.iastore, 1) := by decide +kernel
theorem dX12_grid_81 : decode cX12_grid 81 = .ok (.iconst 0, 1) := by decide +kernel
theorem dX12_grid_82 : decode cX12_grid 82 = .ok (.istore 4, 2) := by decide +kernel
theorem dX12_grid_84 : decode cX12_grid 84 = .ok (.iload 4, 2) := by decide +kernel
theorem dX12_grid_86 : decode cX12_grid 86 = .ok (.iload_n 2, 1) := by decide +kernel
theorem dX12_grid_87 : decode cX12_grid 87 = .ok (.if_icmp .ge 29, 3) := by decide +kernel
theorem dX12_grid_90 : decode cX12_grid 90 = .ok (.aload_n 0, 1) := by decide +kernel
theorem dX12_grid_91 : decode cX12_grid 91 = .ok (.getfield 16, 3) := by decide +kernel
theorem dX12_grid_94 : decode cX12_grid 94 = .ok (.bipush 20, 2) := by decide +kernel
theorem dX12_grid_96 : decode cX12_grid 96 = .ok (.aload_n 0, 1) := by decide +kernel
theorem dX12_grid_97 : decode cX12_grid 97 = .ok (.getfield 104, 3) := by decide +kernel
theorem dX12_grid_100 : decode cX12_grid 100 = .ok (.imul, 1) := by decide +kernel
theorem dX12_grid_101 : decode cX12_grid 101 = .ok (.iload 4, 2) := by decide +kernel
theorem dX12_grid_103 : decode cX12_grid 103 = .ok (.iadd, 1) := by decide +kernel
theorem dX12_grid_104 : decode cX12_grid 104 = .ok (.aload_n 0, 1) := by decide +kernel
theorem dX12_grid_105 : decode cX12_grid 105 = .ok (.iload_n 3, 1) := by decide +kernel
theorem dX12_grid_106 : decode cX12_grid 106 = .ok (.invokevirtual 118, 3) := by decide +kernel
theorem dX12_grid_109 : decode cX12_grid 109 = .ok (.iastore, 1) := by decide +kernel
theorem dX12_grid_110 : decode cX12_grid 110 = .ok (.iinc 4 1, 3) := by decide +kernel
theorem dX12_grid_113 : decode cX12_grid 113 = .ok (.goto (-29), 3) := by decide +kernel
theorem dX12_grid_116 : decode cX12_grid 116 = .ok (.aload_n 0, 1) := by decide +kernel
theorem dX12_grid_117 : decode cX12_grid 117 = .ok (.dup, 1) := by decide +kernel
theorem dX12_grid_118 : decode cX12_grid 118 = .ok (.getfield 104, 3) := by decide +kernel
theorem dX12_grid_121 : decode cX12_grid 121 = .ok (.iconst 1, 1) := by decide +kernel
theorem dX12_grid_122 : decode cX12_grid 122 = .ok (.iadd, 1) := by decide +kernel
theorem dX12_grid_123 : decode cX12_grid 123 = .ok (.putfield 104, 3) := by decide +kernel
theorem dX12_grid_126 : decode cX12_grid 126 = .ok (.aload_n 0, 1) := by decide +kernel
theorem dX12_grid_127 : decode cX12_grid 127 = .ok (.getfield 104, 3) := by decide +kernel
theorem dX12_grid_130 : decode cX12_grid 130 = .ok (.iconst 1, 1) := by decide +kernel
theorem dX12_grid_131 : decode cX12_grid 131 = .ok (.isub, 1) := by decide +kernel
theorem dX12_grid_132 : decode cX12_grid 132 = .ok (.ireturn, 1) := by decide +kernel
theorem dX12_isLine_0 : decode cX12_isLine 0 = .ok (.iload_n 2, 1) := by decide +kernel
theorem dX12_isLine_1 : decode cX12_isLine 1 = .ok (.iconst 0, 1) := by decide +kernel
theorem dX12_isLine_2 : decode cX12_isLine 2 = .ok (.aload_n 0, 1) := by decide +kernel
theorem dX12_isLine_3 : decode cX12_isLine 3 = .ok (.getfield 13, 3) := by decide +kernel
theorem dX12_isLine_6 : decode cX12_isLine 6 = .ok (.iload_n 1, 1) := by decide +kernel
theorem dX12_isLine_7 : decode cX12_isLine 7 = .ok (.iaload, 1) := by decide +kernel
theorem dX12_isLine_8 : decode cX12_isLine 8 = .ok (.iconst 1, 1) := by decide +kernel
theorem dX12_isLine_9 : decode cX12_isLine 9 = .ok (.isub, 1) := by decide +kernel
theorem dX12_isLine_10 : decode cX12_isLine 10 = .ok (.invokestatic 107, 3) := by decide +kernel
theorem dX12_isLine_13 : decode cX12_isLine 13 = .ok (.ireturn, 1) := by decide +kernel
theorem dX12_line_0 : decode cX12_line 0 = .ok (.aload_n 0, 1) := by decide +kernel
theorem dX12_line_1 : decode cX12_line 1 = .ok (.iconst 0, 1) := by decide +kernel
theorem dX12_line_2 : decode cX12_line 2 = .ok (.putfield 96, 3) := by decide +kernel
theorem dX12_line_5 : decode cX12_line 5 = .ok (.aload_n 0, 1) := by decide +kernel
theorem dX12_line_6 : decode cX12_line 6 = .ok (.iload_n 1, 1) := by decide +kernel
theorem dX12_line_7 : decode cX12_line 7 = .ok (.invokevirtual 122, 3) := by decide +kernel
theorem dX12_line_10 : decode cX12_line 10 = .ok (.ifCond .eq 9, 3) := by decide +kernel
theorem dX12_line_13 : decode cX12_line 13 = .ok (.iload_n 3, 1) := by decide +kernel
theorem dX12_line_14 : decode cX12_line 14 = .ok (.bipush 13, 2) := by decide +kernel
theorem dX12_line_16 : decode cX12_line 16 = .ok (.if_icmp .le 5, 3) := by decide +kernel
theorem dX12_line_19 : decode cX12_line 19 = .ok (.iconst (-1), 1) := by decide +kernel
theorem dX12_line_20 : decode cX12_line 20 = .ok (.ireturn, 1) := by decide +kernel
theorem dX12_line_21 : decode cX12_line 21 = .ok (.aload_n 0, 1) := by decide +kernel
theorem dX12_line_22 : decode cX12_line 22 = .ok (.invokevirtual 114, 3) := by decide +kernel
theorem dX12_line_25 : decode cX12_line 25 = .ok (.ifCond .eq 6, 3) := by decide +kernel
theorem dX12_line_28 : decode cX12_line 28 = .ok (.bipush (-2), 2) := by decide +kernel
theorem dX12_line_30 : decode cX12_line 30 = .ok (.ireturn, 1) := by decide +kernel
theorem dX12_line_31 : decode cX12_line 31 = .ok (.iload_n 3, 1) := by decide +kernel
theorem dX12_line_32 : decode cX12_line 32 = .ok (.ifCond .ge 6, 3) := by decide +kernel
theorem dX12_line_35 : decode cX12_line 35 = .ok (.bipush (-15), 2) := by decide +kernel
theorem dX12_line_37 : decode cX12_line 37 = .ok (.ireturn, 1) := by decide +kernel
theorem dX12_line_38 : decode cX12_line 38 = .ok (.aload_n 0, 1) := by decide +kernel
theorem dX12_line_39 : decode cX12_line 39 = .ok (.iload_n 1, 1) := by decide +kernel
theorem dX12_line_40 : decode cX12_line 40 = .ok (.iload_n 2, 1) := by decide +kernel
theorem dX12_line_41 : decode cX12_line 41 = .ok (.invokevirtual 126, 3) := by decide +kernel
theorem dX12_line_44 : decode cX12_line 44 = .ok (.ifCond .ne 6, 3) := by decide +kernel
theorem dX12_line_47 : decode cX12_line 47 = .ok (.bipush (-12), 2) := by decide +kernel
theorem dX12_line_49 : decode cX12_line 49 = .ok (.ireturn, 1) := by decide +kernel
theorem dX12_line_50 : decode cX12_line 50 = .ok (.aload_n 0, 1) := by decide +kernel
theorem dX12_line_51 : decode cX12_line 51 = .ok (.getfield 16, 3) := by decide +kernel
theorem dX12_line_54 : decode cX12_line 54 = .ok (.bipush 20, 2) := by decide +kernel
theorem dX12_line_56 : decode cX12_line 56 = .ok (.iload_n 1, 1) := by decide +kernel
theorem dX12_line_57 : decode cX12_line 57 = .ok (.imul, 1) := by decide +kernel
theorem dX12_line_58 : decode cX12_line 58 = .ok (.iload_n 2, 1) := by decide +kernel
theorem dX12_line_59 : decode cX12_line 59 = .ok (.iadd, 1) := by decide +kernel
theorem dX12_line_60 : decode cX12_line 60 = .ok (.aload_n 0, 1) := by decide +kernel
theorem dX12_line_61 : decode cX12_line 61 = .ok (.iload_n 3, 1) := by decide +kernel
theorem dX12_line_62 : decode cX12_line 62 = .ok (.invokevirtual 118, 3) := by decide +kernel
theorem dX12_line_65 : decode cX12_line 65 = .ok (.iastore, 1) := by decide +kernel
theorem dX12_line_66 : decode cX12_line 66 = .ok (.iload_n 3, 1) := by decide +kernel
theorem dX12_line_67 : decode cX12_line 67 = .ok (.ireturn, 1) := by decide +kernel
theorem dX12_against_0 : decode cX12_against 0 = .ok (.aload_n 0, 1) := by decide +kernel
theorem dX12_against_1 : decode cX12_against 1 = .ok (.iload_n 1, 1) := by decide +kernel
theorem dX12_against_2 : decode cX12_against 2 = .ok (.iload_n 2, 1) := by decide +kernel
theorem dX12_against_3 : decode cX12_against 3 = .ok (.invokevirtual 126, 3) := by decide +kernel
theorem dX12_against_6 : decode cX12_against 6 = .ok (.ifCond .ne 5, 3) := by decide +kernel
theorem dX12_against_9 : decode cX12_against 9 = .ok (.iconst 2, 1) := by decide +kernel
theorem dX12_against_10 : decode cX12_against 10 = .ok (.ireturn, 1) := by decide +kernel
theorem dX12_against_11 : decode cX12_against 11 = .ok (.aload_n 0, 1) := by decide +kernel
theorem dX12_against_12 : decode cX12_against 12 = .ok (.getfield 16, 3) := by decide +kernel
theorem dX12_against_15 : decode cX12_against 15 = .ok (.bipush 20, 2) := by decide +kernel
theorem dX12_against_17 : decode cX12_against 17 = .ok (.iload_n 1, 1) := by decide +kernel
theorem dX12_against_18 : decode cX12_against 18 = .ok (.imul, 1) := by decide +kernel
theorem dX12_against_19 : decode cX12_against 19 = .ok (.iload_n 2, 1) := by decide +kernel
theorem dX12_against_20 : decode cX12_against 20 = .ok (.iadd, 1) := by decide +kernel
theorem dX12_against_21 : decode cX12_against 21 = .ok (.iaload, 1) := by decide +kernel
theorem dX12_against_22 : decode cX12_against 22 = .ok (.istore 4, 2) := by decide +kernel
theorem dX12_against_24 : decode cX12_against 24 = .ok (.iload 4, 2) := by decide +kernel
theorem dX12_against_26 : decode cX12_against 26 = .ok (.ifCond .ge 7, 3) := by decide +kernel
theorem dX12_against_29 : decode cX12_against 29 = .ok (.iconst 1, 1) := by decide +kernel
theorem dX12_against_30 : decode cX12_against 30 = .ok (.goto 25, 3) := by decide +kernel
theorem dX12_against_33 : decode cX12_against 33 = .ok (.iload_n 3, 1) := by decide +kernel
theorem dX12_against_34 : decode cX12_against 34 = .ok (.iconst 0, 1) := by decide +kernel
theorem dX12_against_35 : decode cX12_against 35 = .ok (.aload_n 0, 1) := by decide +kernel
theorem dX12_against_36 : decode cX12_against 36 = .ok (.getfield 19, 3) := by decide +kernel
theorem dX12_against_39 : decode cX12_against 39 = .ok (.iload 4, 2) := by decide +kernel
theorem dX12_against_41 : decode cX12_against 41 = .ok (.iaload, 1) := by decide +kernel
theorem dX12_against_42 : decode cX12_against 42 = .ok (.iconst 1, 1) := by decide +kernel
theorem dX12_against_43 : decode cX12_against 43 = .ok (.isub, 1) := by decide +kernel
theorem dX12_against_44 : decode cX12_against 44 = .ok (.invokestatic 107, 3) := by decide +kernel
theorem dX12_against_47 : decode cX12_against 47 = .ok (.ifCond .eq 7, 3) := by decide +kernel
theorem dX12_against_50 : decode cX12_against 50 = .ok (.iconst 0, 1) := by decide +kernel
theorem dX12_against_51 : decode cX12_against 51 = .ok (.goto 4, 3) := by decide +kernel
theorem dX12_against_54 : decode cX12_against 54 = .ok (.iconst 2, 1) := by decide +kernel
theorem dX12_against_55 : decode cX12_against 55 = .ok (.ireturn, 1) := by decide +kernel
theorem dX12_asKind_0 : decode cX12_asKind 0 = .ok (.iload_n 0, 1) := by decide +kernel
theorem dX12_asKind_1 : decode cX12_asKind 1 = .ok (.tableswitch 61 0 4 #[35, 40, 45, 49, 51], 35) := by decide +kernel
theorem dX12_asKind_36 : decode cX12_asKind 36 = .ok (.lload_n 1, 1) := by decide +kernel
theorem dX12_asKind_37 : decode cX12_asKind 37 = .ok (.l2i, 1) := by decide +kernel
theorem dX12_asKind_38 : decode cX12_asKind 38 = .ok (.i2b, 1) := by decide +kernel
theorem dX12_asKind_39 : decode cX12_asKind 39 = .ok (.i2l, 1) := by decide +kernel
theorem dX12_asKind_40 : decode cX12_asKind 40 = .ok (.lreturn, 1) := by decide +kernel
theorem dX12_asKind_41 : decode cX12_asKind 41 = .ok (.lload_n 1, 1) := by decide +kernel
theorem dX12_asKind_42 : decode cX12_asKind 42 = .ok (.l2i, 1) := by decide +kernel
theorem dX12_asKind_43 : decode cX12_asKind 43 = .ok (.i2s, 1) := by decide +kernel
theorem dX12_asKind_44 : decode cX12_asKind 44 = .ok (.i2l, 1) := by decide +kernel
theorem dX12_asKind_45 : decode cX12_asKind 45 = .ok (.lreturn, 1) := by decide +kernel
theorem dX12_asKind_46 : decode cX12_asKind 46 = .ok (.lload_n 1, 1) := by decide +kernel
theorem dX12_asKind_47 : decode cX12_asKind 47 = .ok (.l2i, 1) := by decide +kernel
theorem dX12_asKind_48 : decode cX12_asKind 48 = .ok (.i2l, 1) := by decide +kernel
theorem dX12_asKind_49 : decode cX12_asKind 49 = .ok (.lreturn, 1) := by decide +kernel
theorem dX12_asKind_50 : decode cX12_asKind 50 = .ok (.lload_n 1, 1) := by decide +kernel
theorem dX12_asKind_51 : decode cX12_asKind 51 = .ok (.lreturn, 1) := by decide +kernel
theorem dX12_asKind_52 : decode cX12_asKind 52 = .ok (.ldc 130, 2) := by decide +kernel
theorem dX12_asKind_54 : decode cX12_asKind 54 = .ok (.lload_n 1, 1) := by decide +kernel
theorem dX12_asKind_55 : decode cX12_asKind 55 = .ok (.l2f, 1) := by decide +kernel
theorem dX12_asKind_56 : decode cX12_asKind 56 = .ok (.ldc 130, 2) := by decide +kernel
theorem dX12_asKind_58 : decode cX12_asKind 58 = .ok (.fdiv, 1) := by decide +kernel
theorem dX12_asKind_59 : decode cX12_asKind 59 = .ok (.fmul, 1) := by decide +kernel
theorem dX12_asKind_60 : decode cX12_asKind 60 = .ok (.f2l, 1) := by decide +kernel
theorem dX12_asKind_61 : decode cX12_asKind 61 = .ok (.lreturn, 1) := by decide +kernel
theorem dX12_asKind_62 : decode cX12_asKind 62 = .ok (.ldc2_w 131, 3) := by decide +kernel
theorem dX12_asKind_65 : decode cX12_asKind 65 = .ok (.lload_n 1, 1) := by decide +kernel
theorem dX12_asKind_66 : decode cX12_asKind 66 = .ok (.l2d, 1) := by decide +kernel
theorem dX12_asKind_67 : decode cX12_asKind 67 = .ok (.ldc2_w 131, 3) := by decide +kernel
theorem dX12_asKind_70 : decode cX12_asKind 70 = .ok (.ddiv, 1) := by decide +kernel
theorem dX12_asKind_71 : decode cX12_asKind 71 = .ok (.dmul, 1) := by decide +kernel
theorem dX12_asKind_72 : decode cX12_asKind 72 = .ok (.d2l, 1) := by decide +kernel
theorem dX12_asKind_73 : decode cX12_asKind 73 = .ok (.lreturn, 1) := by decide +kernel
theorem dX12_put_0 : decode cX12_put 0 = .ok (.aload_n 0, 1) := by decide +kernel
theorem dX12_put_1 : decode cX12_put 1 = .ok (.iconst 0, 1) := by decide +kernel
theorem dX12_put_2 : decode cX12_put 2 = .ok (.putfield 96, 3) := by decide +kernel
theorem dX12_put_5 : decode cX12_put 5 = .ok (.aload_n 0, 1) := by decide +kernel
theorem dX12_put_6 : decode cX12_put 6 = .ok (.iload_n 1, 1) := by decide +kernel
theorem dX12_put_7 : decode cX12_put 7 = .ok (.invokevirtual 122, 3) := by decide +kernel
theorem dX12_put_10 : decode cX12_put 10 = .ok (.ifCond .ne 5, 3) := by decide +kernel
theorem dX12_put_13 : decode cX12_put 13 = .ok (.iconst (-1), 1) := by decide +kernel
theorem dX12_put_14 : decode cX12_put 14 = .ok (.ireturn, 1) := by decide +kernel
theorem dX12_put_15 : decode cX12_put 15 = .ok (.aload_n 0, 1) := by decide +kernel
theorem dX12_put_16 : decode cX12_put 16 = .ok (.invokevirtual 114, 3) := by decide +kernel
theorem dX12_put_19 : decode cX12_put 19 = .ok (.ifCond .eq 6, 3) := by decide +kernel
theorem dX12_put_22 : decode cX12_put 22 = .ok (.bipush (-2), 2) := by decide +kernel
theorem dX12_put_24 : decode cX12_put 24 = .ok (.ireturn, 1) := by decide +kernel
theorem dX12_put_25 : decode cX12_put 25 = .ok (.aload_n 0, 1) := by decide +kernel
theorem dX12_put_26 : decode cX12_put 26 = .ok (.iload_n 1, 1) := by decide +kernel
theorem dX12_put_27 : decode cX12_put 27 = .ok (.iload_n 2, 1) := by decide +kernel
theorem dX12_put_28 : decode cX12_put 28 = .ok (.iload_n 3, 1) := by decide +kernel
theorem dX12_put_29 : decode cX12_put 29 = .ok (.invokevirtual 133, 3) := by decide +kernel
theorem dX12_put_32 : decode cX12_put 32 = .ok (.istore 6, 2) := by decide +kernel
theorem dX12_put_34 : decode cX12_put 34 = .ok (.iload 6, 2) := by decide +kernel
theorem dX12_put_36 : decode cX12_put 36 = .ok (.ifCond .eq 9, 3) := by decide +kernel
theorem dX12_put_39 : decode cX12_put 39 = .ok (.bipush (-10), 2) := by decide +kernel
theorem dX12_put_41 : decode cX12_put 41 = .ok (.iload 6, 2) := by decide +kernel
theorem dX12_put_43 : decode cX12_put 43 = .ok (.isub, 1) := by decide +kernel
theorem dX12_put_44 : decode cX12_put 44 = .ok (.ireturn, 1) := by decide +kernel
theorem dX12_put_45 : decode cX12_put 45 = .ok (.aload_n 0, 1) := by decide +kernel
theorem dX12_put_46 : decode cX12_put 46 = .ok (.getfield 22, 3) := by decide +kernel
theorem dX12_put_49 : decode cX12_put 49 = .ok (.bipush 12, 2) := by decide +kernel
theorem dX12_put_51 : decode cX12_put 51 = .ok (.aload_n 0, 1) := by decide +kernel
theorem dX12_put_52 : decode cX12_put 52 = .ok (.getfield 16, 3) := by decide +kernel
theorem dX12_put_55 : decode cX12_put 55 = .ok (.bipush 20, 2) := by decide +kernel
theorem dX12_put_57 : decode cX12_put 57 = .ok (.iload_n 1, 1) := by decide +kernel
theorem dX12_put_58 : decode cX12_put 58 = .ok (.imul, 1) := by decide +kernel
theorem dX12_put_59 : decode cX12_put 59 = .ok (.iload_n 2, 1) := by decide +kernel
theorem dX12_put_60 : decode cX12_put 60 = .ok (.iadd, 1) := by decide +kernel
theorem dX12_put_61 : decode cX12_put 61 = .ok (.iaload, 1) := by decide +kernel
theorem dX12_put_62 : decode cX12_put 62 = .ok (.imul, 1) := by decide +kernel
theorem dX12_put_63 : decode cX12_put 63 = .ok (.iload_n 3, 1) := by decide +kernel
theorem dX12_put_64 : decode cX12_put 64 = .ok (.iadd, 1) := by decide +kernel
theorem dX12_put_65 : decode cX12_put 65 = .ok (.aload_n 0, 1) := by decide +kernel
theorem dX12_put_66 : decode cX12_put 66 = .ok (.getfield 7, 3) := by decide +kernel
theorem dX12_put_69 : decode cX12_put 69 = .ok (.iload_n 1, 1) := by decide +kernel
theorem dX12_put_70 : decode cX12_put 70 = .ok (.iaload, 1) := by decide +kernel
theorem dX12_put_71 : decode cX12_put 71 = .ok (.lload 4, 2) := by decide +kernel
theorem dX12_put_73 : decode cX12_put 73 = .ok (.invokestatic 137, 3) := by decide +kernel
theorem dX12_put_76 : decode cX12_put 76 = .ok (.lastore, 1) := by decide +kernel
theorem dX12_put_77 : decode cX12_put 77 = .ok (.iconst 1, 1) := by decide +kernel
theorem dX12_put_78 : decode cX12_put 78 = .ok (.ireturn, 1) := by decide +kernel
theorem dX12_item_0 : decode cX12_item 0 = .ok (.aload_n 0, 1) := by decide +kernel
theorem dX12_item_1 : decode cX12_item 1 = .ok (.iconst 0, 1) := by decide +kernel
theorem dX12_item_2 : decode cX12_item 2 = .ok (.putfield 96, 3) := by decide +kernel
theorem dX12_item_5 : decode cX12_item 5 = .ok (.aload_n 0, 1) := by decide +kernel
theorem dX12_item_6 : decode cX12_item 6 = .ok (.iload_n 1, 1) := by decide +kernel
theorem dX12_item_7 : decode cX12_item 7 = .ok (.invokevirtual 122, 3) := by decide +kernel
theorem dX12_item_10 : decode cX12_item 10 = .ok (.ifCond .eq 24, 3) := by decide +kernel
theorem dX12_item_13 : decode cX12_item 13 = .ok (.iload_n 2, 1) := by decide +kernel
theorem dX12_item_14 : decode cX12_item 14 = .ok (.aload_n 0, 1) := by decide +kernel
theorem dX12_item_15 : decode cX12_item 15 = .ok (.getfield 7, 3) := by decide +kernel
theorem dX12_item_18 : decode cX12_item 18 = .ok (.iload_n 1, 1) := by decide +kernel
theorem dX12_item_19 : decode cX12_item 19 = .ok (.iaload, 1) := by decide +kernel
theorem dX12_item_20 : decode cX12_item 20 = .ok (.if_icmp .ne 14, 3) := by decide +kernel
theorem dX12_item_23 : decode cX12_item 23 = .ok (.aload_n 0, 1) := by decide +kernel
theorem dX12_item_24 : decode cX12_item 24 = .ok (.iload_n 1, 1) := by decide +kernel
theorem dX12_item_25 : decode cX12_item 25 = .ok (.iload_n 3, 1) := by decide +kernel
theorem dX12_item_26 : decode cX12_item 26 = .ok (.iload 4, 2) := by decide +kernel
theorem dX12_item_28 : decode cX12_item 28 = .ok (.invokevirtual 133, 3) := by decide +kernel
theorem dX12_item_31 : decode cX12_item 31 = .ok (.ifCond .eq 7, 3) := by decide +kernel
theorem dX12_item_34 : decode cX12_item 34 = .ok (.ldc2_w 99, 3) := by decide +kernel
theorem dX12_item_37 : decode cX12_item 37 = .ok (.lreturn, 1) := by decide +kernel
theorem dX12_item_38 : decode cX12_item 38 = .ok (.aload_n 0, 1) := by decide +kernel
theorem dX12_item_39 : decode cX12_item 39 = .ok (.getfield 22, 3) := by decide +kernel
theorem dX12_item_42 : decode cX12_item 42 = .ok (.bipush 12, 2) := by decide +kernel
theorem dX12_item_44 : decode cX12_item 44 = .ok (.aload_n 0, 1) := by decide +kernel
theorem dX12_item_45 : decode cX12_item 45 = .ok (.getfield 16, 3) := by decide +kernel
theorem dX12_item_48 : decode cX12_item 48 = .ok (.bipush 20, 2) := by decide +kernel
theorem dX12_item_50 : decode cX12_item 50 = .ok (.iload_n 1, 1) := by decide +kernel
theorem dX12_item_51 : decode cX12_item 51 = .ok (.imul, 1) := by decide +kernel
theorem dX12_item_52 : decode cX12_item 52 = .ok (.iload_n 3, 1) := by decide +kernel
theorem dX12_item_53 : decode cX12_item 53 = .ok (.iadd, 1) := by decide +kernel
theorem dX12_item_54 : decode cX12_item 54 = .ok (.iaload, 1) := by decide +kernel
theorem dX12_item_55 : decode cX12_item 55 = .ok (.imul, 1) := by decide +kernel
theorem dX12_item_56 : decode cX12_item 56 = .ok (.iload 4, 2) := by decide +kernel
theorem dX12_item_58 : decode cX12_item 58 = .ok (.iadd, 1) := by decide +kernel
theorem dX12_item_59 : decode cX12_item 59 = .ok (.laload, 1) := by decide +kernel
theorem dX12_item_60 : decode cX12_item 60 = .ok (.lreturn, 1) := by decide +kernel
theorem dX12_lay_0 : decode cX12_lay 0 = .ok (.aload_n 0, 1) := by decide +kernel
theorem dX12_lay_1 : decode cX12_lay 1 = .ok (.iconst 0, 1) := by decide +kernel
theorem dX12_lay_2 : decode cX12_lay 2 = .ok (.putfield 96, 3) := by decide +kernel
theorem dX12_lay_5 : decode cX12_lay 5 = .ok (.aload_n 0, 1) := by decide +kernel
theorem dX12_lay_6 : decode cX12_lay 6 = .ok (.iload_n 1, 1) := by decide +kernel
theorem dX12_lay_7 : decode cX12_lay 7 = .ok (.invokevirtual 122, 3) := by decide +kernel
theorem dX12_lay_10 : decode cX12_lay 10 = .ok (.ifCond .eq 11, 3) := by decide +kernel
theorem dX12_lay_13 : decode cX12_lay 13 = .ok (.aload_n 0, 1) := by decide +kernel
theorem dX12_lay_14 : decode cX12_lay 14 = .ok (.iload_n 3, 1) := by decide +kernel
theorem dX12_lay_15 : decode cX12_lay 15 = .ok (.invokevirtual 122, 3) := by decide +kernel
theorem dX12_lay_18 : decode cX12_lay 18 = .ok (.ifCond .ne 5, 3) := by decide +kernel
theorem dX12_lay_21 : decode cX12_lay 21 = .ok (.iconst (-1), 1) := by decide +kernel
theorem dX12_lay_22 : decode cX12_lay 22 = .ok (.ireturn, 1) := by decide +kernel
theorem dX12_lay_23 : decode cX12_lay 23 = .ok (.aload_n 0, 1) := by decide +kernel
theorem dX12_lay_24 : decode cX12_lay 24 = .ok (.invokevirtual 114, 3) := by decide +kernel
theorem dX12_lay_27 : decode cX12_lay 27 = .ok (.ifCond .eq 6, 3) := by decide +kernel
theorem dX12_lay_30 : decode cX12_lay 30 = .ok (.bipush (-2), 2) := by decide +kernel
theorem dX12_lay_32 : decode cX12_lay 32 = .ok (.ireturn, 1) := by decide +kernel
theorem dX12_lay_33 : decode cX12_lay 33 = .ok (.aload_n 0, 1) := by decide +kernel
theorem dX12_lay_34 : decode cX12_lay 34 = .ok (.iload_n 3, 1) := by decide +kernel
theorem dX12_lay_35 : decode cX12_lay 35 = .ok (.iload 4, 2) := by decide +kernel
theorem dX12_lay_37 : decode cX12_lay 37 = .ok (.invokevirtual 126, 3) := by decide +kernel
theorem dX12_lay_40 : decode cX12_lay 40 = .ok (.ifCond .eq 12, 3) := by decide +kernel
theorem dX12_lay_43 : decode cX12_lay 43 = .ok (.aload_n 0, 1) := by decide +kernel
theorem dX12_lay_44 : decode cX12_lay 44 = .ok (.iload_n 1, 1) := by decide +kernel
theorem dX12_lay_45 : decode cX12_lay 45 = .ok (.iload_n 2, 1) := by decide +kernel
theorem dX12_lay_46 : decode cX12_lay 46 = .ok (.invokevirtual 126, 3) := by decide +kernel
theorem dX12_lay_49 : decode cX12_lay 49 = .ok (.ifCond .ne 6, 3) := by decide +kernel
theorem dX12_lay_52 : decode cX12_lay 52 = .ok (.bipush (-12), 2) := by decide +kernel
theorem dX12_lay_54 : decode cX12_lay 54 = .ok (.ireturn, 1) := by decide +kernel
theorem dX12_lay_55 : decode cX12_lay 55 = .ok (.aload_n 0, 1) := by decide +kernel
theorem dX12_lay_56 : decode cX12_lay 56 = .ok (.getfield 16, 3) := by decide +kernel
theorem dX12_lay_59 : decode cX12_lay 59 = .ok (.bipush 20, 2) := by decide +kernel
theorem dX12_lay_61 : decode cX12_lay 61 = .ok (.iload_n 3, 1) := by decide +kernel
theorem dX12_lay_62 : decode cX12_lay 62 = .ok (.imul, 1) := by decide +kernel
theorem dX12_lay_63 : decode cX12_lay 63 = .ok (.iload 4, 2) := by decide +kernel
theorem dX12_lay_65 : decode cX12_lay 65 = .ok (.iadd, 1) := by decide +kernel
theorem dX12_lay_66 : decode cX12_lay 66 = .ok (.iaload, 1) := by decide +kernel
theorem dX12_lay_67 : decode cX12_lay 67 = .ok (.istore 5, 2) := by decide +kernel
theorem dX12_lay_69 : decode cX12_lay 69 = .ok (.iload 5, 2) := by decide +kernel
theorem dX12_lay_71 : decode cX12_lay 71 = .ok (.ifCond .lt 21, 3) := by decide +kernel
theorem dX12_lay_74 : decode cX12_lay 74 = .ok (.aload_n 0, 1) := by decide +kernel
theorem dX12_lay_75 : decode cX12_lay 75 = .ok (.getfield 7, 3) := by decide +kernel
theorem dX12_lay_78 : decode cX12_lay 78 = .ok (.iload_n 1, 1) := by decide +kernel
theorem dX12_lay_79 : decode cX12_lay 79 = .ok (.iaload, 1) := by decide +kernel
theorem dX12_lay_80 : decode cX12_lay 80 = .ok (.aload_n 0, 1) := by decide +kernel
theorem dX12_lay_81 : decode cX12_lay 81 = .ok (.getfield 7, 3) := by decide +kernel
theorem dX12_lay_84 : decode cX12_lay 84 = .ok (.iload_n 3, 1) := by decide +kernel
theorem dX12_lay_85 : decode cX12_lay 85 = .ok (.iaload, 1) := by decide +kernel
theorem dX12_lay_86 : decode cX12_lay 86 = .ok (.if_icmp .eq 6, 3) := by decide +kernel
theorem dX12_lay_89 : decode cX12_lay 89 = .ok (.bipush (-14), 2) := by decide +kernel
theorem dX12_lay_91 : decode cX12_lay 91 = .ok (.ireturn, 1) := by decide +kernel
theorem dX12_lay_92 : decode cX12_lay 92 = .ok (.aload_n 0, 1) := by decide +kernel
theorem dX12_lay_93 : decode cX12_lay 93 = .ok (.getfield 16, 3) := by decide +kernel
theorem dX12_lay_96 : decode cX12_lay 96 = .ok (.bipush 20, 2) := by decide +kernel
theorem dX12_lay_98 : decode cX12_lay 98 = .ok (.iload_n 1, 1) := by decide +kernel
theorem dX12_lay_99 : decode cX12_lay 99 = .ok (.imul, 1) := by decide +kernel
theorem dX12_lay_100 : decode cX12_lay 100 = .ok (.iload_n 2, 1) := by decide +kernel
theorem dX12_lay_101 : decode cX12_lay 101 = .ok (.iadd, 1) := by decide +kernel
theorem dX12_lay_102 : decode cX12_lay 102 = .ok (.iload 5, 2) := by decide +kernel
theorem dX12_lay_104 : decode cX12_lay 104 = .ok (.iastore, 1) := by decide +kernel
theorem dX12_lay_105 : decode cX12_lay 105 = .ok (.iload 5, 2) := by decide +kernel
theorem dX12_lay_107 : decode cX12_lay 107 = .ok (.ifCond .ge 7, 3) := by decide +kernel
theorem dX12_lay_110 : decode cX12_lay 110 = .ok (.iconst 0, 1) := by decide +kernel
theorem dX12_lay_111 : decode cX12_lay 111 = .ok (.goto 4, 3) := by decide +kernel
theorem dX12_lay_114 : decode cX12_lay 114 = .ok (.iconst 1, 1) := by decide +kernel
theorem dX12_lay_115 : decode cX12_lay 115 = .ok (.ireturn, 1) := by decide +kernel
theorem dX12_size_0 : decode cX12_size 0 = .ok (.aload_n 0, 1) := by decide +kernel
theorem dX12_size_1 : decode cX12_size 1 = .ok (.iconst 0, 1) := by decide +kernel
theorem dX12_size_2 : decode cX12_size 2 = .ok (.putfield 96, 3) := by decide +kernel
theorem dX12_size_5 : decode cX12_size 5 = .ok (.aload_n 0, 1) := by decide +kernel
theorem dX12_size_6 : decode cX12_size 6 = .ok (.iload_n 1, 1) := by decide +kernel
theorem dX12_size_7 : decode cX12_size 7 = .ok (.invokevirtual 122, 3) := by decide +kernel
theorem dX12_size_10 : decode cX12_size 10 = .ok (.ifCond .ne 5, 3) := by decide +kernel
theorem dX12_size_13 : decode cX12_size 13 = .ok (.iconst (-1), 1) := by decide +kernel
theorem dX12_size_14 : decode cX12_size 14 = .ok (.ireturn, 1) := by decide +kernel
theorem dX12_size_15 : decode cX12_size 15 = .ok (.iload_n 2, 1) := by decide +kernel
theorem dX12_size_16 : decode cX12_size 16 = .ok (.iconst (-1), 1) := by decide +kernel
theorem dX12_size_17 : decode cX12_size 17 = .ok (.if_icmp .ne 10, 3) := by decide +kernel
theorem dX12_size_20 : decode cX12_size 20 = .ok (.aload_n 0, 1) := by decide +kernel
theorem dX12_size_21 : decode cX12_size 21 = .ok (.getfield 13, 3) := by decide +kernel
theorem dX12_size_24 : decode cX12_size 24 = .ok (.iload_n 1, 1) := by decide +kernel
theorem dX12_size_25 : decode cX12_size 25 = .ok (.iaload, 1) := by decide +kernel
theorem dX12_size_26 : decode cX12_size 26 = .ok (.ireturn, 1) := by decide +kernel
theorem dX12_size_27 : decode cX12_size 27 = .ok (.aload_n 0, 1) := by decide +kernel
theorem dX12_size_28 : decode cX12_size 28 = .ok (.iload_n 1, 1) := by decide +kernel
theorem dX12_size_29 : decode cX12_size 29 = .ok (.iload_n 2, 1) := by decide +kernel
theorem dX12_size_30 : decode cX12_size 30 = .ok (.invokevirtual 126, 3) := by decide +kernel
theorem dX12_size_33 : decode cX12_size 33 = .ok (.ifCond .ne 6, 3) := by decide +kernel
theorem dX12_size_36 : decode cX12_size 36 = .ok (.bipush (-12), 2) := by decide +kernel
theorem dX12_size_38 : decode cX12_size 38 = .ok (.ireturn, 1) := by decide +kernel
theorem dX12_size_39 : decode cX12_size 39 = .ok (.aload_n 0, 1) := by decide +kernel
theorem dX12_size_40 : decode cX12_size 40 = .ok (.getfield 16, 3) := by decide +kernel
theorem dX12_size_43 : decode cX12_size 43 = .ok (.bipush 20, 2) := by decide +kernel
theorem dX12_size_45 : decode cX12_size 45 = .ok (.iload_n 1, 1) := by decide +kernel
theorem dX12_size_46 : decode cX12_size 46 = .ok (.imul, 1) := by decide +kernel
theorem dX12_size_47 : decode cX12_size 47 = .ok (.iload_n 2, 1) := by decide +kernel
theorem dX12_size_48 : decode cX12_size 48 = .ok (.iadd, 1) := by decide +kernel
theorem dX12_size_49 : decode cX12_size 49 = .ok (.iaload, 1) := by decide +kernel
theorem dX12_size_50 : decode cX12_size 50 = .ok (.istore_n 3, 1) := by decide +kernel
theorem dX12_size_51 : decode cX12_size 51 = .ok (.iload_n 3, 1) := by decide +kernel
