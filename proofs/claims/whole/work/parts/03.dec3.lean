theorem dX12_size_52 : decode cX12_size 52 = .ok (.ifCond .ge 8, 3) := by decide +kernel
theorem dX12_size_55 : decode cX12_size 55 = .ok (.bipush (-11), 2) := by decide +kernel
theorem dX12_size_57 : decode cX12_size 57 = .ok (.goto 9, 3) := by decide +kernel
theorem dX12_size_60 : decode cX12_size 60 = .ok (.aload_n 0, 1) := by decide +kernel
theorem dX12_size_61 : decode cX12_size 61 = .ok (.getfield 19, 3) := by decide +kernel
theorem dX12_size_64 : decode cX12_size 64 = .ok (.iload_n 3, 1) := by decide +kernel
theorem dX12_size_65 : decode cX12_size 65 = .ok (.iaload, 1) := by decide +kernel
theorem dX12_size_66 : decode cX12_size 66 = .ok (.ireturn, 1) := by decide +kernel
theorem dX12_mayNeed_0 : decode cX12_mayNeed 0 = .ok (.iload_n 1, 1) := by decide +kernel
theorem dX12_mayNeed_1 : decode cX12_mayNeed 1 = .ok (.iconst 0, 1) := by decide +kernel
theorem dX12_mayNeed_2 : decode cX12_mayNeed 2 = .ok (.aload_n 0, 1) := by decide +kernel
theorem dX12_mayNeed_3 : decode cX12_mayNeed 3 = .ok (.getfield 90, 3) := by decide +kernel
theorem dX12_mayNeed_6 : decode cX12_mayNeed 6 = .ok (.invokestatic 107, 3) := by decide +kernel
theorem dX12_mayNeed_9 : decode cX12_mayNeed 9 = .ok (.ifCond .eq 18, 3) := by decide +kernel
theorem dX12_mayNeed_12 : decode cX12_mayNeed 12 = .ok (.iload_n 2, 1) := by decide +kernel
theorem dX12_mayNeed_13 : decode cX12_mayNeed 13 = .ok (.iconst 1, 1) := by decide +kernel
theorem dX12_mayNeed_14 : decode cX12_mayNeed 14 = .ok (.sipush 1000, 3) := by decide +kernel
theorem dX12_mayNeed_17 : decode cX12_mayNeed 17 = .ok (.invokestatic 107, 3) := by decide +kernel
theorem dX12_mayNeed_20 : decode cX12_mayNeed 20 = .ok (.ifCond .eq 7, 3) := by decide +kernel
theorem dX12_mayNeed_23 : decode cX12_mayNeed 23 = .ok (.iconst 1, 1) := by decide +kernel
theorem dX12_mayNeed_24 : decode cX12_mayNeed 24 = .ok (.goto 4, 3) := by decide +kernel
theorem dX12_mayNeed_27 : decode cX12_mayNeed 27 = .ok (.iconst 0, 1) := by decide +kernel
theorem dX12_mayNeed_28 : decode cX12_mayNeed 28 = .ok (.ireturn, 1) := by decide +kernel
theorem dX12_comes_0 : decode cX12_comes 0 = .ok (.aload_n 0, 1) := by decide +kernel
theorem dX12_comes_1 : decode cX12_comes 1 = .ok (.getfield 26, 3) := by decide +kernel
theorem dX12_comes_4 : decode cX12_comes 4 = .ok (.aload_n 0, 1) := by decide +kernel
theorem dX12_comes_5 : decode cX12_comes 5 = .ok (.getfield 101, 3) := by decide +kernel
theorem dX12_comes_8 : decode cX12_comes 8 = .ok (.iload_n 1, 1) := by decide +kernel
theorem dX12_comes_9 : decode cX12_comes 9 = .ok (.iastore, 1) := by decide +kernel
theorem dX12_comes_10 : decode cX12_comes 10 = .ok (.aload_n 0, 1) := by decide +kernel
theorem dX12_comes_11 : decode cX12_comes 11 = .ok (.getfield 38, 3) := by decide +kernel
theorem dX12_comes_14 : decode cX12_comes 14 = .ok (.aload_n 0, 1) := by decide +kernel
theorem dX12_comes_15 : decode cX12_comes 15 = .ok (.getfield 101, 3) := by decide +kernel
theorem dX12_comes_18 : decode cX12_comes 18 = .ok (.iload_n 2, 1) := by decide +kernel
theorem dX12_comes_19 : decode cX12_comes 19 = .ok (.iastore, 1) := by decide +kernel
theorem dX12_comes_20 : decode cX12_comes 20 = .ok (.aload_n 0, 1) := by decide +kernel
theorem dX12_comes_21 : decode cX12_comes 21 = .ok (.getfield 41, 3) := by decide +kernel
theorem dX12_comes_24 : decode cX12_comes 24 = .ok (.aload_n 0, 1) := by decide +kernel
theorem dX12_comes_25 : decode cX12_comes 25 = .ok (.getfield 101, 3) := by decide +kernel
theorem dX12_comes_28 : decode cX12_comes 28 = .ok (.iload_n 3, 1) := by decide +kernel
theorem dX12_comes_29 : decode cX12_comes 29 = .ok (.iastore, 1) := by decide +kernel
theorem dX12_comes_30 : decode cX12_comes 30 = .ok (.aload_n 0, 1) := by decide +kernel
theorem dX12_comes_31 : decode cX12_comes 31 = .ok (.dup, 1) := by decide +kernel
theorem dX12_comes_32 : decode cX12_comes 32 = .ok (.getfield 101, 3) := by decide +kernel
theorem dX12_comes_35 : decode cX12_comes 35 = .ok (.iconst 1, 1) := by decide +kernel
theorem dX12_comes_36 : decode cX12_comes 36 = .ok (.iadd, 1) := by decide +kernel
theorem dX12_comes_37 : decode cX12_comes 37 = .ok (.putfield 101, 3) := by decide +kernel
theorem dX12_comes_40 : decode cX12_comes 40 = .ok (.aload_n 0, 1) := by decide +kernel
theorem dX12_comes_41 : decode cX12_comes 41 = .ok (.getfield 68, 3) := by decide +kernel
theorem dX12_comes_44 : decode cX12_comes 44 = .ok (.sipush 247, 3) := by decide +kernel
theorem dX12_comes_47 : decode cX12_comes 47 = .ok (.dup2, 1) := by decide +kernel
theorem dX12_comes_48 : decode cX12_comes 48 = .ok (.iaload, 1) := by decide +kernel
theorem dX12_comes_49 : decode cX12_comes 49 = .ok (.iconst 1, 1) := by decide +kernel
theorem dX12_comes_50 : decode cX12_comes 50 = .ok (.iadd, 1) := by decide +kernel
theorem dX12_comes_51 : decode cX12_comes 51 = .ok (.iastore, 1) := by decide +kernel
theorem dX12_comes_52 : decode cX12_comes 52 = .ok (.aload_n 0, 1) := by decide +kernel
theorem dX12_comes_53 : decode cX12_comes 53 = .ok (.getfield 68, 3) := by decide +kernel
theorem dX12_comes_56 : decode cX12_comes 56 = .ok (.sipush 248, 3) := by decide +kernel
theorem dX12_comes_59 : decode cX12_comes 59 = .ok (.dup2, 1) := by decide +kernel
theorem dX12_comes_60 : decode cX12_comes 60 = .ok (.iaload, 1) := by decide +kernel
theorem dX12_comes_61 : decode cX12_comes 61 = .ok (.iconst 1, 1) := by decide +kernel
theorem dX12_comes_62 : decode cX12_comes 62 = .ok (.iadd, 1) := by decide +kernel
theorem dX12_comes_63 : decode cX12_comes 63 = .ok (.iastore, 1) := by decide +kernel
theorem dX12_comes_64 : decode cX12_comes 64 = .ok (.aload_n 0, 1) := by decide +kernel
theorem dX12_comes_65 : decode cX12_comes 65 = .ok (.getfield 101, 3) := by decide +kernel
theorem dX12_comes_68 : decode cX12_comes 68 = .ok (.iconst 1, 1) := by decide +kernel
theorem dX12_comes_69 : decode cX12_comes 69 = .ok (.isub, 1) := by decide +kernel
theorem dX12_comes_70 : decode cX12_comes 70 = .ok (.ireturn, 1) := by decide +kernel
theorem dX12_way_0 : decode cX12_way 0 = .ok (.aload_n 0, 1) := by decide +kernel
theorem dX12_way_1 : decode cX12_way 1 = .ok (.iconst 0, 1) := by decide +kernel
theorem dX12_way_2 : decode cX12_way 2 = .ok (.putfield 96, 3) := by decide +kernel
theorem dX12_way_5 : decode cX12_way 5 = .ok (.iload_n 2, 1) := by decide +kernel
theorem dX12_way_6 : decode cX12_way 6 = .ok (.iconst 1, 1) := by decide +kernel
theorem dX12_way_7 : decode cX12_way 7 = .ok (.ldc 141, 2) := by decide +kernel
theorem dX12_way_9 : decode cX12_way 9 = .ok (.invokestatic 107, 3) := by decide +kernel
theorem dX12_way_12 : decode cX12_way 12 = .ok (.ifCond .eq 27, 3) := by decide +kernel
theorem dX12_way_15 : decode cX12_way 15 = .ok (.lload_n 3, 1) := by decide +kernel
theorem dX12_way_16 : decode cX12_way 16 = .ok (.ldc2_w 99, 3) := by decide +kernel
theorem dX12_way_19 : decode cX12_way 19 = .ok (.lcmp, 1) := by decide +kernel
theorem dX12_way_20 : decode cX12_way 20 = .ok (.ifCond .eq 19, 3) := by decide +kernel
theorem dX12_way_23 : decode cX12_way 23 = .ok (.iload 5, 2) := by decide +kernel
theorem dX12_way_25 : decode cX12_way 25 = .ok (.ifCond .lt 14, 3) := by decide +kernel
theorem dX12_way_28 : decode cX12_way 28 = .ok (.aload_n 0, 1) := by decide +kernel
theorem dX12_way_29 : decode cX12_way 29 = .ok (.iload 6, 2) := by decide +kernel
theorem dX12_way_31 : decode cX12_way 31 = .ok (.iload 7, 2) := by decide +kernel
theorem dX12_way_33 : decode cX12_way 33 = .ok (.invokevirtual 142, 3) := by decide +kernel
theorem dX12_way_36 : decode cX12_way 36 = .ok (.ifCond .ne 5, 3) := by decide +kernel
theorem dX12_way_39 : decode cX12_way 39 = .ok (.iconst (-1), 1) := by decide +kernel
theorem dX12_way_40 : decode cX12_way 40 = .ok (.ireturn, 1) := by decide +kernel
theorem dX12_way_41 : decode cX12_way 41 = .ok (.aload_n 0, 1) := by decide +kernel
theorem dX12_way_42 : decode cX12_way 42 = .ok (.invokevirtual 114, 3) := by decide +kernel
theorem dX12_way_45 : decode cX12_way 45 = .ok (.ifCond .eq 6, 3) := by decide +kernel
theorem dX12_way_48 : decode cX12_way 48 = .ok (.bipush (-2), 2) := by decide +kernel
theorem dX12_way_50 : decode cX12_way 50 = .ok (.ireturn, 1) := by decide +kernel
theorem dX12_way_51 : decode cX12_way 51 = .ok (.aload_n 0, 1) := by decide +kernel
theorem dX12_way_52 : decode cX12_way 52 = .ok (.getfield 101, 3) := by decide +kernel
theorem dX12_way_55 : decode cX12_way 55 = .ok (.bipush 20, 2) := by decide +kernel
theorem dX12_way_57 : decode cX12_way 57 = .ok (.if_icmp .ne 6, 3) := by decide +kernel
theorem dX12_way_60 : decode cX12_way 60 = .ok (.bipush (-3), 2) := by decide +kernel
theorem dX12_way_62 : decode cX12_way 62 = .ok (.ireturn, 1) := by decide +kernel
theorem dX12_way_63 : decode cX12_way 63 = .ok (.aload_n 0, 1) := by decide +kernel
theorem dX12_way_64 : decode cX12_way 64 = .ok (.getfield 29, 3) := by decide +kernel
theorem dX12_way_67 : decode cX12_way 67 = .ok (.aload_n 0, 1) := by decide +kernel
theorem dX12_way_68 : decode cX12_way 68 = .ok (.getfield 101, 3) := by decide +kernel
theorem dX12_way_71 : decode cX12_way 71 = .ok (.iload_n 2, 1) := by decide +kernel
theorem dX12_way_72 : decode cX12_way 72 = .ok (.iastore, 1) := by decide +kernel
theorem dX12_way_73 : decode cX12_way 73 = .ok (.aload_n 0, 1) := by decide +kernel
theorem dX12_way_74 : decode cX12_way 74 = .ok (.getfield 32, 3) := by decide +kernel
theorem dX12_way_77 : decode cX12_way 77 = .ok (.aload_n 0, 1) := by decide +kernel
theorem dX12_way_78 : decode cX12_way 78 = .ok (.getfield 101, 3) := by decide +kernel
theorem dX12_way_81 : decode cX12_way 81 = .ok (.lload_n 3, 1) := by decide +kernel
theorem dX12_way_82 : decode cX12_way 82 = .ok (.lastore, 1) := by decide +kernel
theorem dX12_way_83 : decode cX12_way 83 = .ok (.aload_n 0, 1) := by decide +kernel
theorem dX12_way_84 : decode cX12_way 84 = .ok (.getfield 35, 3) := by decide +kernel
theorem dX12_way_87 : decode cX12_way 87 = .ok (.aload_n 0, 1) := by decide +kernel
theorem dX12_way_88 : decode cX12_way 88 = .ok (.getfield 101, 3) := by decide +kernel
theorem dX12_way_91 : decode cX12_way 91 = .ok (.iload 5, 2) := by decide +kernel
theorem dX12_way_93 : decode cX12_way 93 = .ok (.iastore, 1) := by decide +kernel
theorem dX12_way_94 : decode cX12_way 94 = .ok (.aload_n 0, 1) := by decide +kernel
theorem dX12_way_95 : decode cX12_way 95 = .ok (.iload_n 1, 1) := by decide +kernel
theorem dX12_way_96 : decode cX12_way 96 = .ok (.ifCond .eq 7, 3) := by decide +kernel
theorem dX12_way_99 : decode cX12_way 99 = .ok (.iconst 1, 1) := by decide +kernel
theorem dX12_way_100 : decode cX12_way 100 = .ok (.goto 4, 3) := by decide +kernel
theorem dX12_way_103 : decode cX12_way 103 = .ok (.iconst 0, 1) := by decide +kernel
theorem dX12_way_104 : decode cX12_way 104 = .ok (.iload 6, 2) := by decide +kernel
theorem dX12_way_106 : decode cX12_way 106 = .ok (.iload 7, 2) := by decide +kernel
theorem dX12_way_108 : decode cX12_way 108 = .ok (.invokevirtual 145, 3) := by decide +kernel
theorem dX12_way_111 : decode cX12_way 111 = .ok (.ireturn, 1) := by decide +kernel
theorem dX12_reader_0 : decode cX12_reader 0 = .ok (.aload_n 0, 1) := by decide +kernel
theorem dX12_reader_1 : decode cX12_reader 1 = .ok (.iconst 0, 1) := by decide +kernel
theorem dX12_reader_2 : decode cX12_reader 2 = .ok (.putfield 96, 3) := by decide +kernel
theorem dX12_reader_5 : decode cX12_reader 5 = .ok (.aload_n 0, 1) := by decide +kernel
theorem dX12_reader_6 : decode cX12_reader 6 = .ok (.iload_n 2, 1) := by decide +kernel
theorem dX12_reader_7 : decode cX12_reader 7 = .ok (.invokevirtual 122, 3) := by decide +kernel
theorem dX12_reader_10 : decode cX12_reader 10 = .ok (.ifCond .eq 23, 3) := by decide +kernel
theorem dX12_reader_13 : decode cX12_reader 13 = .ok (.iload_n 3, 1) := by decide +kernel
theorem dX12_reader_14 : decode cX12_reader 14 = .ok (.iconst 0, 1) := by decide +kernel
theorem dX12_reader_15 : decode cX12_reader 15 = .ok (.iconst 5, 1) := by decide +kernel
theorem dX12_reader_16 : decode cX12_reader 16 = .ok (.invokestatic 107, 3) := by decide +kernel
theorem dX12_reader_19 : decode cX12_reader 19 = .ok (.ifCond .eq 14, 3) := by decide +kernel
theorem dX12_reader_22 : decode cX12_reader 22 = .ok (.aload_n 0, 1) := by decide +kernel
theorem dX12_reader_23 : decode cX12_reader 23 = .ok (.iload 4, 2) := by decide +kernel
theorem dX12_reader_25 : decode cX12_reader 25 = .ok (.iload 5, 2) := by decide +kernel
theorem dX12_reader_27 : decode cX12_reader 27 = .ok (.invokevirtual 142, 3) := by decide +kernel
theorem dX12_reader_30 : decode cX12_reader 30 = .ok (.ifCond .ne 5, 3) := by decide +kernel
theorem dX12_reader_33 : decode cX12_reader 33 = .ok (.iconst (-1), 1) := by decide +kernel
theorem dX12_reader_34 : decode cX12_reader 34 = .ok (.ireturn, 1) := by decide +kernel
theorem dX12_reader_35 : decode cX12_reader 35 = .ok (.aload_n 0, 1) := by decide +kernel
theorem dX12_reader_36 : decode cX12_reader 36 = .ok (.invokevirtual 114, 3) := by decide +kernel
theorem dX12_reader_39 : decode cX12_reader 39 = .ok (.ifCond .eq 6, 3) := by decide +kernel
theorem dX12_reader_42 : decode cX12_reader 42 = .ok (.bipush (-2), 2) := by decide +kernel
theorem dX12_reader_44 : decode cX12_reader 44 = .ok (.ireturn, 1) := by decide +kernel
theorem dX12_reader_45 : decode cX12_reader 45 = .ok (.aload_n 0, 1) := by decide +kernel
theorem dX12_reader_46 : decode cX12_reader 46 = .ok (.getfield 101, 3) := by decide +kernel
theorem dX12_reader_49 : decode cX12_reader 49 = .ok (.bipush 20, 2) := by decide +kernel
theorem dX12_reader_51 : decode cX12_reader 51 = .ok (.if_icmp .ne 6, 3) := by decide +kernel
theorem dX12_reader_54 : decode cX12_reader 54 = .ok (.bipush (-3), 2) := by decide +kernel
theorem dX12_reader_56 : decode cX12_reader 56 = .ok (.ireturn, 1) := by decide +kernel
theorem dX12_reader_57 : decode cX12_reader 57 = .ok (.aload_n 0, 1) := by decide +kernel
theorem dX12_reader_58 : decode cX12_reader 58 = .ok (.getfield 44, 3) := by decide +kernel
theorem dX12_reader_61 : decode cX12_reader 61 = .ok (.aload_n 0, 1) := by decide +kernel
theorem dX12_reader_62 : decode cX12_reader 62 = .ok (.getfield 101, 3) := by decide +kernel
theorem dX12_reader_65 : decode cX12_reader 65 = .ok (.iload_n 2, 1) := by decide +kernel
theorem dX12_reader_66 : decode cX12_reader 66 = .ok (.iastore, 1) := by decide +kernel
theorem dX12_reader_67 : decode cX12_reader 67 = .ok (.aload_n 0, 1) := by decide +kernel
theorem dX12_reader_68 : decode cX12_reader 68 = .ok (.getfield 47, 3) := by decide +kernel
theorem dX12_reader_71 : decode cX12_reader 71 = .ok (.aload_n 0, 1) := by decide +kernel
theorem dX12_reader_72 : decode cX12_reader 72 = .ok (.getfield 101, 3) := by decide +kernel
theorem dX12_reader_75 : decode cX12_reader 75 = .ok (.iload_n 3, 1) := by decide +kernel
theorem dX12_reader_76 : decode cX12_reader 76 = .ok (.iastore, 1) := by decide +kernel
theorem dX12_reader_77 : decode cX12_reader 77 = .ok (.aload_n 0, 1) := by decide +kernel
theorem dX12_reader_78 : decode cX12_reader 78 = .ok (.iload_n 1, 1) := by decide +kernel
theorem dX12_reader_79 : decode cX12_reader 79 = .ok (.ifCond .eq 7, 3) := by decide +kernel
theorem dX12_reader_82 : decode cX12_reader 82 = .ok (.iconst 3, 1) := by decide +kernel
theorem dX12_reader_83 : decode cX12_reader 83 = .ok (.goto 4, 3) := by decide +kernel
theorem dX12_reader_86 : decode cX12_reader 86 = .ok (.iconst 2, 1) := by decide +kernel
theorem dX12_reader_87 : decode cX12_reader 87 = .ok (.iload 4, 2) := by decide +kernel
theorem dX12_reader_89 : decode cX12_reader 89 = .ok (.iload 5, 2) := by decide +kernel
theorem dX12_reader_91 : decode cX12_reader 91 = .ok (.invokevirtual 145, 3) := by decide +kernel
theorem dX12_reader_94 : decode cX12_reader 94 = .ok (.ireturn, 1) := by decide +kernel
theorem dX12_search_0 : decode cX12_search 0 = .ok (.aload_n 0, 1) := by decide +kernel
theorem dX12_search_1 : decode cX12_search 1 = .ok (.iconst 0, 1) := by decide +kernel
theorem dX12_search_2 : decode cX12_search 2 = .ok (.putfield 96, 3) := by decide +kernel
theorem dX12_search_5 : decode cX12_search 5 = .ok (.aload_n 0, 1) := by decide +kernel
theorem dX12_search_6 : decode cX12_search 6 = .ok (.iload_n 1, 1) := by decide +kernel
theorem dX12_search_7 : decode cX12_search 7 = .ok (.invokevirtual 122, 3) := by decide +kernel
theorem dX12_search_10 : decode cX12_search 10 = .ok (.ifCond .eq 29, 3) := by decide +kernel
theorem dX12_search_13 : decode cX12_search 13 = .ok (.iload_n 2, 1) := by decide +kernel
theorem dX12_search_14 : decode cX12_search 14 = .ok (.iconst 0, 1) := by decide +kernel
theorem dX12_search_15 : decode cX12_search 15 = .ok (.iconst 5, 1) := by decide +kernel
theorem dX12_search_16 : decode cX12_search 16 = .ok (.invokestatic 107, 3) := by decide +kernel
theorem dX12_search_19 : decode cX12_search 19 = .ok (.ifCond .eq 20, 3) := by decide +kernel
theorem dX12_search_22 : decode cX12_search 22 = .ok (.iload_n 3, 1) := by decide +kernel
theorem dX12_search_23 : decode cX12_search 23 = .ok (.iconst 0, 1) := by decide +kernel
theorem dX12_search_24 : decode cX12_search 24 = .ok (.bipush 100, 2) := by decide +kernel
theorem dX12_search_26 : decode cX12_search 26 = .ok (.invokestatic 107, 3) := by decide +kernel
theorem dX12_search_29 : decode cX12_search 29 = .ok (.ifCond .eq 10, 3) := by decide +kernel
theorem dX12_search_32 : decode cX12_search 32 = .ok (.lload 4, 2) := by decide +kernel
theorem dX12_search_34 : decode cX12_search 34 = .ok (.lconst 0, 1) := by decide +kernel
theorem dX12_search_35 : decode cX12_search 35 = .ok (.lcmp, 1) := by decide +kernel
theorem dX12_search_36 : decode cX12_search 36 = .ok (.ifCond .ge 5, 3) := by decide +kernel
theorem dX12_search_39 : decode cX12_search 39 = .ok (.iconst (-1), 1) := by decide +kernel
theorem dX12_search_40 : decode cX12_search 40 = .ok (.ireturn, 1) := by decide +kernel
theorem dX12_search_41 : decode cX12_search 41 = .ok (.aload_n 0, 1) := by decide +kernel
theorem dX12_search_42 : decode cX12_search 42 = .ok (.invokevirtual 114, 3) := by decide +kernel
theorem dX12_search_45 : decode cX12_search 45 = .ok (.ifCond .eq 6, 3) := by decide +kernel
theorem dX12_search_48 : decode cX12_search 48 = .ok (.bipush (-2), 2) := by decide +kernel
theorem dX12_search_50 : decode cX12_search 50 = .ok (.ireturn, 1) := by decide +kernel
theorem dX12_search_51 : decode cX12_search 51 = .ok (.aload_n 0, 1) := by decide +kernel
theorem dX12_search_52 : decode cX12_search 52 = .ok (.getfield 148, 3) := by decide +kernel
theorem dX12_search_55 : decode cX12_search 55 = .ok (.bipush 8, 2) := by decide +kernel
theorem dX12_search_57 : decode cX12_search 57 = .ok (.if_icmp .ne 6, 3) := by decide +kernel
theorem dX12_search_60 : decode cX12_search 60 = .ok (.bipush (-3), 2) := by decide +kernel
theorem dX12_search_62 : decode cX12_search 62 = .ok (.ireturn, 1) := by decide +kernel
theorem dX12_search_63 : decode cX12_search 63 = .ok (.aload_n 0, 1) := by decide +kernel
theorem dX12_search_64 : decode cX12_search 64 = .ok (.getfield 53, 3) := by decide +kernel
theorem dX12_search_67 : decode cX12_search 67 = .ok (.aload_n 0, 1) := by decide +kernel
theorem dX12_search_68 : decode cX12_search 68 = .ok (.getfield 148, 3) := by decide +kernel
theorem dX12_search_71 : decode cX12_search 71 = .ok (.iload_n 1, 1) := by decide +kernel
theorem dX12_search_72 : decode cX12_search 72 = .ok (.iastore, 1) := by decide +kernel
theorem dX12_search_73 : decode cX12_search 73 = .ok (.aload_n 0, 1) := by decide +kernel
theorem dX12_search_74 : decode cX12_search 74 = .ok (.getfield 56, 3) := by decide +kernel
theorem dX12_search_77 : decode cX12_search 77 = .ok (.aload_n 0, 1) := by decide +kernel
theorem dX12_search_78 : decode cX12_search 78 = .ok (.getfield 148, 3) := by decide +kernel
theorem dX12_search_81 : decode cX12_search 81 = .ok (.iload_n 2, 1) := by decide +kernel
theorem dX12_search_82 : decode cX12_search 82 = .ok (.iastore, 1) := by decide +kernel
theorem dX12_search_83 : decode cX12_search 83 = .ok (.aload_n 0, 1) := by decide +kernel
theorem dX12_search_84 : decode cX12_search 84 = .ok (.getfield 59, 3) := by decide +kernel
theorem dX12_search_87 : decode cX12_search 87 = .ok (.aload_n 0, 1) := by decide +kernel
theorem dX12_search_88 : decode cX12_search 88 = .ok (.getfield 148, 3) := by decide +kernel
theorem dX12_search_91 : decode cX12_search 91 = .ok (.iload_n 3, 1) := by decide +kernel
theorem dX12_search_92 : decode cX12_search 92 = .ok (.iastore, 1) := by decide +kernel
theorem dX12_search_93 : decode cX12_search 93 = .ok (.aload_n 0, 1) := by decide +kernel
theorem dX12_search_94 : decode cX12_search 94 = .ok (.getfield 62, 3) := by decide +kernel
theorem dX12_search_97 : decode cX12_search 97 = .ok (.aload_n 0, 1) := by decide +kernel
theorem dX12_search_98 : decode cX12_search 98 = .ok (.getfield 148, 3) := by decide +kernel
theorem dX12_search_101 : decode cX12_search 101 = .ok (.lload 4, 2) := by decide +kernel
theorem dX12_search_103 : decode cX12_search 103 = .ok (.lastore, 1) := by decide +kernel
theorem dX12_search_104 : decode cX12_search 104 = .ok (.aload_n 0, 1) := by decide +kernel
theorem dX12_search_105 : decode cX12_search 105 = .ok (.getfield 74, 3) := by decide +kernel
theorem dX12_search_108 : decode cX12_search 108 = .ok (.bipush 28, 2) := by decide +kernel
theorem dX12_search_110 : decode cX12_search 110 = .ok (.aload_n 0, 1) := by decide +kernel
theorem dX12_search_111 : decode cX12_search 111 = .ok (.getfield 148, 3) := by decide +kernel
theorem dX12_search_114 : decode cX12_search 114 = .ok (.iadd, 1) := by decide +kernel
theorem dX12_search_115 : decode cX12_search 115 = .ok (.lload 4, 2) := by decide +kernel
theorem dX12_search_117 : decode cX12_search 117 = .ok (.lastore, 1) := by decide +kernel
theorem dX12_search_118 : decode cX12_search 118 = .ok (.aload_n 0, 1) := by decide +kernel
theorem dX12_search_119 : decode cX12_search 119 = .ok (.dup, 1) := by decide +kernel
theorem dX12_search_120 : decode cX12_search 120 = .ok (.getfield 148, 3) := by decide +kernel
theorem dX12_search_123 : decode cX12_search 123 = .ok (.iconst 1, 1) := by decide +kernel
theorem dX12_search_124 : decode cX12_search 124 = .ok (.iadd, 1) := by decide +kernel
theorem dX12_search_125 : decode cX12_search 125 = .ok (.putfield 148, 3) := by decide +kernel
theorem dX12_search_128 : decode cX12_search 128 = .ok (.aload_n 0, 1) := by decide +kernel
theorem dX12_search_129 : decode cX12_search 129 = .ok (.getfield 148, 3) := by decide +kernel
theorem dX12_search_132 : decode cX12_search 132 = .ok (.iconst 1, 1) := by decide +kernel
theorem dX12_search_133 : decode cX12_search 133 = .ok (.isub, 1) := by decide +kernel
theorem dX12_search_134 : decode cX12_search 134 = .ok (.ireturn, 1) := by decide +kernel
theorem dX12_share_0 : decode cX12_share 0 = .ok (.aload_n 0, 1) := by decide +kernel
theorem dX12_share_1 : decode cX12_share 1 = .ok (.iconst 0, 1) := by decide +kernel
theorem dX12_share_2 : decode cX12_share 2 = .ok (.putfield 96, 3) := by decide +kernel
theorem dX12_share_5 : decode cX12_share 5 = .ok (.iload_n 1, 1) := by decide +kernel
theorem dX12_share_6 : decode cX12_share 6 = .ok (.iconst 0, 1) := by decide +kernel
theorem dX12_share_7 : decode cX12_share 7 = .ok (.aload_n 0, 1) := by decide +kernel
theorem dX12_share_8 : decode cX12_share 8 = .ok (.getfield 148, 3) := by decide +kernel
theorem dX12_share_11 : decode cX12_share 11 = .ok (.iconst 1, 1) := by decide +kernel
theorem dX12_share_12 : decode cX12_share 12 = .ok (.isub, 1) := by decide +kernel
theorem dX12_share_13 : decode cX12_share 13 = .ok (.invokestatic 107, 3) := by decide +kernel
theorem dX12_share_16 : decode cX12_share 16 = .ok (.ifCond .eq 29, 3) := by decide +kernel
theorem dX12_share_19 : decode cX12_share 19 = .ok (.iload_n 2, 1) := by decide +kernel
theorem dX12_share_20 : decode cX12_share 20 = .ok (.ifCond .lt 25, 3) := by decide +kernel
theorem dX12_share_23 : decode cX12_share 23 = .ok (.iload_n 2, 1) := by decide +kernel
theorem dX12_share_24 : decode cX12_share 24 = .ok (.iload_n 3, 1) := by decide +kernel
theorem dX12_share_25 : decode cX12_share 25 = .ok (.if_icmp .gt 20, 3) := by decide +kernel
theorem dX12_share_28 : decode cX12_share 28 = .ok (.iload_n 3, 1) := by decide +kernel
theorem dX12_share_29 : decode cX12_share 29 = .ok (.bipush 20, 2) := by decide +kernel
theorem dX12_share_31 : decode cX12_share 31 = .ok (.if_icmp .gt 14, 3) := by decide +kernel
theorem dX12_share_34 : decode cX12_share 34 = .ok (.aload_n 0, 1) := by decide +kernel
theorem dX12_share_35 : decode cX12_share 35 = .ok (.iload 4, 2) := by decide +kernel
theorem dX12_share_37 : decode cX12_share 37 = .ok (.iload 5, 2) := by decide +kernel
theorem dX12_share_39 : decode cX12_share 39 = .ok (.invokevirtual 142, 3) := by decide +kernel
theorem dX12_share_42 : decode cX12_share 42 = .ok (.ifCond .ne 5, 3) := by decide +kernel
theorem dX12_share_45 : decode cX12_share 45 = .ok (.iconst (-1), 1) := by decide +kernel
theorem dX12_share_46 : decode cX12_share 46 = .ok (.ireturn, 1) := by decide +kernel
theorem dX12_share_47 : decode cX12_share 47 = .ok (.aload_n 0, 1) := by decide +kernel
theorem dX12_share_48 : decode cX12_share 48 = .ok (.invokevirtual 114, 3) := by decide +kernel
theorem dX12_share_51 : decode cX12_share 51 = .ok (.ifCond .eq 6, 3) := by decide +kernel
theorem dX12_share_54 : decode cX12_share 54 = .ok (.bipush (-2), 2) := by decide +kernel
theorem dX12_share_56 : decode cX12_share 56 = .ok (.ireturn, 1) := by decide +kernel
theorem dX12_share_57 : decode cX12_share 57 = .ok (.aload_n 0, 1) := by decide +kernel
theorem dX12_share_58 : decode cX12_share 58 = .ok (.getfield 101, 3) := by decide +kernel
theorem dX12_share_61 : decode cX12_share 61 = .ok (.bipush 20, 2) := by decide +kernel
theorem dX12_share_63 : decode cX12_share 63 = .ok (.if_icmp .ne 6, 3) := by decide +kernel
theorem dX12_share_66 : decode cX12_share 66 = .ok (.bipush (-3), 2) := by decide +kernel
theorem dX12_share_68 : decode cX12_share 68 = .ok (.ireturn, 1) := by decide +kernel
theorem dX12_share_69 : decode cX12_share 69 = .ok (.aload_n 0, 1) := by decide +kernel
theorem dX12_share_70 : decode cX12_share 70 = .ok (.getfield 44, 3) := by decide +kernel
theorem dX12_share_73 : decode cX12_share 73 = .ok (.aload_n 0, 1) := by decide +kernel
theorem dX12_share_74 : decode cX12_share 74 = .ok (.getfield 101, 3) := by decide +kernel
theorem dX12_share_77 : decode cX12_share 77 = .ok (.iload_n 1, 1) := by decide +kernel
theorem dX12_share_78 : decode cX12_share 78 = .ok (.iastore, 1) := by decide +kernel
theorem dX12_share_79 : decode cX12_share 79 = .ok (.aload_n 0, 1) := by decide +kernel
theorem dX12_share_80 : decode cX12_share 80 = .ok (.getfield 47, 3) := by decide +kernel
theorem dX12_share_83 : decode cX12_share 83 = .ok (.aload_n 0, 1) := by decide +kernel
theorem dX12_share_84 : decode cX12_share 84 = .ok (.getfield 101, 3) := by decide +kernel
theorem dX12_share_87 : decode cX12_share 87 = .ok (.iload_n 2, 1) := by decide +kernel
theorem dX12_share_88 : decode cX12_share 88 = .ok (.iastore, 1) := by decide +kernel
theorem dX12_share_89 : decode cX12_share 89 = .ok (.aload_n 0, 1) := by decide +kernel
theorem dX12_share_90 : decode cX12_share 90 = .ok (.getfield 50, 3) := by decide +kernel
theorem dX12_share_93 : decode cX12_share 93 = .ok (.aload_n 0, 1) := by decide +kernel
theorem dX12_share_94 : decode cX12_share 94 = .ok (.getfield 101, 3) := by decide +kernel
theorem dX12_share_97 : decode cX12_share 97 = .ok (.iload_n 3, 1) := by decide +kernel
theorem dX12_share_98 : decode cX12_share 98 = .ok (.iastore, 1) := by decide +kernel
theorem dX12_share_99 : decode cX12_share 99 = .ok (.aload_n 0, 1) := by decide +kernel
theorem dX12_share_100 : decode cX12_share 100 = .ok (.iconst 4, 1) := by decide +kernel
theorem dX12_share_101 : decode cX12_share 101 = .ok (.iload 4, 2) := by decide +kernel
theorem dX12_share_103 : decode cX12_share 103 = .ok (.iload 5, 2) := by decide +kernel
theorem dX12_share_105 : decode cX12_share 105 = .ok (.invokevirtual 145, 3) := by decide +kernel
theorem dX12_share_108 : decode cX12_share 108 = .ok (.ireturn, 1) := by decide +kernel
theorem dX12_turn_0 : decode cX12_turn 0 = .ok (.aload_n 0, 1) := by decide +kernel
theorem dX12_turn_1 : decode cX12_turn 1 = .ok (.iconst 0, 1) := by decide +kernel
theorem dX12_turn_2 : decode cX12_turn 2 = .ok (.putfield 96, 3) := by decide +kernel
theorem dX12_turn_5 : decode cX12_turn 5 = .ok (.iload_n 1, 1) := by decide +kernel
theorem dX12_turn_6 : decode cX12_turn 6 = .ok (.iconst 0, 1) := by decide +kernel
theorem dX12_turn_7 : decode cX12_turn 7 = .ok (.aload_n 0, 1) := by decide +kernel
theorem dX12_turn_8 : decode cX12_turn 8 = .ok (.getfield 86, 3) := by decide +kernel
theorem dX12_turn_11 : decode cX12_turn 11 = .ok (.iconst 1, 1) := by decide +kernel
theorem dX12_turn_12 : decode cX12_turn 12 = .ok (.isub, 1) := by decide +kernel
theorem dX12_turn_13 : decode cX12_turn 13 = .ok (.invokestatic 107, 3) := by decide +kernel
theorem dX12_turn_16 : decode cX12_turn 16 = .ok (.ifCond .ne 5, 3) := by decide +kernel
theorem dX12_turn_19 : decode cX12_turn 19 = .ok (.iconst (-1), 1) := by decide +kernel
theorem dX12_turn_20 : decode cX12_turn 20 = .ok (.ireturn, 1) := by decide +kernel
theorem dX12_turn_21 : decode cX12_turn 21 = .ok (.aload_n 0, 1) := by decide +kernel
theorem dX12_turn_22 : decode cX12_turn 22 = .ok (.invokevirtual 114, 3) := by decide +kernel
theorem dX12_turn_25 : decode cX12_turn 25 = .ok (.ifCond .eq 6, 3) := by decide +kernel
theorem dX12_turn_28 : decode cX12_turn 28 = .ok (.bipush (-2), 2) := by decide +kernel
theorem dX12_turn_30 : decode cX12_turn 30 = .ok (.ireturn, 1) := by decide +kernel
theorem dX12_turn_31 : decode cX12_turn 31 = .ok (.aload_n 0, 1) := by decide +kernel
theorem dX12_turn_32 : decode cX12_turn 32 = .ok (.getfield 151, 3) := by decide +kernel
theorem dX12_turn_35 : decode cX12_turn 35 = .ok (.sipush 400, 3) := by decide +kernel
theorem dX12_turn_38 : decode cX12_turn 38 = .ok (.if_icmp .ne 6, 3) := by decide +kernel
theorem dX12_turn_41 : decode cX12_turn 41 = .ok (.bipush (-3), 2) := by decide +kernel
theorem dX12_turn_43 : decode cX12_turn 43 = .ok (.ireturn, 1) := by decide +kernel
theorem dX12_turn_44 : decode cX12_turn 44 = .ok (.aload_n 0, 1) := by decide +kernel
theorem dX12_turn_45 : decode cX12_turn 45 = .ok (.getfield 65, 3) := by decide +kernel
theorem dX12_turn_48 : decode cX12_turn 48 = .ok (.aload_n 0, 1) := by decide +kernel
theorem dX12_turn_49 : decode cX12_turn 49 = .ok (.getfield 151, 3) := by decide +kernel
theorem dX12_turn_52 : decode cX12_turn 52 = .ok (.iload_n 1, 1) := by decide +kernel
theorem dX12_turn_53 : decode cX12_turn 53 = .ok (.iastore, 1) := by decide +kernel
theorem dX12_turn_54 : decode cX12_turn 54 = .ok (.aload_n 0, 1) := by decide +kernel
theorem dX12_turn_55 : decode cX12_turn 55 = .ok (.dup, 1) := by decide +kernel
theorem dX12_turn_56 : decode cX12_turn 56 = .ok (.getfield 151, 3) := by decide +kernel
theorem dX12_turn_59 : decode cX12_turn 59 = .ok (.iconst 1, 1) := by decide +kernel
theorem dX12_turn_60 : decode cX12_turn 60 = .ok (.iadd, 1) := by decide +kernel
theorem dX12_turn_61 : decode cX12_turn 61 = .ok (.putfield 151, 3) := by decide +kernel
theorem dX12_turn_64 : decode cX12_turn 64 = .ok (.aload_n 0, 1) := by decide +kernel
theorem dX12_turn_65 : decode cX12_turn 65 = .ok (.getfield 151, 3) := by decide +kernel
theorem dX12_turn_68 : decode cX12_turn 68 = .ok (.ireturn, 1) := by decide +kernel
theorem dX12_at_0 : decode cX12_at 0 = .ok (.aload_n 0, 1) := by decide +kernel
theorem dX12_at_1 : decode cX12_at 1 = .ok (.getfield 68, 3) := by decide +kernel
theorem dX12_at_4 : decode cX12_at 4 = .ok (.bipush 12, 2) := by decide +kernel
theorem dX12_at_6 : decode cX12_at 6 = .ok (.iload_n 1, 1) := by decide +kernel
theorem dX12_at_7 : decode cX12_at 7 = .ok (.imul, 1) := by decide +kernel
theorem dX12_at_8 : decode cX12_at 8 = .ok (.iload_n 2, 1) := by decide +kernel
theorem dX12_at_9 : decode cX12_at 9 = .ok (.iadd, 1) := by decide +kernel
theorem dX12_at_10 : decode cX12_at 10 = .ok (.iaload, 1) := by decide +kernel
theorem dX12_at_11 : decode cX12_at 11 = .ok (.ireturn, 1) := by decide +kernel
theorem dX12_set_0 : decode cX12_set 0 = .ok (.aload_n 0, 1) := by decide +kernel
theorem dX12_set_1 : decode cX12_set 1 = .ok (.getfield 68, 3) := by decide +kernel
theorem dX12_set_4 : decode cX12_set 4 = .ok (.bipush 12, 2) := by decide +kernel
theorem dX12_set_6 : decode cX12_set 6 = .ok (.iload_n 1, 1) := by decide +kernel
theorem dX12_set_7 : decode cX12_set 7 = .ok (.imul, 1) := by decide +kernel
theorem dX12_set_8 : decode cX12_set 8 = .ok (.iload_n 2, 1) := by decide +kernel
theorem dX12_set_9 : decode cX12_set 9 = .ok (.iadd, 1) := by decide +kernel
theorem dX12_set_10 : decode cX12_set 10 = .ok (.iload_n 3, 1) := by decide +kernel
theorem dX12_set_11 : decode cX12_set 11 = .ok (.iastore, 1) := by decide +kernel
theorem dX12_set_12 : decode cX12_set 12 = .ok (.return_, 1) := by decide +kernel
theorem dX12_more_0 : decode cX12_more 0 = .ok (.aload_n 0, 1) := by decide +kernel
theorem dX12_more_1 : decode cX12_more 1 = .ok (.getfield 68, 3) := by decide +kernel
theorem dX12_more_4 : decode cX12_more 4 = .ok (.bipush 12, 2) := by decide +kernel
theorem dX12_more_6 : decode cX12_more 6 = .ok (.iload_n 1, 1) := by decide +kernel
theorem dX12_more_7 : decode cX12_more 7 = .ok (.imul, 1) := by decide +kernel
theorem dX12_more_8 : decode cX12_more 8 = .ok (.iload_n 2, 1) := by decide +kernel
theorem dX12_more_9 : decode cX12_more 9 = .ok (.iadd, 1) := by decide +kernel
theorem dX12_more_10 : decode cX12_more 10 = .ok (.dup2, 1) := by decide +kernel
theorem dX12_more_11 : decode cX12_more 11 = .ok (.iaload, 1) := by decide +kernel
theorem dX12_more_12 : decode cX12_more 12 = .ok (.iconst 1, 1) := by decide +kernel
theorem dX12_more_13 : decode cX12_more 13 = .ok (.iadd, 1) := by decide +kernel
theorem dX12_more_14 : decode cX12_more 14 = .ok (.iastore, 1) := by decide +kernel
theorem dX12_more_15 : decode cX12_more 15 = .ok (.return_, 1) := by decide +kernel
theorem dX12_failed_0 : decode cX12_failed 0 = .ok (.aload_n 0, 1) := by decide +kernel
theorem dX12_failed_1 : decode cX12_failed 1 = .ok (.iload_n 1, 1) := by decide +kernel
theorem dX12_failed_2 : decode cX12_failed 2 = .ok (.iconst 1, 1) := by decide +kernel
theorem dX12_failed_3 : decode cX12_failed 3 = .ok (.iload_n 2, 1) := by decide +kernel
theorem dX12_failed_4 : decode cX12_failed 4 = .ok (.invokevirtual 154, 3) := by decide +kernel
theorem dX12_failed_7 : decode cX12_failed 7 = .ok (.iconst 3, 1) := by decide +kernel
theorem dX12_failed_8 : decode cX12_failed 8 = .ok (.ireturn, 1) := by decide +kernel
theorem dX12_worth_0 : decode cX12_worth 0 = .ok (.lload_n 0, 1) := by decide +kernel
theorem dX12_worth_1 : decode cX12_worth 1 = .ok (.lconst 0, 1) := by decide +kernel
theorem dX12_worth_2 : decode cX12_worth 2 = .ok (.lcmp, 1) := by decide +kernel
theorem dX12_worth_3 : decode cX12_worth 3 = .ok (.ifCond .gt 7, 3) := by decide +kernel
theorem dX12_worth_6 : decode cX12_worth 6 = .ok (.lconst 0, 1) := by decide +kernel
theorem dX12_worth_7 : decode cX12_worth 7 = .ok (.goto 18, 3) := by decide +kernel
theorem dX12_worth_10 : decode cX12_worth 10 = .ok (.lload_n 0, 1) := by decide +kernel
theorem dX12_worth_11 : decode cX12_worth 11 = .ok (.ldc2_w 158, 3) := by decide +kernel
theorem dX12_worth_14 : decode cX12_worth 14 = .ok (.lcmp, 1) := by decide +kernel
theorem dX12_worth_15 : decode cX12_worth 15 = .ok (.ifCond .le 9, 3) := by decide +kernel
theorem dX12_worth_18 : decode cX12_worth 18 = .ok (.ldc2_w 158, 3) := by decide +kernel
theorem dX12_worth_21 : decode cX12_worth 21 = .ok (.goto 4, 3) := by decide +kernel
theorem dX12_worth_24 : decode cX12_worth 24 = .ok (.lload_n 0, 1) := by decide +kernel
theorem dX12_worth_25 : decode cX12_worth 25 = .ok (.lreturn, 1) := by decide +kernel
theorem dX12_step_0 : decode cX12_step 0 = .ok (.aload_n 0, 1) := by decide +kernel
theorem dX12_step_1 : decode cX12_step 1 = .ok (.iload_n 1, 1) := by decide +kernel
theorem dX12_step_2 : decode cX12_step 2 = .ok (.iconst 2, 1) := by decide +kernel
theorem dX12_step_3 : decode cX12_step 3 = .ok (.invokevirtual 160, 3) := by decide +kernel
theorem dX12_step_6 : decode cX12_step 6 = .ok (.aload_n 0, 1) := by decide +kernel
theorem dX12_step_7 : decode cX12_step 7 = .ok (.getfield 26, 3) := by decide +kernel
theorem dX12_step_10 : decode cX12_step 10 = .ok (.iload_n 1, 1) := by decide +kernel
theorem dX12_step_11 : decode cX12_step 11 = .ok (.iaload, 1) := by decide +kernel
theorem dX12_step_12 : decode cX12_step 12 = .ok (.iconst 2, 1) := by decide +kernel
theorem dX12_step_13 : decode cX12_step 13 = .ok (.if_icmp .ge 11, 3) := by decide +kernel
theorem dX12_step_16 : decode cX12_step 16 = .ok (.aload_n 0, 1) := by decide +kernel
theorem dX12_step_17 : decode cX12_step 17 = .ok (.iload_n 1, 1) := by decide +kernel
theorem dX12_step_18 : decode cX12_step 18 = .ok (.invokevirtual 164, 3) := by decide +kernel
theorem dX12_step_21 : decode cX12_step 21 = .ok (.goto 26, 3) := by decide +kernel
theorem dX12_step_24 : decode cX12_step 24 = .ok (.aload_n 0, 1) := by decide +kernel
theorem dX12_step_25 : decode cX12_step 25 = .ok (.getfield 26, 3) := by decide +kernel
theorem dX12_step_28 : decode cX12_step 28 = .ok (.iload_n 1, 1) := by decide +kernel
theorem dX12_step_29 : decode cX12_step 29 = .ok (.iaload, 1) := by decide +kernel
theorem dX12_step_30 : decode cX12_step 30 = .ok (.iconst 4, 1) := by decide +kernel
theorem dX12_step_31 : decode cX12_step 31 = .ok (.if_icmp .ne 11, 3) := by decide +kernel
theorem dX12_step_34 : decode cX12_step 34 = .ok (.aload_n 0, 1) := by decide +kernel
theorem dX12_step_35 : decode cX12_step 35 = .ok (.iload_n 1, 1) := by decide +kernel
theorem dX12_step_36 : decode cX12_step 36 = .ok (.invokevirtual 167, 3) := by decide +kernel
theorem dX12_step_39 : decode cX12_step 39 = .ok (.goto 8, 3) := by decide +kernel
theorem dX12_step_42 : decode cX12_step 42 = .ok (.aload_n 0, 1) := by decide +kernel
theorem dX12_step_43 : decode cX12_step 43 = .ok (.iload_n 1, 1) := by decide +kernel
theorem dX12_step_44 : decode cX12_step 44 = .ok (.invokevirtual 170, 3) := by decide +kernel
theorem dX12_step_47 : decode cX12_step 47 = .ok (.istore_n 2, 1) := by decide +kernel
theorem dX12_step_48 : decode cX12_step 48 = .ok (.aload_n 0, 1) := by decide +kernel
theorem dX12_step_49 : decode cX12_step 49 = .ok (.getfield 26, 3) := by decide +kernel
theorem dX12_step_52 : decode cX12_step 52 = .ok (.iload_n 1, 1) := by decide +kernel
theorem dX12_step_53 : decode cX12_step 53 = .ok (.iaload, 1) := by decide +kernel
theorem dX12_step_54 : decode cX12_step 54 = .ok (.iconst 4, 1) := by decide +kernel
theorem dX12_step_55 : decode cX12_step 55 = .ok (.if_icmp .ne 13, 3) := by decide +kernel
theorem dX12_step_58 : decode cX12_step 58 = .ok (.aload_n 0, 1) := by decide +kernel
theorem dX12_step_59 : decode cX12_step 59 = .ok (.iload_n 1, 1) := by decide +kernel
theorem dX12_step_60 : decode cX12_step 60 = .ok (.bipush 9, 2) := by decide +kernel
theorem dX12_step_62 : decode cX12_step 62 = .ok (.invokevirtual 173, 3) := by decide +kernel
theorem dX12_step_65 : decode cX12_step 65 = .ok (.goto 9, 3) := by decide +kernel
theorem dX12_step_68 : decode cX12_step 68 = .ok (.aload_n 0, 1) := by decide +kernel
theorem dX12_step_69 : decode cX12_step 69 = .ok (.iload_n 1, 1) := by decide +kernel
theorem dX12_step_70 : decode cX12_step 70 = .ok (.iconst 2, 1) := by decide +kernel
theorem dX12_step_71 : decode cX12_step 71 = .ok (.invokevirtual 173, 3) := by decide +kernel
theorem dX12_step_74 : decode cX12_step 74 = .ok (.aload_n 0, 1) := by decide +kernel
theorem dX12_step_75 : decode cX12_step 75 = .ok (.getfield 41, 3) := by decide +kernel
theorem dX12_step_78 : decode cX12_step 78 = .ok (.iload_n 1, 1) := by decide +kernel
theorem dX12_step_79 : decode cX12_step 79 = .ok (.iaload, 1) := by decide +kernel
theorem dX12_step_80 : decode cX12_step 80 = .ok (.if_icmp .lt 7, 3) := by decide +kernel
theorem dX12_step_83 : decode cX12_step 83 = .ok (.iconst 1, 1) := by decide +kernel
theorem dX12_step_84 : decode cX12_step 84 = .ok (.goto 4, 3) := by decide +kernel
theorem dX12_step_87 : decode cX12_step 87 = .ok (.iconst 0, 1) := by decide +kernel
theorem dX12_step_88 : decode cX12_step 88 = .ok (.istore_n 3, 1) := by decide +kernel
theorem dX12_step_89 : decode cX12_step 89 = .ok (.iload_n 2, 1) := by decide +kernel
theorem dX12_step_90 : decode cX12_step 90 = .ok (.iconst 1, 1) := by decide +kernel
theorem dX12_step_91 : decode cX12_step 91 = .ok (.if_icmp .ne 11, 3) := by decide +kernel
theorem dX12_step_94 : decode cX12_step 94 = .ok (.iload_n 3, 1) := by decide +kernel
theorem dX12_step_95 : decode cX12_step 95 = .ok (.ifCond .eq 7, 3) := by decide +kernel
theorem dX12_step_98 : decode cX12_step 98 = .ok (.iconst 4, 1) := by decide +kernel
theorem dX12_step_99 : decode cX12_step 99 = .ok (.goto 4, 3) := by decide +kernel
theorem dX12_step_102 : decode cX12_step 102 = .ok (.iload_n 2, 1) := by decide +kernel
theorem dX12_step_103 : decode cX12_step 103 = .ok (.ireturn, 1) := by decide +kernel
theorem dX12_plain_0 : decode cX12_plain 0 = .ok (.aload_n 0, 1) := by decide +kernel
theorem dX12_plain_1 : decode cX12_plain 1 = .ok (.getfield 26, 3) := by decide +kernel
theorem dX12_plain_4 : decode cX12_plain 4 = .ok (.iload_n 1, 1) := by decide +kernel
theorem dX12_plain_5 : decode cX12_plain 5 = .ok (.iaload, 1) := by decide +kernel
theorem dX12_plain_6 : decode cX12_plain 6 = .ok (.ifCond .ne 7, 3) := by decide +kernel
theorem dX12_plain_9 : decode cX12_plain 9 = .ok (.lconst 1, 1) := by decide +kernel
theorem dX12_plain_10 : decode cX12_plain 10 = .ok (.goto 13, 3) := by decide +kernel
theorem dX12_plain_13 : decode cX12_plain 13 = .ok (.lconst 1, 1) := by decide +kernel
theorem dX12_plain_14 : decode cX12_plain 14 = .ok (.aload_n 0, 1) := by decide +kernel
theorem dX12_plain_15 : decode cX12_plain 15 = .ok (.iload_n 1, 1) := by decide +kernel
theorem dX12_plain_16 : decode cX12_plain 16 = .ok (.iconst 2, 1) := by decide +kernel
theorem dX12_plain_17 : decode cX12_plain 17 = .ok (.invokevirtual 173, 3) := by decide +kernel
theorem dX12_plain_20 : decode cX12_plain 20 = .ok (.iconst 1, 1) := by decide +kernel
theorem dX12_plain_21 : decode cX12_plain 21 = .ok (.isub, 1) := by decide +kernel
theorem dX12_plain_22 : decode cX12_plain 22 = .ok (.lshl, 1) := by decide +kernel
theorem dX12_plain_23 : decode cX12_plain 23 = .ok (.lstore_n 2, 1) := by decide +kernel
theorem dX12_plain_24 : decode cX12_plain 24 = .ok (.lconst 0, 1) := by decide +kernel
theorem dX12_plain_25 : decode cX12_plain 25 = .ok (.lstore 4, 2) := by decide +kernel
theorem dX12_plain_27 : decode cX12_plain 27 = .ok (.lload 4, 2) := by decide +kernel
theorem dX12_plain_29 : decode cX12_plain 29 = .ok (.lload_n 2, 1) := by decide +kernel
theorem dX12_plain_30 : decode cX12_plain 30 = .ok (.lcmp, 1) := by decide +kernel
theorem dX12_plain_31 : decode cX12_plain 31 = .ok (.ifCond .ge 56, 3) := by decide +kernel
theorem dX12_plain_34 : decode cX12_plain 34 = .ok (.aload_n 0, 1) := by decide +kernel
theorem dX12_plain_35 : decode cX12_plain 35 = .ok (.iload_n 1, 1) := by decide +kernel
theorem dX12_plain_36 : decode cX12_plain 36 = .ok (.iconst 4, 1) := by decide +kernel
theorem dX12_plain_37 : decode cX12_plain 37 = .ok (.invokevirtual 173, 3) := by decide +kernel
theorem dX12_plain_40 : decode cX12_plain 40 = .ok (.aload_n 0, 1) := by decide +kernel
theorem dX12_plain_41 : decode cX12_plain 41 = .ok (.getfield 29, 3) := by decide +kernel
theorem dX12_plain_44 : decode cX12_plain 44 = .ok (.iload_n 1, 1) := by decide +kernel
theorem dX12_plain_45 : decode cX12_plain 45 = .ok (.iaload, 1) := by decide +kernel
theorem dX12_plain_46 : decode cX12_plain 46 = .ok (.if_icmp .ge 41, 3) := by decide +kernel
theorem dX12_plain_49 : decode cX12_plain 49 = .ok (.aload_n 0, 1) := by decide +kernel
theorem dX12_plain_50 : decode cX12_plain 50 = .ok (.iload_n 1, 1) := by decide +kernel
theorem dX12_plain_51 : decode cX12_plain 51 = .ok (.iconst 4, 1) := by decide +kernel
theorem dX12_plain_52 : decode cX12_plain 52 = .ok (.invokevirtual 160, 3) := by decide +kernel
theorem dX12_plain_55 : decode cX12_plain 55 = .ok (.aload_n 0, 1) := by decide +kernel
theorem dX12_plain_56 : decode cX12_plain 56 = .ok (.iload_n 1, 1) := by decide +kernel
theorem dX12_plain_57 : decode cX12_plain 57 = .ok (.iconst 4, 1) := by decide +kernel
theorem dX12_plain_58 : decode cX12_plain 58 = .ok (.invokevirtual 173, 3) := by decide +kernel
theorem dX12_plain_61 : decode cX12_plain 61 = .ok (.aload_n 0, 1) := by decide +kernel
theorem dX12_plain_62 : decode cX12_plain 62 = .ok (.getfield 35, 3) := by decide +kernel
theorem dX12_plain_65 : decode cX12_plain 65 = .ok (.iload_n 1, 1) := by decide +kernel
theorem dX12_plain_66 : decode cX12_plain 66 = .ok (.iaload, 1) := by decide +kernel
theorem dX12_plain_67 : decode cX12_plain 67 = .ok (.if_icmp .ne 11, 3) := by decide +kernel
theorem dX12_plain_70 : decode cX12_plain 70 = .ok (.aload_n 0, 1) := by decide +kernel
theorem dX12_plain_71 : decode cX12_plain 71 = .ok (.iload_n 1, 1) := by decide +kernel
theorem dX12_plain_72 : decode cX12_plain 72 = .ok (.bipush 7, 2) := by decide +kernel
theorem dX12_plain_74 : decode cX12_plain 74 = .ok (.invokevirtual 177, 3) := by decide +kernel
theorem dX12_plain_77 : decode cX12_plain 77 = .ok (.ireturn, 1) := by decide +kernel
theorem dX12_plain_78 : decode cX12_plain 78 = .ok (.lload 4, 2) := by decide +kernel
theorem dX12_plain_80 : decode cX12_plain 80 = .ok (.lconst 1, 1) := by decide +kernel
theorem dX12_plain_81 : decode cX12_plain 81 = .ok (.ladd, 1) := by decide +kernel
theorem dX12_plain_82 : decode cX12_plain 82 = .ok (.lstore 4, 2) := by decide +kernel
theorem dX12_plain_84 : decode cX12_plain 84 = .ok (.goto (-57), 3) := by decide +kernel
theorem dX12_plain_87 : decode cX12_plain 87 = .ok (.aload_n 0, 1) := by decide +kernel
theorem dX12_plain_88 : decode cX12_plain 88 = .ok (.iload_n 1, 1) := by decide +kernel
theorem dX12_plain_89 : decode cX12_plain 89 = .ok (.iconst 4, 1) := by decide +kernel
theorem dX12_plain_90 : decode cX12_plain 90 = .ok (.invokevirtual 173, 3) := by decide +kernel
theorem dX12_plain_93 : decode cX12_plain 93 = .ok (.aload_n 0, 1) := by decide +kernel
theorem dX12_plain_94 : decode cX12_plain 94 = .ok (.getfield 29, 3) := by decide +kernel
theorem dX12_plain_97 : decode cX12_plain 97 = .ok (.iload_n 1, 1) := by decide +kernel
theorem dX12_plain_98 : decode cX12_plain 98 = .ok (.iaload, 1) := by decide +kernel
theorem dX12_plain_99 : decode cX12_plain 99 = .ok (.if_icmp .ne 7, 3) := by decide +kernel
theorem dX12_plain_102 : decode cX12_plain 102 = .ok (.iconst 2, 1) := by decide +kernel
theorem dX12_plain_103 : decode cX12_plain 103 = .ok (.goto 4, 3) := by decide +kernel
theorem dX12_plain_106 : decode cX12_plain 106 = .ok (.iconst 1, 1) := by decide +kernel
theorem dX12_plain_107 : decode cX12_plain 107 = .ok (.ireturn, 1) := by decide +kernel
theorem dX12_read_0 : decode cX12_read 0 = .ok (.aload_n 0, 1) := by decide +kernel
theorem dX12_read_1 : decode cX12_read 1 = .ok (.getfield 44, 3) := by decide +kernel
theorem dX12_read_4 : decode cX12_read 4 = .ok (.iload_n 1, 1) := by decide +kernel
theorem dX12_read_5 : decode cX12_read 5 = .ok (.iaload, 1) := by decide +kernel
theorem dX12_read_6 : decode cX12_read 6 = .ok (.istore_n 2, 1) := by decide +kernel
theorem dX12_read_7 : decode cX12_read 7 = .ok (.aload_n 0, 1) := by decide +kernel
theorem dX12_read_8 : decode cX12_read 8 = .ok (.getfield 7, 3) := by decide +kernel
theorem dX12_read_11 : decode cX12_read 11 = .ok (.iload_n 2, 1) := by decide +kernel
theorem dX12_read_12 : decode cX12_read 12 = .ok (.iaload, 1) := by decide +kernel
theorem dX12_read_13 : decode cX12_read 13 = .ok (.aload_n 0, 1) := by decide +kernel
theorem dX12_read_14 : decode cX12_read 14 = .ok (.getfield 47, 3) := by decide +kernel
theorem dX12_read_17 : decode cX12_read 17 = .ok (.iload_n 1, 1) := by decide +kernel
theorem dX12_read_18 : decode cX12_read 18 = .ok (.iaload, 1) := by decide +kernel
theorem dX12_read_19 : decode cX12_read 19 = .ok (.if_icmp .eq 10, 3) := by decide +kernel
theorem dX12_read_22 : decode cX12_read 22 = .ok (.aload_n 0, 1) := by decide +kernel
theorem dX12_read_23 : decode cX12_read 23 = .ok (.iload_n 1, 1) := by decide +kernel
theorem dX12_read_24 : decode cX12_read 24 = .ok (.iconst 3, 1) := by decide +kernel
theorem dX12_read_25 : decode cX12_read 25 = .ok (.invokevirtual 177, 3) := by decide +kernel
theorem dX12_read_28 : decode cX12_read 28 = .ok (.ireturn, 1) := by decide +kernel
theorem dX12_read_29 : decode cX12_read 29 = .ok (.aload_n 0, 1) := by decide +kernel
theorem dX12_read_30 : decode cX12_read 30 = .ok (.iload_n 1, 1) := by decide +kernel
theorem dX12_read_31 : decode cX12_read 31 = .ok (.bipush 7, 2) := by decide +kernel
theorem dX12_read_33 : decode cX12_read 33 = .ok (.invokevirtual 173, 3) := by decide +kernel
theorem dX12_read_36 : decode cX12_read 36 = .ok (.aload_n 0, 1) := by decide +kernel
theorem dX12_read_37 : decode cX12_read 37 = .ok (.getfield 13, 3) := by decide +kernel
theorem dX12_read_40 : decode cX12_read 40 = .ok (.iload_n 2, 1) := by decide +kernel
theorem dX12_read_41 : decode cX12_read 41 = .ok (.iaload, 1) := by decide +kernel
theorem dX12_read_42 : decode cX12_read 42 = .ok (.if_icmp .ge 140, 3) := by decide +kernel
theorem dX12_read_45 : decode cX12_read 45 = .ok (.aload_n 0, 1) := by decide +kernel
theorem dX12_read_46 : decode cX12_read 46 = .ok (.getfield 16, 3) := by decide +kernel
theorem dX12_read_49 : decode cX12_read 49 = .ok (.bipush 20, 2) := by decide +kernel
theorem dX12_read_51 : decode cX12_read 51 = .ok (.iload_n 2, 1) := by decide +kernel
theorem dX12_read_52 : decode cX12_read 52 = .ok (.imul, 1) := by decide +kernel
theorem dX12_read_53 : decode cX12_read 53 = .ok (.aload_n 0, 1) := by decide +kernel
theorem dX12_read_54 : decode cX12_read 54 = .ok (.iload_n 1, 1) := by decide +kernel
theorem dX12_read_55 : decode cX12_read 55 = .ok (.bipush 7, 2) := by decide +kernel
theorem dX12_read_57 : decode cX12_read 57 = .ok (.invokevirtual 173, 3) := by decide +kernel
theorem dX12_read_60 : decode cX12_read 60 = .ok (.iadd, 1) := by decide +kernel
theorem dX12_read_61 : decode cX12_read 61 = .ok (.iaload, 1) := by decide +kernel
theorem dX12_read_62 : decode cX12_read 62 = .ok (.istore_n 3, 1) := by decide +kernel
theorem dX12_read_63 : decode cX12_read 63 = .ok (.iload_n 3, 1) := by decide +kernel
theorem dX12_read_64 : decode cX12_read 64 = .ok (.ifCond .ge 20, 3) := by decide +kernel
theorem dX12_read_67 : decode cX12_read 67 = .ok (.aload_n 0, 1) := by decide +kernel
theorem dX12_read_68 : decode cX12_read 68 = .ok (.getfield 26, 3) := by decide +kernel
theorem dX12_read_71 : decode cX12_read 71 = .ok (.iload_n 1, 1) := by decide +kernel
theorem dX12_read_72 : decode cX12_read 72 = .ok (.iaload, 1) := by decide +kernel
theorem dX12_read_73 : decode cX12_read 73 = .ok (.iconst 2, 1) := by decide +kernel
theorem dX12_read_74 : decode cX12_read 74 = .ok (.if_icmp .ne 10, 3) := by decide +kernel
theorem dX12_read_77 : decode cX12_read 77 = .ok (.aload_n 0, 1) := by decide +kernel
theorem dX12_read_78 : decode cX12_read 78 = .ok (.iload_n 1, 1) := by decide +kernel
theorem dX12_read_79 : decode cX12_read 79 = .ok (.iconst 1, 1) := by decide +kernel
theorem dX12_read_80 : decode cX12_read 80 = .ok (.invokevirtual 177, 3) := by decide +kernel
theorem dX12_read_83 : decode cX12_read 83 = .ok (.ireturn, 1) := by decide +kernel
theorem dX12_read_84 : decode cX12_read 84 = .ok (.iload_n 3, 1) := by decide +kernel
theorem dX12_read_85 : decode cX12_read 85 = .ok (.ifCond .ge 19, 3) := by decide +kernel
theorem dX12_read_88 : decode cX12_read 88 = .ok (.aload_n 0, 1) := by decide +kernel
theorem dX12_read_89 : decode cX12_read 89 = .ok (.iload_n 1, 1) := by decide +kernel
theorem dX12_read_90 : decode cX12_read 90 = .ok (.bipush 6, 2) := by decide +kernel
theorem dX12_read_92 : decode cX12_read 92 = .ok (.invokevirtual 160, 3) := by decide +kernel
theorem dX12_read_95 : decode cX12_read 95 = .ok (.aload_n 0, 1) := by decide +kernel
theorem dX12_read_96 : decode cX12_read 96 = .ok (.iload_n 1, 1) := by decide +kernel
theorem dX12_read_97 : decode cX12_read 97 = .ok (.bipush 7, 2) := by decide +kernel
theorem dX12_read_99 : decode cX12_read 99 = .ok (.invokevirtual 160, 3) := by decide +kernel
theorem dX12_read_102 : decode cX12_read 102 = .ok (.iconst 1, 1) := by decide +kernel
theorem dX12_read_103 : decode cX12_read 103 = .ok (.ireturn, 1) := by decide +kernel
theorem dX12_read_104 : decode cX12_read 104 = .ok (.aload_n 0, 1) := by decide +kernel
theorem dX12_read_105 : decode cX12_read 105 = .ok (.iload_n 1, 1) := by decide +kernel
theorem dX12_read_106 : decode cX12_read 106 = .ok (.bipush 8, 2) := by decide +kernel
theorem dX12_read_108 : decode cX12_read 108 = .ok (.invokevirtual 173, 3) := by decide +kernel
theorem dX12_read_111 : decode cX12_read 111 = .ok (.aload_n 0, 1) := by decide +kernel
theorem dX12_read_112 : decode cX12_read 112 = .ok (.getfield 19, 3) := by decide +kernel
theorem dX12_read_115 : decode cX12_read 115 = .ok (.iload_n 3, 1) := by decide +kernel
theorem dX12_read_116 : decode cX12_read 116 = .ok (.iaload, 1) := by decide +kernel
theorem dX12_read_117 : decode cX12_read 117 = .ok (.if_icmp .ge 47, 3) := by decide +kernel
theorem dX12_read_120 : decode cX12_read 120 = .ok (.aload_n 0, 1) := by decide +kernel
theorem dX12_read_121 : decode cX12_read 121 = .ok (.getfield 74, 3) := by decide +kernel
theorem dX12_read_124 : decode cX12_read 124 = .ok (.iload_n 1, 1) := by decide +kernel
theorem dX12_read_125 : decode cX12_read 125 = .ok (.dup2, 1) := by decide +kernel
theorem dX12_read_126 : decode cX12_read 126 = .ok (.laload, 1) := by decide +kernel
theorem dX12_read_127 : decode cX12_read 127 = .ok (.aload_n 0, 1) := by decide +kernel
theorem dX12_read_128 : decode cX12_read 128 = .ok (.getfield 22, 3) := by decide +kernel
theorem dX12_read_131 : decode cX12_read 131 = .ok (.bipush 12, 2) := by decide +kernel
theorem dX12_read_133 : decode cX12_read 133 = .ok (.iload_n 3, 1) := by decide +kernel
theorem dX12_read_134 : decode cX12_read 134 = .ok (.imul, 1) := by decide +kernel
theorem dX12_read_135 : decode cX12_read 135 = .ok (.aload_n 0, 1) := by decide +kernel
theorem dX12_read_136 : decode cX12_read 136 = .ok (.iload_n 1, 1) := by decide +kernel
theorem dX12_read_137 : decode cX12_read 137 = .ok (.bipush 8, 2) := by decide +kernel
theorem dX12_read_139 : decode cX12_read 139 = .ok (.invokevirtual 173, 3) := by decide +kernel
theorem dX12_read_142 : decode cX12_read 142 = .ok (.iadd, 1) := by decide +kernel
theorem dX12_read_143 : decode cX12_read 143 = .ok (.laload, 1) := by decide +kernel
theorem dX12_read_144 : decode cX12_read 144 = .ok (.invokestatic 180, 3) := by decide +kernel
theorem dX12_read_147 : decode cX12_read 147 = .ok (.ladd, 1) := by decide +kernel
theorem dX12_read_148 : decode cX12_read 148 = .ok (.lastore, 1) := by decide +kernel
theorem dX12_read_149 : decode cX12_read 149 = .ok (.aload_n 0, 1) := by decide +kernel
theorem dX12_read_150 : decode cX12_read 150 = .ok (.iload_n 1, 1) := by decide +kernel
theorem dX12_read_151 : decode cX12_read 151 = .ok (.bipush 8, 2) := by decide +kernel
theorem dX12_read_153 : decode cX12_read 153 = .ok (.invokevirtual 160, 3) := by decide +kernel
theorem dX12_read_156 : decode cX12_read 156 = .ok (.aload_n 0, 1) := by decide +kernel
theorem dX12_read_157 : decode cX12_read 157 = .ok (.iload_n 1, 1) := by decide +kernel
theorem dX12_read_158 : decode cX12_read 158 = .ok (.iconst 4, 1) := by decide +kernel
theorem dX12_read_159 : decode cX12_read 159 = .ok (.invokevirtual 160, 3) := by decide +kernel
theorem dX12_read_162 : decode cX12_read 162 = .ok (.iconst 1, 1) := by decide +kernel
theorem dX12_read_163 : decode cX12_read 163 = .ok (.ireturn, 1) := by decide +kernel
theorem dX12_read_164 : decode cX12_read 164 = .ok (.aload_n 0, 1) := by decide +kernel
theorem dX12_read_165 : decode cX12_read 165 = .ok (.iload_n 1, 1) := by decide +kernel
theorem dX12_read_166 : decode cX12_read 166 = .ok (.bipush 7, 2) := by decide +kernel
theorem dX12_read_168 : decode cX12_read 168 = .ok (.invokevirtual 160, 3) := by decide +kernel
theorem dX12_read_171 : decode cX12_read 171 = .ok (.aload_n 0, 1) := by decide +kernel
theorem dX12_read_172 : decode cX12_read 172 = .ok (.iload_n 1, 1) := by decide +kernel
theorem dX12_read_173 : decode cX12_read 173 = .ok (.bipush 8, 2) := by decide +kernel
theorem dX12_read_175 : decode cX12_read 175 = .ok (.iconst 0, 1) := by decide +kernel
theorem dX12_read_176 : decode cX12_read 176 = .ok (.invokevirtual 154, 3) := by decide +kernel
theorem dX12_read_179 : decode cX12_read 179 = .ok (.goto (-150), 3) := by decide +kernel
theorem dX12_read_182 : decode cX12_read 182 = .ok (.iconst 2, 1) := by decide +kernel
theorem dX12_read_183 : decode cX12_read 183 = .ok (.ireturn, 1) := by decide +kernel
theorem dX12_lineFault_0 : decode cX12_lineFault 0 = .ok (.aload_n 0, 1) := by decide +kernel
theorem dX12_lineFault_1 : decode cX12_lineFault 1 = .ok (.getfield 53, 3) := by decide +kernel
theorem dX12_lineFault_4 : decode cX12_lineFault 4 = .ok (.iload_n 1, 1) := by decide +kernel
theorem dX12_lineFault_5 : decode cX12_lineFault 5 = .ok (.iaload, 1) := by decide +kernel
theorem dX12_lineFault_6 : decode cX12_lineFault 6 = .ok (.istore_n 3, 1) := by decide +kernel
theorem dX12_lineFault_7 : decode cX12_lineFault 7 = .ok (.aload_n 0, 1) := by decide +kernel
theorem dX12_lineFault_8 : decode cX12_lineFault 8 = .ok (.getfield 7, 3) := by decide +kernel
theorem dX12_lineFault_11 : decode cX12_lineFault 11 = .ok (.iload_n 3, 1) := by decide +kernel
theorem dX12_lineFault_12 : decode cX12_lineFault 12 = .ok (.iaload, 1) := by decide +kernel
theorem dX12_lineFault_13 : decode cX12_lineFault 13 = .ok (.aload_n 0, 1) := by decide +kernel
theorem dX12_lineFault_14 : decode cX12_lineFault 14 = .ok (.getfield 56, 3) := by decide +kernel
theorem dX12_lineFault_17 : decode cX12_lineFault 17 = .ok (.iload_n 1, 1) := by decide +kernel
theorem dX12_lineFault_18 : decode cX12_lineFault 18 = .ok (.iaload, 1) := by decide +kernel
theorem dX12_lineFault_19 : decode cX12_lineFault 19 = .ok (.if_icmp .eq 7, 3) := by decide +kernel
theorem dX12_lineFault_22 : decode cX12_lineFault 22 = .ok (.iconst 3, 1) := by decide +kernel
theorem dX12_lineFault_23 : decode cX12_lineFault 23 = .ok (.goto 35, 3) := by decide +kernel
theorem dX12_lineFault_26 : decode cX12_lineFault 26 = .ok (.aload_n 0, 1) := by decide +kernel
theorem dX12_lineFault_27 : decode cX12_lineFault 27 = .ok (.iload_n 3, 1) := by decide +kernel
theorem dX12_lineFault_28 : decode cX12_lineFault 28 = .ok (.iload_n 2, 1) := by decide +kernel
theorem dX12_lineFault_29 : decode cX12_lineFault 29 = .ok (.invokevirtual 126, 3) := by decide +kernel
theorem dX12_lineFault_32 : decode cX12_lineFault 32 = .ok (.ifCond .ne 7, 3) := by decide +kernel
theorem dX12_lineFault_35 : decode cX12_lineFault 35 = .ok (.iconst 2, 1) := by decide +kernel
theorem dX12_lineFault_36 : decode cX12_lineFault 36 = .ok (.goto 22, 3) := by decide +kernel
theorem dX12_lineFault_39 : decode cX12_lineFault 39 = .ok (.aload_n 0, 1) := by decide +kernel
theorem dX12_lineFault_40 : decode cX12_lineFault 40 = .ok (.getfield 16, 3) := by decide +kernel
theorem dX12_lineFault_43 : decode cX12_lineFault 43 = .ok (.bipush 20, 2) := by decide +kernel
theorem dX12_lineFault_45 : decode cX12_lineFault 45 = .ok (.iload_n 3, 1) := by decide +kernel
theorem dX12_lineFault_46 : decode cX12_lineFault 46 = .ok (.imul, 1) := by decide +kernel
theorem dX12_lineFault_47 : decode cX12_lineFault 47 = .ok (.iload_n 2, 1) := by decide +kernel
theorem dX12_lineFault_48 : decode cX12_lineFault 48 = .ok (.iadd, 1) := by decide +kernel
theorem dX12_lineFault_49 : decode cX12_lineFault 49 = .ok (.iaload, 1) := by decide +kernel
theorem dX12_lineFault_50 : decode cX12_lineFault 50 = .ok (.ifCond .ge 7, 3) := by decide +kernel
theorem dX12_lineFault_53 : decode cX12_lineFault 53 = .ok (.iconst 1, 1) := by decide +kernel
theorem dX12_lineFault_54 : decode cX12_lineFault 54 = .ok (.goto 4, 3) := by decide +kernel
theorem dX12_lineFault_57 : decode cX12_lineFault 57 = .ok (.iconst 0, 1) := by decide +kernel
theorem dX12_lineFault_58 : decode cX12_lineFault 58 = .ok (.ireturn, 1) := by decide +kernel
theorem dX12_finds_0 : decode cX12_finds 0 = .ok (.aload_n 0, 1) := by decide +kernel
theorem dX12_finds_1 : decode cX12_finds 1 = .ok (.getfield 68, 3) := by decide +kernel
theorem dX12_finds_4 : decode cX12_finds 4 = .ok (.sipush 302, 3) := by decide +kernel
theorem dX12_finds_7 : decode cX12_finds 7 = .ok (.iload_n 1, 1) := by decide +kernel
theorem dX12_finds_8 : decode cX12_finds 8 = .ok (.iadd, 1) := by decide +kernel
theorem dX12_finds_9 : decode cX12_finds 9 = .ok (.iaload, 1) := by decide +kernel
theorem dX12_finds_10 : decode cX12_finds 10 = .ok (.bipush (-9), 2) := by decide +kernel
theorem dX12_finds_12 : decode cX12_finds 12 = .ok (.if_icmp .eq 45, 3) := by decide +kernel
theorem dX12_finds_15 : decode cX12_finds 15 = .ok (.aload_n 0, 1) := by decide +kernel
theorem dX12_finds_16 : decode cX12_finds 16 = .ok (.getfield 74, 3) := by decide +kernel
theorem dX12_finds_19 : decode cX12_finds 19 = .ok (.bipush 20, 2) := by decide +kernel
theorem dX12_finds_21 : decode cX12_finds 21 = .ok (.iload_n 1, 1) := by decide +kernel
theorem dX12_finds_22 : decode cX12_finds 22 = .ok (.iadd, 1) := by decide +kernel
theorem dX12_finds_23 : decode cX12_finds 23 = .ok (.laload, 1) := by decide +kernel
theorem dX12_finds_24 : decode cX12_finds 24 = .ok (.lload_n 3, 1) := by decide +kernel
theorem dX12_finds_25 : decode cX12_finds 25 = .ok (.lcmp, 1) := by decide +kernel
theorem dX12_finds_26 : decode cX12_finds 26 = .ok (.ifCond .gt 31, 3) := by decide +kernel
theorem dX12_finds_29 : decode cX12_finds 29 = .ok (.aload_n 0, 1) := by decide +kernel
theorem dX12_finds_30 : decode cX12_finds 30 = .ok (.getfield 74, 3) := by decide +kernel
theorem dX12_finds_33 : decode cX12_finds 33 = .ok (.bipush 20, 2) := by decide +kernel
theorem dX12_finds_35 : decode cX12_finds 35 = .ok (.iload_n 1, 1) := by decide +kernel
theorem dX12_finds_36 : decode cX12_finds 36 = .ok (.iadd, 1) := by decide +kernel
theorem dX12_finds_37 : decode cX12_finds 37 = .ok (.laload, 1) := by decide +kernel
theorem dX12_finds_38 : decode cX12_finds 38 = .ok (.lload_n 3, 1) := by decide +kernel
theorem dX12_finds_39 : decode cX12_finds 39 = .ok (.lcmp, 1) := by decide +kernel
theorem dX12_finds_40 : decode cX12_finds 40 = .ok (.ifCond .ne 21, 3) := by decide +kernel
theorem dX12_finds_43 : decode cX12_finds 43 = .ok (.aload_n 0, 1) := by decide +kernel
theorem dX12_finds_44 : decode cX12_finds 44 = .ok (.getfield 68, 3) := by decide +kernel
theorem dX12_finds_47 : decode cX12_finds 47 = .ok (.sipush 302, 3) := by decide +kernel
theorem dX12_finds_50 : decode cX12_finds 50 = .ok (.iload_n 1, 1) := by decide +kernel
theorem dX12_finds_51 : decode cX12_finds 51 = .ok (.iadd, 1) := by decide +kernel
theorem dX12_finds_52 : decode cX12_finds 52 = .ok (.iaload, 1) := by decide +kernel
theorem dX12_finds_53 : decode cX12_finds 53 = .ok (.iload_n 2, 1) := by decide +kernel
theorem dX12_finds_54 : decode cX12_finds 54 = .ok (.if_icmp .le 7, 3) := by decide +kernel
theorem dX12_finds_57 : decode cX12_finds 57 = .ok (.iconst 1, 1) := by decide +kernel
theorem dX12_finds_58 : decode cX12_finds 58 = .ok (.goto 4, 3) := by decide +kernel
theorem dX12_finds_61 : decode cX12_finds 61 = .ok (.iconst 0, 1) := by decide +kernel
theorem dX12_finds_62 : decode cX12_finds 62 = .ok (.istore 5, 2) := by decide +kernel
theorem dX12_finds_64 : decode cX12_finds 64 = .ok (.iload 5, 2) := by decide +kernel
theorem dX12_finds_66 : decode cX12_finds 66 = .ok (.ifCond .eq 34, 3) := by decide +kernel
theorem dX12_finds_69 : decode cX12_finds 69 = .ok (.aload_n 0, 1) := by decide +kernel
theorem dX12_finds_70 : decode cX12_finds 70 = .ok (.getfield 74, 3) := by decide +kernel
theorem dX12_finds_73 : decode cX12_finds 73 = .ok (.bipush 20, 2) := by decide +kernel
theorem dX12_finds_75 : decode cX12_finds 75 = .ok (.iload_n 1, 1) := by decide +kernel
theorem dX12_finds_76 : decode cX12_finds 76 = .ok (.iadd, 1) := by decide +kernel
theorem dX12_finds_77 : decode cX12_finds 77 = .ok (.lload_n 3, 1) := by decide +kernel
theorem dX12_finds_78 : decode cX12_finds 78 = .ok (.lastore, 1) := by decide +kernel
theorem dX12_finds_79 : decode cX12_finds 79 = .ok (.aload_n 0, 1) := by decide +kernel
theorem dX12_finds_80 : decode cX12_finds 80 = .ok (.getfield 68, 3) := by decide +kernel
theorem dX12_finds_83 : decode cX12_finds 83 = .ok (.sipush 302, 3) := by decide +kernel
theorem dX12_finds_86 : decode cX12_finds 86 = .ok (.iload_n 1, 1) := by decide +kernel
theorem dX12_finds_87 : decode cX12_finds 87 = .ok (.iadd, 1) := by decide +kernel
theorem dX12_finds_88 : decode cX12_finds 88 = .ok (.iload_n 2, 1) := by decide +kernel
theorem dX12_finds_89 : decode cX12_finds 89 = .ok (.iastore, 1) := by decide +kernel
theorem dX12_finds_90 : decode cX12_finds 90 = .ok (.aload_n 0, 1) := by decide +kernel
theorem dX12_finds_91 : decode cX12_finds 91 = .ok (.getfield 74, 3) := by decide +kernel
theorem dX12_finds_94 : decode cX12_finds 94 = .ok (.bipush 28, 2) := by decide +kernel
theorem dX12_finds_96 : decode cX12_finds 96 = .ok (.iload_n 1, 1) := by decide +kernel
theorem dX12_finds_97 : decode cX12_finds 97 = .ok (.iadd, 1) := by decide +kernel
theorem dX12_finds_98 : decode cX12_finds 98 = .ok (.lload_n 3, 1) := by decide +kernel
theorem dX12_finds_99 : decode cX12_finds 99 = .ok (.lastore, 1) := by decide +kernel
theorem dX12_finds_100 : decode cX12_finds 100 = .ok (.return_, 1) := by decide +kernel
theorem dX12_goes_0 : decode cX12_goes 0 = .ok (.aload_n 0, 1) := by decide +kernel
theorem dX12_goes_1 : decode cX12_goes 1 = .ok (.getfield 59, 3) := by decide +kernel
theorem dX12_goes_4 : decode cX12_goes 4 = .ok (.iload_n 1, 1) := by decide +kernel
theorem dX12_goes_5 : decode cX12_goes 5 = .ok (.iaload, 1) := by decide +kernel
theorem dX12_goes_6 : decode cX12_goes 6 = .ok (.ifCond .ne 6, 3) := by decide +kernel
theorem dX12_goes_9 : decode cX12_goes 9 = .ok (.bipush 6, 2) := by decide +kernel
theorem dX12_goes_11 : decode cX12_goes 11 = .ok (.ireturn, 1) := by decide +kernel
theorem dX12_goes_12 : decode cX12_goes 12 = .ok (.aload_n 0, 1) := by decide +kernel
theorem dX12_goes_13 : decode cX12_goes 13 = .ok (.getfield 184, 3) := by decide +kernel
theorem dX12_goes_16 : decode cX12_goes 16 = .ok (.aload_n 0, 1) := by decide +kernel
theorem dX12_goes_17 : decode cX12_goes 17 = .ok (.getfield 59, 3) := by decide +kernel
theorem dX12_goes_20 : decode cX12_goes 20 = .ok (.iload_n 1, 1) := by decide +kernel
theorem dX12_goes_21 : decode cX12_goes 21 = .ok (.iaload, 1) := by decide +kernel
theorem dX12_goes_22 : decode cX12_goes 22 = .ok (.i2l, 1) := by decide +kernel
theorem dX12_goes_23 : decode cX12_goes 23 = .ok (.ldiv, 1) := by decide +kernel
theorem dX12_goes_24 : decode cX12_goes 24 = .ok (.lstore 4, 2) := by decide +kernel
theorem dX12_goes_26 : decode cX12_goes 26 = .ok (.lload 4, 2) := by decide +kernel
theorem dX12_goes_28 : decode cX12_goes 28 = .ok (.aload_n 0, 1) := by decide +kernel
theorem dX12_goes_29 : decode cX12_goes 29 = .ok (.getfield 74, 3) := by decide +kernel
theorem dX12_goes_32 : decode cX12_goes 32 = .ok (.bipush 28, 2) := by decide +kernel
theorem dX12_goes_34 : decode cX12_goes 34 = .ok (.iload_n 1, 1) := by decide +kernel
theorem dX12_goes_35 : decode cX12_goes 35 = .ok (.iadd, 1) := by decide +kernel
theorem dX12_goes_36 : decode cX12_goes 36 = .ok (.laload, 1) := by decide +kernel
theorem dX12_goes_37 : decode cX12_goes 37 = .ok (.lcmp, 1) := by decide +kernel
theorem dX12_goes_38 : decode cX12_goes 38 = .ok (.ifCond .le 5, 3) := by decide +kernel
theorem dX12_goes_41 : decode cX12_goes 41 = .ok (.iconst (-1), 1) := by decide +kernel
theorem dX12_goes_42 : decode cX12_goes 42 = .ok (.ireturn, 1) := by decide +kernel
theorem dX12_goes_43 : decode cX12_goes 43 = .ok (.aload_n 0, 1) := by decide +kernel
theorem dX12_goes_44 : decode cX12_goes 44 = .ok (.getfield 53, 3) := by decide +kernel
theorem dX12_goes_47 : decode cX12_goes 47 = .ok (.iload_n 1, 1) := by decide +kernel
theorem dX12_goes_48 : decode cX12_goes 48 = .ok (.iaload, 1) := by decide +kernel
theorem dX12_goes_49 : decode cX12_goes 49 = .ok (.istore 6, 2) := by decide +kernel
theorem dX12_goes_51 : decode cX12_goes 51 = .ok (.iload_n 3, 1) := by decide +kernel
theorem dX12_goes_52 : decode cX12_goes 52 = .ok (.aload_n 0, 1) := by decide +kernel
theorem dX12_goes_53 : decode cX12_goes 53 = .ok (.getfield 19, 3) := by decide +kernel
theorem dX12_goes_56 : decode cX12_goes 56 = .ok (.aload_n 0, 1) := by decide +kernel
theorem dX12_goes_57 : decode cX12_goes 57 = .ok (.getfield 16, 3) := by decide +kernel
theorem dX12_goes_60 : decode cX12_goes 60 = .ok (.bipush 20, 2) := by decide +kernel
theorem dX12_goes_62 : decode cX12_goes 62 = .ok (.iload 6, 2) := by decide +kernel
theorem dX12_goes_64 : decode cX12_goes 64 = .ok (.imul, 1) := by decide +kernel
theorem dX12_goes_65 : decode cX12_goes 65 = .ok (.iload_n 2, 1) := by decide +kernel
theorem dX12_goes_66 : decode cX12_goes 66 = .ok (.iadd, 1) := by decide +kernel
theorem dX12_goes_67 : decode cX12_goes 67 = .ok (.iaload, 1) := by decide +kernel
theorem dX12_goes_68 : decode cX12_goes 68 = .ok (.iaload, 1) := by decide +kernel
theorem dX12_goes_69 : decode cX12_goes 69 = .ok (.if_icmp .ge 5, 3) := by decide +kernel
theorem dX12_goes_72 : decode cX12_goes 72 = .ok (.iconst 0, 1) := by decide +kernel
theorem dX12_goes_73 : decode cX12_goes 73 = .ok (.ireturn, 1) := by decide +kernel
theorem dX12_goes_74 : decode cX12_goes 74 = .ok (.aload_n 0, 1) := by decide +kernel
theorem dX12_goes_75 : decode cX12_goes 75 = .ok (.iload_n 1, 1) := by decide +kernel
theorem dX12_goes_76 : decode cX12_goes 76 = .ok (.iload_n 2, 1) := by decide +kernel
theorem dX12_goes_77 : decode cX12_goes 77 = .ok (.lload 4, 2) := by decide +kernel
theorem dX12_goes_79 : decode cX12_goes 79 = .ok (.invokevirtual 188, 3) := by decide +kernel
theorem dX12_goes_82 : decode cX12_goes 82 = .ok (.iconst (-1), 1) := by decide +kernel
theorem dX12_goes_83 : decode cX12_goes 83 = .ok (.ireturn, 1) := by decide +kernel
theorem dX12_shared_0 : decode cX12_shared 0 = .ok (.aload_n 0, 1) := by decide +kernel
theorem dX12_shared_1 : decode cX12_shared 1 = .ok (.getfield 44, 3) := by decide +kernel
theorem dX12_shared_4 : decode cX12_shared 4 = .ok (.iload_n 1, 1) := by decide +kernel
theorem dX12_shared_5 : decode cX12_shared 5 = .ok (.iaload, 1) := by decide +kernel
theorem dX12_shared_6 : decode cX12_shared 6 = .ok (.istore_n 2, 1) := by decide +kernel
theorem dX12_shared_7 : decode cX12_shared 7 = .ok (.aload_n 0, 1) := by decide +kernel
theorem dX12_shared_8 : decode cX12_shared 8 = .ok (.getfield 47, 3) := by decide +kernel
theorem dX12_shared_11 : decode cX12_shared 11 = .ok (.iload_n 1, 1) := by decide +kernel
theorem dX12_shared_12 : decode cX12_shared 12 = .ok (.iaload, 1) := by decide +kernel
theorem dX12_shared_13 : decode cX12_shared 13 = .ok (.aload_n 0, 1) := by decide +kernel
theorem dX12_shared_14 : decode cX12_shared 14 = .ok (.iload_n 1, 1) := by decide +kernel
theorem dX12_shared_15 : decode cX12_shared 15 = .ok (.bipush 7, 2) := by decide +kernel
theorem dX12_shared_17 : decode cX12_shared 17 = .ok (.invokevirtual 173, 3) := by decide +kernel
theorem dX12_shared_20 : decode cX12_shared 20 = .ok (.iadd, 1) := by decide +kernel
theorem dX12_shared_21 : decode cX12_shared 21 = .ok (.istore_n 3, 1) := by decide +kernel
theorem dX12_shared_22 : decode cX12_shared 22 = .ok (.iload_n 3, 1) := by decide +kernel
theorem dX12_shared_23 : decode cX12_shared 23 = .ok (.aload_n 0, 1) := by decide +kernel
theorem dX12_shared_24 : decode cX12_shared 24 = .ok (.getfield 50, 3) := by decide +kernel
theorem dX12_shared_27 : decode cX12_shared 27 = .ok (.iload_n 1, 1) := by decide +kernel
theorem dX12_shared_28 : decode cX12_shared 28 = .ok (.iaload, 1) := by decide +kernel
theorem dX12_shared_29 : decode cX12_shared 29 = .ok (.if_icmp .lt 5, 3) := by decide +kernel
theorem dX12_shared_32 : decode cX12_shared 32 = .ok (.iconst 2, 1) := by decide +kernel
theorem dX12_shared_33 : decode cX12_shared 33 = .ok (.ireturn, 1) := by decide +kernel
theorem dX12_shared_34 : decode cX12_shared 34 = .ok (.aload_n 0, 1) := by decide +kernel
theorem dX12_shared_35 : decode cX12_shared 35 = .ok (.iload_n 1, 1) := by decide +kernel
theorem dX12_shared_36 : decode cX12_shared 36 = .ok (.bipush 8, 2) := by decide +kernel
theorem dX12_shared_38 : decode cX12_shared 38 = .ok (.invokevirtual 173, 3) := by decide +kernel
theorem dX12_shared_41 : decode cX12_shared 41 = .ok (.ifCond .ne 31, 3) := by decide +kernel
theorem dX12_shared_44 : decode cX12_shared 44 = .ok (.aload_n 0, 1) := by decide +kernel
theorem dX12_shared_45 : decode cX12_shared 45 = .ok (.iload_n 2, 1) := by decide +kernel
theorem dX12_shared_46 : decode cX12_shared 46 = .ok (.iload_n 3, 1) := by decide +kernel
theorem dX12_shared_47 : decode cX12_shared 47 = .ok (.invokevirtual 192, 3) := by decide +kernel
theorem dX12_shared_50 : decode cX12_shared 50 = .ok (.istore 4, 2) := by decide +kernel
theorem dX12_shared_52 : decode cX12_shared 52 = .ok (.iload 4, 2) := by decide +kernel
theorem dX12_shared_54 : decode cX12_shared 54 = .ok (.ifCond .eq 11, 3) := by decide +kernel
theorem dX12_shared_57 : decode cX12_shared 57 = .ok (.aload_n 0, 1) := by decide +kernel
theorem dX12_shared_58 : decode cX12_shared 58 = .ok (.iload_n 1, 1) := by decide +kernel
theorem dX12_shared_59 : decode cX12_shared 59 = .ok (.iload 4, 2) := by decide +kernel
theorem dX12_shared_61 : decode cX12_shared 61 = .ok (.invokevirtual 177, 3) := by decide +kernel
theorem dX12_shared_64 : decode cX12_shared 64 = .ok (.ireturn, 1) := by decide +kernel
theorem dX12_shared_65 : decode cX12_shared 65 = .ok (.aload_n 0, 1) := by decide +kernel
theorem dX12_shared_66 : decode cX12_shared 66 = .ok (.getfield 74, 3) := by decide +kernel
theorem dX12_shared_69 : decode cX12_shared 69 = .ok (.iload_n 1, 1) := by decide +kernel
theorem dX12_shared_70 : decode cX12_shared 70 = .ok (.lconst 0, 1) := by decide +kernel
theorem dX12_shared_71 : decode cX12_shared 71 = .ok (.lastore, 1) := by decide +kernel
theorem dX12_shared_72 : decode cX12_shared 72 = .ok (.aload_n 0, 1) := by decide +kernel
theorem dX12_shared_73 : decode cX12_shared 73 = .ok (.getfield 16, 3) := by decide +kernel
theorem dX12_shared_76 : decode cX12_shared 76 = .ok (.bipush 20, 2) := by decide +kernel
theorem dX12_shared_78 : decode cX12_shared 78 = .ok (.aload_n 0, 1) := by decide +kernel
theorem dX12_shared_79 : decode cX12_shared 79 = .ok (.getfield 53, 3) := by decide +kernel
theorem dX12_shared_82 : decode cX12_shared 82 = .ok (.iload_n 2, 1) := by decide +kernel
theorem dX12_shared_83 : decode cX12_shared 83 = .ok (.iaload, 1) := by decide +kernel
theorem dX12_shared_84 : decode cX12_shared 84 = .ok (.imul, 1) := by decide +kernel
theorem dX12_shared_85 : decode cX12_shared 85 = .ok (.iload_n 3, 1) := by decide +kernel
theorem dX12_shared_86 : decode cX12_shared 86 = .ok (.iadd, 1) := by decide +kernel
theorem dX12_shared_87 : decode cX12_shared 87 = .ok (.iaload, 1) := by decide +kernel
theorem dX12_shared_88 : decode cX12_shared 88 = .ok (.istore 4, 2) := by decide +kernel
theorem dX12_shared_90 : decode cX12_shared 90 = .ok (.aload_n 0, 1) := by decide +kernel
theorem dX12_shared_91 : decode cX12_shared 91 = .ok (.iload_n 1, 1) := by decide +kernel
theorem dX12_shared_92 : decode cX12_shared 92 = .ok (.bipush 8, 2) := by decide +kernel
theorem dX12_shared_94 : decode cX12_shared 94 = .ok (.invokevirtual 173, 3) := by decide +kernel
theorem dX12_shared_97 : decode cX12_shared 97 = .ok (.aload_n 0, 1) := by decide +kernel
theorem dX12_shared_98 : decode cX12_shared 98 = .ok (.getfield 19, 3) := by decide +kernel
theorem dX12_shared_101 : decode cX12_shared 101 = .ok (.iload 4, 2) := by decide +kernel
theorem dX12_shared_103 : decode cX12_shared 103 = .ok (.iaload, 1) := by decide +kernel
theorem dX12_shared_104 : decode cX12_shared 104 = .ok (.if_icmp .ge 46, 3) := by decide +kernel
theorem dX12_shared_107 : decode cX12_shared 107 = .ok (.aload_n 0, 1) := by decide +kernel
theorem dX12_shared_108 : decode cX12_shared 108 = .ok (.getfield 74, 3) := by decide +kernel
theorem dX12_shared_111 : decode cX12_shared 111 = .ok (.iload_n 1, 1) := by decide +kernel
theorem dX12_shared_112 : decode cX12_shared 112 = .ok (.dup2, 1) := by decide +kernel
theorem dX12_shared_113 : decode cX12_shared 113 = .ok (.laload, 1) := by decide +kernel
theorem dX12_shared_114 : decode cX12_shared 114 = .ok (.aload_n 0, 1) := by decide +kernel
theorem dX12_shared_115 : decode cX12_shared 115 = .ok (.getfield 22, 3) := by decide +kernel
theorem dX12_shared_118 : decode cX12_shared 118 = .ok (.bipush 12, 2) := by decide +kernel
theorem dX12_shared_120 : decode cX12_shared 120 = .ok (.iload 4, 2) := by decide +kernel
theorem dX12_shared_122 : decode cX12_shared 122 = .ok (.imul, 1) := by decide +kernel
theorem dX12_shared_123 : decode cX12_shared 123 = .ok (.aload_n 0, 1) := by decide +kernel
theorem dX12_shared_124 : decode cX12_shared 124 = .ok (.iload_n 1, 1) := by decide +kernel
theorem dX12_shared_125 : decode cX12_shared 125 = .ok (.bipush 8, 2) := by decide +kernel
theorem dX12_shared_127 : decode cX12_shared 127 = .ok (.invokevirtual 173, 3) := by decide +kernel
theorem dX12_shared_130 : decode cX12_shared 130 = .ok (.iadd, 1) := by decide +kernel
theorem dX12_shared_131 : decode cX12_shared 131 = .ok (.laload, 1) := by decide +kernel
theorem dX12_shared_132 : decode cX12_shared 132 = .ok (.invokestatic 180, 3) := by decide +kernel
theorem dX12_shared_135 : decode cX12_shared 135 = .ok (.ladd, 1) := by decide +kernel
theorem dX12_shared_136 : decode cX12_shared 136 = .ok (.lastore, 1) := by decide +kernel
theorem dX12_shared_137 : decode cX12_shared 137 = .ok (.aload_n 0, 1) := by decide +kernel
theorem dX12_shared_138 : decode cX12_shared 138 = .ok (.iload_n 1, 1) := by decide +kernel
theorem dX12_shared_139 : decode cX12_shared 139 = .ok (.bipush 8, 2) := by decide +kernel
theorem dX12_shared_141 : decode cX12_shared 141 = .ok (.invokevirtual 160, 3) := by decide +kernel
theorem dX12_shared_144 : decode cX12_shared 144 = .ok (.aload_n 0, 1) := by decide +kernel
theorem dX12_shared_145 : decode cX12_shared 145 = .ok (.iload_n 1, 1) := by decide +kernel
theorem dX12_shared_146 : decode cX12_shared 146 = .ok (.iconst 4, 1) := by decide +kernel
theorem dX12_shared_147 : decode cX12_shared 147 = .ok (.invokevirtual 160, 3) := by decide +kernel
theorem dX12_shared_150 : decode cX12_shared 150 = .ok (.aload_n 0, 1) := by decide +kernel
theorem dX12_shared_151 : decode cX12_shared 151 = .ok (.aload_n 0, 1) := by decide +kernel
theorem dX12_shared_152 : decode cX12_shared 152 = .ok (.getfield 74, 3) := by decide +kernel
theorem dX12_shared_155 : decode cX12_shared 155 = .ok (.iload_n 1, 1) := by decide +kernel
theorem dX12_shared_156 : decode cX12_shared 156 = .ok (.laload, 1) := by decide +kernel
theorem dX12_shared_157 : decode cX12_shared 157 = .ok (.putfield 184, 3) := by decide +kernel
theorem dX12_shared_160 : decode cX12_shared 160 = .ok (.aload_n 0, 1) := by decide +kernel
theorem dX12_shared_161 : decode cX12_shared 161 = .ok (.iload_n 2, 1) := by decide +kernel
theorem dX12_shared_162 : decode cX12_shared 162 = .ok (.iload_n 3, 1) := by decide +kernel
theorem dX12_shared_163 : decode cX12_shared 163 = .ok (.aload_n 0, 1) := by decide +kernel
theorem dX12_shared_164 : decode cX12_shared 164 = .ok (.iload_n 1, 1) := by decide +kernel
theorem dX12_shared_165 : decode cX12_shared 165 = .ok (.bipush 8, 2) := by decide +kernel
theorem dX12_shared_167 : decode cX12_shared 167 = .ok (.invokevirtual 173, 3) := by decide +kernel
theorem dX12_shared_170 : decode cX12_shared 170 = .ok (.invokevirtual 195, 3) := by decide +kernel
theorem dX12_shared_173 : decode cX12_shared 173 = .ok (.istore 5, 2) := by decide +kernel
theorem dX12_shared_175 : decode cX12_shared 175 = .ok (.iload 5, 2) := by decide +kernel
theorem dX12_shared_177 : decode cX12_shared 177 = .ok (.ifCond .le 11, 3) := by decide +kernel
theorem dX12_shared_180 : decode cX12_shared 180 = .ok (.aload_n 0, 1) := by decide +kernel
theorem dX12_shared_181 : decode cX12_shared 181 = .ok (.iload_n 1, 1) := by decide +kernel
theorem dX12_shared_182 : decode cX12_shared 182 = .ok (.iload 5, 2) := by decide +kernel
theorem dX12_shared_184 : decode cX12_shared 184 = .ok (.invokevirtual 177, 3) := by decide +kernel
theorem dX12_shared_187 : decode cX12_shared 187 = .ok (.ireturn, 1) := by decide +kernel
theorem dX12_shared_188 : decode cX12_shared 188 = .ok (.iload 5, 2) := by decide +kernel
theorem dX12_shared_190 : decode cX12_shared 190 = .ok (.ifCond .ge 25, 3) := by decide +kernel
theorem dX12_shared_193 : decode cX12_shared 193 = .ok (.aload_n 0, 1) := by decide +kernel
theorem dX12_shared_194 : decode cX12_shared 194 = .ok (.iload_n 1, 1) := by decide +kernel
theorem dX12_shared_195 : decode cX12_shared 195 = .ok (.bipush 9, 2) := by decide +kernel
theorem dX12_shared_197 : decode cX12_shared 197 = .ok (.invokevirtual 160, 3) := by decide +kernel
theorem dX12_shared_200 : decode cX12_shared 200 = .ok (.aload_n 0, 1) := by decide +kernel
theorem dX12_shared_201 : decode cX12_shared 201 = .ok (.iload_n 1, 1) := by decide +kernel
theorem dX12_shared_202 : decode cX12_shared 202 = .ok (.bipush 7, 2) := by decide +kernel
theorem dX12_shared_204 : decode cX12_shared 204 = .ok (.invokevirtual 160, 3) := by decide +kernel
theorem dX12_shared_207 : decode cX12_shared 207 = .ok (.aload_n 0, 1) := by decide +kernel
theorem dX12_shared_208 : decode cX12_shared 208 = .ok (.iload_n 1, 1) := by decide +kernel
theorem dX12_shared_209 : decode cX12_shared 209 = .ok (.bipush 8, 2) := by decide +kernel
theorem dX12_shared_211 : decode cX12_shared 211 = .ok (.iconst 0, 1) := by decide +kernel
theorem dX12_shared_212 : decode cX12_shared 212 = .ok (.invokevirtual 154, 3) := by decide +kernel
theorem dX12_shared_215 : decode cX12_shared 215 = .ok (.aload_n 0, 1) := by decide +kernel
theorem dX12_shared_216 : decode cX12_shared 216 = .ok (.getfield 47, 3) := by decide +kernel
theorem dX12_shared_219 : decode cX12_shared 219 = .ok (.iload_n 1, 1) := by decide +kernel
theorem dX12_shared_220 : decode cX12_shared 220 = .ok (.iaload, 1) := by decide +kernel
theorem dX12_shared_221 : decode cX12_shared 221 = .ok (.aload_n 0, 1) := by decide +kernel
theorem dX12_shared_222 : decode cX12_shared 222 = .ok (.iload_n 1, 1) := by decide +kernel
theorem dX12_shared_223 : decode cX12_shared 223 = .ok (.bipush 7, 2) := by decide +kernel
theorem dX12_shared_225 : decode cX12_shared 225 = .ok (.invokevirtual 173, 3) := by decide +kernel
theorem dX12_shared_228 : decode cX12_shared 228 = .ok (.iadd, 1) := by decide +kernel
theorem dX12_shared_229 : decode cX12_shared 229 = .ok (.aload_n 0, 1) := by decide +kernel
theorem dX12_shared_230 : decode cX12_shared 230 = .ok (.getfield 50, 3) := by decide +kernel
theorem dX12_shared_233 : decode cX12_shared 233 = .ok (.iload_n 1, 1) := by decide +kernel
theorem dX12_shared_234 : decode cX12_shared 234 = .ok (.iaload, 1) := by decide +kernel
theorem dX12_shared_235 : decode cX12_shared 235 = .ok (.if_icmp .ne 7, 3) := by decide +kernel
theorem dX12_shared_238 : decode cX12_shared 238 = .ok (.iconst 2, 1) := by decide +kernel
theorem dX12_shared_239 : decode cX12_shared 239 = .ok (.goto 4, 3) := by decide +kernel
theorem dX12_shared_242 : decode cX12_shared 242 = .ok (.iconst 1, 1) := by decide +kernel
theorem dX12_shared_243 : decode cX12_shared 243 = .ok (.ireturn, 1) := by decide +kernel
theorem dX12_notes_0 : decode cX12_notes 0 = .ok (.aload_n 0, 1) := by decide +kernel
theorem dX12_notes_1 : decode cX12_notes 1 = .ok (.getfield 68, 3) := by decide +kernel
theorem dX12_notes_4 : decode cX12_notes 4 = .ok (.sipush 262, 3) := by decide +kernel
theorem dX12_notes_7 : decode cX12_notes 7 = .ok (.aload_n 0, 1) := by decide +kernel
theorem dX12_notes_8 : decode cX12_notes 8 = .ok (.getfield 68, 3) := by decide +kernel
theorem dX12_notes_11 : decode cX12_notes 11 = .ok (.sipush 244, 3) := by decide +kernel
theorem dX12_notes_14 : decode cX12_notes 14 = .ok (.iaload, 1) := by decide +kernel
theorem dX12_notes_15 : decode cX12_notes 15 = .ok (.iadd, 1) := by decide +kernel
theorem dX12_notes_16 : decode cX12_notes 16 = .ok (.iload_n 1, 1) := by decide +kernel
theorem dX12_notes_17 : decode cX12_notes 17 = .ok (.iastore, 1) := by decide +kernel
theorem dX12_notes_18 : decode cX12_notes 18 = .ok (.aload_n 0, 1) := by decide +kernel
theorem dX12_notes_19 : decode cX12_notes 19 = .ok (.getfield 68, 3) := by decide +kernel
theorem dX12_notes_22 : decode cX12_notes 22 = .ok (.sipush 244, 3) := by decide +kernel
theorem dX12_notes_25 : decode cX12_notes 25 = .ok (.dup2, 1) := by decide +kernel
theorem dX12_notes_26 : decode cX12_notes 26 = .ok (.iaload, 1) := by decide +kernel
theorem dX12_notes_27 : decode cX12_notes 27 = .ok (.iconst 1, 1) := by decide +kernel
theorem dX12_notes_28 : decode cX12_notes 28 = .ok (.iadd, 1) := by decide +kernel
theorem dX12_notes_29 : decode cX12_notes 29 = .ok (.iastore, 1) := by decide +kernel
theorem dX12_notes_30 : decode cX12_notes 30 = .ok (.return_, 1) := by decide +kernel
theorem dX12_ends_0 : decode cX12_ends 0 = .ok (.aload_n 0, 1) := by decide +kernel
theorem dX12_ends_1 : decode cX12_ends 1 = .ok (.iload_n 1, 1) := by decide +kernel
theorem dX12_ends_2 : decode cX12_ends 2 = .ok (.iconst 0, 1) := by decide +kernel
theorem dX12_ends_3 : decode cX12_ends 3 = .ok (.iload_n 2, 1) := by decide +kernel
theorem dX12_ends_4 : decode cX12_ends 4 = .ok (.invokevirtual 154, 3) := by decide +kernel
theorem dX12_ends_7 : decode cX12_ends 7 = .ok (.aload_n 0, 1) := by decide +kernel
theorem dX12_ends_8 : decode cX12_ends 8 = .ok (.getfield 68, 3) := by decide +kernel
theorem dX12_ends_11 : decode cX12_ends 11 = .ok (.sipush 242, 3) := by decide +kernel
theorem dX12_ends_14 : decode cX12_ends 14 = .ok (.dup2, 1) := by decide +kernel
theorem dX12_ends_15 : decode cX12_ends 15 = .ok (.iaload, 1) := by decide +kernel
theorem dX12_ends_16 : decode cX12_ends 16 = .ok (.aload_n 0, 1) := by decide +kernel
theorem dX12_ends_17 : decode cX12_ends 17 = .ok (.getfield 38, 3) := by decide +kernel
theorem dX12_ends_20 : decode cX12_ends 20 = .ok (.iload_n 1, 1) := by decide +kernel
theorem dX12_ends_21 : decode cX12_ends 21 = .ok (.iaload, 1) := by decide +kernel
theorem dX12_ends_22 : decode cX12_ends 22 = .ok (.iadd, 1) := by decide +kernel
theorem dX12_ends_23 : decode cX12_ends 23 = .ok (.iastore, 1) := by decide +kernel
theorem dX12_ends_24 : decode cX12_ends 24 = .ok (.aload_n 0, 1) := by decide +kernel
theorem dX12_ends_25 : decode cX12_ends 25 = .ok (.getfield 68, 3) := by decide +kernel
theorem dX12_ends_28 : decode cX12_ends 28 = .ok (.sipush 250, 3) := by decide +kernel
theorem dX12_ends_31 : decode cX12_ends 31 = .ok (.iload_n 3, 1) := by decide +kernel
theorem dX12_ends_32 : decode cX12_ends 32 = .ok (.iadd, 1) := by decide +kernel
theorem dX12_ends_33 : decode cX12_ends 33 = .ok (.bipush (-9), 2) := by decide +kernel
theorem dX12_ends_35 : decode cX12_ends 35 = .ok (.iastore, 1) := by decide +kernel
theorem dX12_ends_36 : decode cX12_ends 36 = .ok (.aload_n 0, 1) := by decide +kernel
theorem dX12_ends_37 : decode cX12_ends 37 = .ok (.getfield 68, 3) := by decide +kernel
theorem dX12_ends_40 : decode cX12_ends 40 = .ok (.sipush 256, 3) := by decide +kernel
theorem dX12_ends_43 : decode cX12_ends 43 = .ok (.iload_n 3, 1) := by decide +kernel
theorem dX12_ends_44 : decode cX12_ends 44 = .ok (.iadd, 1) := by decide +kernel
theorem dX12_ends_45 : decode cX12_ends 45 = .ok (.dup2, 1) := by decide +kernel
theorem dX12_ends_46 : decode cX12_ends 46 = .ok (.iaload, 1) := by decide +kernel
theorem dX12_ends_47 : decode cX12_ends 47 = .ok (.iconst 1, 1) := by decide +kernel
theorem dX12_ends_48 : decode cX12_ends 48 = .ok (.iadd, 1) := by decide +kernel
theorem dX12_ends_49 : decode cX12_ends 49 = .ok (.iastore, 1) := by decide +kernel
theorem dX12_ends_50 : decode cX12_ends 50 = .ok (.aload_n 0, 1) := by decide +kernel
theorem dX12_ends_51 : decode cX12_ends 51 = .ok (.getfield 68, 3) := by decide +kernel
theorem dX12_ends_54 : decode cX12_ends 54 = .ok (.sipush 247, 3) := by decide +kernel
theorem dX12_ends_57 : decode cX12_ends 57 = .ok (.dup2, 1) := by decide +kernel
theorem dX12_ends_58 : decode cX12_ends 58 = .ok (.iaload, 1) := by decide +kernel
theorem dX12_ends_59 : decode cX12_ends 59 = .ok (.iconst 1, 1) := by decide +kernel
theorem dX12_ends_60 : decode cX12_ends 60 = .ok (.isub, 1) := by decide +kernel
theorem dX12_ends_61 : decode cX12_ends 61 = .ok (.iastore, 1) := by decide +kernel
theorem dX12_ends_62 : decode cX12_ends 62 = .ok (.aload_n 0, 1) := by decide +kernel
theorem dX12_ends_63 : decode cX12_ends 63 = .ok (.bipush 100, 2) := by decide +kernel
theorem dX12_ends_65 : decode cX12_ends 65 = .ok (.iload_n 1, 1) := by decide +kernel
theorem dX12_ends_66 : decode cX12_ends 66 = .ok (.imul, 1) := by decide +kernel
theorem dX12_ends_67 : decode cX12_ends 67 = .ok (.bipush 10, 2) := by decide +kernel
theorem dX12_ends_69 : decode cX12_ends 69 = .ok (.iload_n 3, 1) := by decide +kernel
theorem dX12_ends_70 : decode cX12_ends 70 = .ok (.imul, 1) := by decide +kernel
theorem dX12_ends_71 : decode cX12_ends 71 = .ok (.iadd, 1) := by decide +kernel
theorem dX12_ends_72 : decode cX12_ends 72 = .ok (.iload_n 2, 1) := by decide +kernel
theorem dX12_ends_73 : decode cX12_ends 73 = .ok (.iadd, 1) := by decide +kernel
theorem dX12_ends_74 : decode cX12_ends 74 = .ok (.invokevirtual 198, 3) := by decide +kernel
theorem dX12_ends_77 : decode cX12_ends 77 = .ok (.return_, 1) := by decide +kernel
theorem dX12_falls_0 : decode cX12_falls 0 = .ok (.aload_n 0, 1) := by decide +kernel
theorem dX12_falls_1 : decode cX12_falls 1 = .ok (.iload_n 1, 1) := by decide +kernel
theorem dX12_falls_2 : decode cX12_falls 2 = .ok (.iconst 0, 1) := by decide +kernel
theorem dX12_falls_3 : decode cX12_falls 3 = .ok (.iload_n 2, 1) := by decide +kernel
theorem dX12_falls_4 : decode cX12_falls 4 = .ok (.invokevirtual 154, 3) := by decide +kernel
theorem dX12_falls_7 : decode cX12_falls 7 = .ok (.aload_n 0, 1) := by decide +kernel
theorem dX12_falls_8 : decode cX12_falls 8 = .ok (.getfield 68, 3) := by decide +kernel
theorem dX12_falls_11 : decode cX12_falls 11 = .ok (.sipush 247, 3) := by decide +kernel
theorem dX12_falls_14 : decode cX12_falls 14 = .ok (.dup2, 1) := by decide +kernel
theorem dX12_falls_15 : decode cX12_falls 15 = .ok (.iaload, 1) := by decide +kernel
theorem dX12_falls_16 : decode cX12_falls 16 = .ok (.iconst 1, 1) := by decide +kernel
theorem dX12_falls_17 : decode cX12_falls 17 = .ok (.isub, 1) := by decide +kernel
theorem dX12_falls_18 : decode cX12_falls 18 = .ok (.iastore, 1) := by decide +kernel
theorem dX12_falls_19 : decode cX12_falls 19 = .ok (.aload_n 0, 1) := by decide +kernel
theorem dX12_falls_20 : decode cX12_falls 20 = .ok (.getfield 68, 3) := by decide +kernel
theorem dX12_falls_23 : decode cX12_falls 23 = .ok (.sipush 248, 3) := by decide +kernel
theorem dX12_falls_26 : decode cX12_falls 26 = .ok (.dup2, 1) := by decide +kernel
theorem dX12_falls_27 : decode cX12_falls 27 = .ok (.iaload, 1) := by decide +kernel
theorem dX12_falls_28 : decode cX12_falls 28 = .ok (.iconst 1, 1) := by decide +kernel
theorem dX12_falls_29 : decode cX12_falls 29 = .ok (.isub, 1) := by decide +kernel
theorem dX12_falls_30 : decode cX12_falls 30 = .ok (.iastore, 1) := by decide +kernel
theorem dX12_falls_31 : decode cX12_falls 31 = .ok (.return_, 1) := by decide +kernel
theorem dX12_takes_0 : decode cX12_takes 0 = .ok (.iconst 0, 1) := by decide +kernel
theorem dX12_takes_1 : decode cX12_takes 1 = .ok (.istore_n 2, 1) := by decide +kernel
theorem dX12_takes_2 : decode cX12_takes 2 = .ok (.aload_n 0, 1) := by decide +kernel
theorem dX12_takes_3 : decode cX12_takes 3 = .ok (.getfield 68, 3) := by decide +kernel
theorem dX12_takes_6 : decode cX12_takes 6 = .ok (.sipush 248, 3) := by decide +kernel
theorem dX12_takes_9 : decode cX12_takes 9 = .ok (.iaload, 1) := by decide +kernel
theorem dX12_takes_10 : decode cX12_takes 10 = .ok (.ifCond .le 43, 3) := by decide +kernel
theorem dX12_takes_13 : decode cX12_takes 13 = .ok (.iload_n 2, 1) := by decide +kernel
theorem dX12_takes_14 : decode cX12_takes 14 = .ok (.aload_n 0, 1) := by decide +kernel
theorem dX12_takes_15 : decode cX12_takes 15 = .ok (.getfield 101, 3) := by decide +kernel
theorem dX12_takes_18 : decode cX12_takes 18 = .ok (.if_icmp .ge 35, 3) := by decide +kernel
theorem dX12_takes_21 : decode cX12_takes 21 = .ok (.aload_n 0, 1) := by decide +kernel
theorem dX12_takes_22 : decode cX12_takes 22 = .ok (.iload_n 2, 1) := by decide +kernel
theorem dX12_takes_23 : decode cX12_takes 23 = .ok (.iconst 0, 1) := by decide +kernel
theorem dX12_takes_24 : decode cX12_takes 24 = .ok (.invokevirtual 173, 3) := by decide +kernel
theorem dX12_takes_27 : decode cX12_takes 27 = .ok (.ifCond .ne 20, 3) := by decide +kernel
theorem dX12_takes_30 : decode cX12_takes 30 = .ok (.aload_n 0, 1) := by decide +kernel
theorem dX12_takes_31 : decode cX12_takes 31 = .ok (.getfield 38, 3) := by decide +kernel
theorem dX12_takes_34 : decode cX12_takes 34 = .ok (.iload_n 2, 1) := by decide +kernel
theorem dX12_takes_35 : decode cX12_takes 35 = .ok (.iaload, 1) := by decide +kernel
theorem dX12_takes_36 : decode cX12_takes 36 = .ok (.aload_n 0, 1) := by decide +kernel
theorem dX12_takes_37 : decode cX12_takes 37 = .ok (.getfield 68, 3) := by decide +kernel
theorem dX12_takes_40 : decode cX12_takes 40 = .ok (.sipush 242, 3) := by decide +kernel
theorem dX12_takes_43 : decode cX12_takes 43 = .ok (.iaload, 1) := by decide +kernel
theorem dX12_takes_44 : decode cX12_takes 44 = .ok (.if_icmp .le 9, 3) := by decide +kernel
theorem dX12_takes_47 : decode cX12_takes 47 = .ok (.iinc 2 1, 3) := by decide +kernel
theorem dX12_takes_50 : decode cX12_takes 50 = .ok (.goto (-48), 3) := by decide +kernel
theorem dX12_takes_53 : decode cX12_takes 53 = .ok (.aload_n 0, 1) := by decide +kernel
theorem dX12_takes_54 : decode cX12_takes 54 = .ok (.getfield 68, 3) := by decide +kernel
theorem dX12_takes_57 : decode cX12_takes 57 = .ok (.sipush 248, 3) := by decide +kernel
theorem dX12_takes_60 : decode cX12_takes 60 = .ok (.iaload, 1) := by decide +kernel
theorem dX12_takes_61 : decode cX12_takes 61 = .ok (.ifCond .eq 11, 3) := by decide +kernel
theorem dX12_takes_64 : decode cX12_takes 64 = .ok (.iload_n 2, 1) := by decide +kernel
theorem dX12_takes_65 : decode cX12_takes 65 = .ok (.aload_n 0, 1) := by decide +kernel
theorem dX12_takes_66 : decode cX12_takes 66 = .ok (.getfield 101, 3) := by decide +kernel
theorem dX12_takes_69 : decode cX12_takes 69 = .ok (.if_icmp .ne 16, 3) := by decide +kernel
theorem dX12_takes_72 : decode cX12_takes 72 = .ok (.aload_n 0, 1) := by decide +kernel
theorem dX12_takes_73 : decode cX12_takes 73 = .ok (.getfield 68, 3) := by decide +kernel
theorem dX12_takes_76 : decode cX12_takes 76 = .ok (.sipush 241, 3) := by decide +kernel
theorem dX12_takes_79 : decode cX12_takes 79 = .ok (.dup2, 1) := by decide +kernel
theorem dX12_takes_80 : decode cX12_takes 80 = .ok (.iaload, 1) := by decide +kernel
theorem dX12_takes_81 : decode cX12_takes 81 = .ok (.iconst 1, 1) := by decide +kernel
theorem dX12_takes_82 : decode cX12_takes 82 = .ok (.iadd, 1) := by decide +kernel
theorem dX12_takes_83 : decode cX12_takes 83 = .ok (.iastore, 1) := by decide +kernel
theorem dX12_takes_84 : decode cX12_takes 84 = .ok (.return_, 1) := by decide +kernel
theorem dX12_takes_85 : decode cX12_takes 85 = .ok (.aload_n 0, 1) := by decide +kernel
theorem dX12_takes_86 : decode cX12_takes 86 = .ok (.iload_n 2, 1) := by decide +kernel
theorem dX12_takes_87 : decode cX12_takes 87 = .ok (.iconst 0, 1) := by decide +kernel
theorem dX12_takes_88 : decode cX12_takes 88 = .ok (.iconst 1, 1) := by decide +kernel
theorem dX12_takes_89 : decode cX12_takes 89 = .ok (.invokevirtual 154, 3) := by decide +kernel
theorem dX12_takes_92 : decode cX12_takes 92 = .ok (.aload_n 0, 1) := by decide +kernel
theorem dX12_takes_93 : decode cX12_takes 93 = .ok (.iload_n 2, 1) := by decide +kernel
theorem dX12_takes_94 : decode cX12_takes 94 = .ok (.iconst 5, 1) := by decide +kernel
theorem dX12_takes_95 : decode cX12_takes 95 = .ok (.iload_n 1, 1) := by decide +kernel
theorem dX12_takes_96 : decode cX12_takes 96 = .ok (.invokevirtual 154, 3) := by decide +kernel
theorem dX12_takes_99 : decode cX12_takes 99 = .ok (.aload_n 0, 1) := by decide +kernel
theorem dX12_takes_100 : decode cX12_takes 100 = .ok (.iload_n 2, 1) := by decide +kernel
theorem dX12_takes_101 : decode cX12_takes 101 = .ok (.iconst 3, 1) := by decide +kernel
theorem dX12_takes_102 : decode cX12_takes 102 = .ok (.invokevirtual 160, 3) := by decide +kernel
theorem dX12_takes_105 : decode cX12_takes 105 = .ok (.aload_n 0, 1) := by decide +kernel
theorem dX12_takes_106 : decode cX12_takes 106 = .ok (.getfield 68, 3) := by decide +kernel
theorem dX12_takes_109 : decode cX12_takes 109 = .ok (.sipush 250, 3) := by decide +kernel
theorem dX12_takes_112 : decode cX12_takes 112 = .ok (.iload_n 1, 1) := by decide +kernel
theorem dX12_takes_113 : decode cX12_takes 113 = .ok (.iadd, 1) := by decide +kernel
theorem dX12_takes_114 : decode cX12_takes 114 = .ok (.iload_n 2, 1) := by decide +kernel
theorem dX12_takes_115 : decode cX12_takes 115 = .ok (.iastore, 1) := by decide +kernel
theorem dX12_takes_116 : decode cX12_takes 116 = .ok (.aload_n 0, 1) := by decide +kernel
theorem dX12_takes_117 : decode cX12_takes 117 = .ok (.getfield 68, 3) := by decide +kernel
theorem dX12_takes_120 : decode cX12_takes 120 = .ok (.sipush 248, 3) := by decide +kernel
theorem dX12_takes_123 : decode cX12_takes 123 = .ok (.dup2, 1) := by decide +kernel
theorem dX12_takes_124 : decode cX12_takes 124 = .ok (.iaload, 1) := by decide +kernel
theorem dX12_takes_125 : decode cX12_takes 125 = .ok (.iconst 1, 1) := by decide +kernel
theorem dX12_takes_126 : decode cX12_takes 126 = .ok (.isub, 1) := by decide +kernel
theorem dX12_takes_127 : decode cX12_takes 127 = .ok (.iastore, 1) := by decide +kernel
theorem dX12_takes_128 : decode cX12_takes 128 = .ok (.aload_n 0, 1) := by decide +kernel
theorem dX12_takes_129 : decode cX12_takes 129 = .ok (.getfield 68, 3) := by decide +kernel
theorem dX12_takes_132 : decode cX12_takes 132 = .ok (.sipush 242, 3) := by decide +kernel
theorem dX12_takes_135 : decode cX12_takes 135 = .ok (.dup2, 1) := by decide +kernel
theorem dX12_takes_136 : decode cX12_takes 136 = .ok (.iaload, 1) := by decide +kernel
theorem dX12_takes_137 : decode cX12_takes 137 = .ok (.aload_n 0, 1) := by decide +kernel
theorem dX12_takes_138 : decode cX12_takes 138 = .ok (.getfield 38, 3) := by decide +kernel
theorem dX12_takes_141 : decode cX12_takes 141 = .ok (.iload_n 2, 1) := by decide +kernel
theorem dX12_takes_142 : decode cX12_takes 142 = .ok (.iaload, 1) := by decide +kernel
theorem dX12_takes_143 : decode cX12_takes 143 = .ok (.isub, 1) := by decide +kernel
theorem dX12_takes_144 : decode cX12_takes 144 = .ok (.iastore, 1) := by decide +kernel
theorem dX12_takes_145 : decode cX12_takes 145 = .ok (.aload_n 0, 1) := by decide +kernel
theorem dX12_takes_146 : decode cX12_takes 146 = .ok (.getfield 68, 3) := by decide +kernel
theorem dX12_takes_149 : decode cX12_takes 149 = .ok (.sipush 243, 3) := by decide +kernel
theorem dX12_takes_152 : decode cX12_takes 152 = .ok (.aload_n 0, 1) := by decide +kernel
theorem dX12_takes_153 : decode cX12_takes 153 = .ok (.getfield 90, 3) := by decide +kernel
theorem dX12_takes_156 : decode cX12_takes 156 = .ok (.aload_n 0, 1) := by decide +kernel
theorem dX12_takes_157 : decode cX12_takes 157 = .ok (.getfield 68, 3) := by decide +kernel
theorem dX12_takes_160 : decode cX12_takes 160 = .ok (.sipush 242, 3) := by decide +kernel
theorem dX12_takes_163 : decode cX12_takes 163 = .ok (.iaload, 1) := by decide +kernel
theorem dX12_takes_164 : decode cX12_takes 164 = .ok (.isub, 1) := by decide +kernel
theorem dX12_takes_165 : decode cX12_takes 165 = .ok (.aload_n 0, 1) := by decide +kernel
theorem dX12_takes_166 : decode cX12_takes 166 = .ok (.getfield 68, 3) := by decide +kernel
theorem dX12_takes_169 : decode cX12_takes 169 = .ok (.sipush 243, 3) := by decide +kernel
theorem dX12_takes_172 : decode cX12_takes 172 = .ok (.iaload, 1) := by decide +kernel
theorem dX12_takes_173 : decode cX12_takes 173 = .ok (.if_icmp .le 19, 3) := by decide +kernel
theorem dX12_takes_176 : decode cX12_takes 176 = .ok (.aload_n 0, 1) := by decide +kernel
theorem dX12_takes_177 : decode cX12_takes 177 = .ok (.getfield 90, 3) := by decide +kernel
theorem dX12_takes_180 : decode cX12_takes 180 = .ok (.aload_n 0, 1) := by decide +kernel
theorem dX12_takes_181 : decode cX12_takes 181 = .ok (.getfield 68, 3) := by decide +kernel
theorem dX12_takes_184 : decode cX12_takes 184 = .ok (.sipush 242, 3) := by decide +kernel
theorem dX12_takes_187 : decode cX12_takes 187 = .ok (.iaload, 1) := by decide +kernel
theorem dX12_takes_188 : decode cX12_takes 188 = .ok (.isub, 1) := by decide +kernel
theorem dX12_takes_189 : decode cX12_takes 189 = .ok (.goto 11, 3) := by decide +kernel
theorem dX12_takes_192 : decode cX12_takes 192 = .ok (.aload_n 0, 1) := by decide +kernel
theorem dX12_takes_193 : decode cX12_takes 193 = .ok (.getfield 68, 3) := by decide +kernel
theorem dX12_takes_196 : decode cX12_takes 196 = .ok (.sipush 243, 3) := by decide +kernel
theorem dX12_takes_199 : decode cX12_takes 199 = .ok (.iaload, 1) := by decide +kernel
theorem dX12_takes_200 : decode cX12_takes 200 = .ok (.iastore, 1) := by decide +kernel
theorem dX12_takes_201 : decode cX12_takes 201 = .ok (.aload_n 0, 1) := by decide +kernel
theorem dX12_takes_202 : decode cX12_takes 202 = .ok (.bipush 100, 2) := by decide +kernel
theorem dX12_takes_204 : decode cX12_takes 204 = .ok (.iload_n 2, 1) := by decide +kernel
theorem dX12_takes_205 : decode cX12_takes 205 = .ok (.imul, 1) := by decide +kernel
theorem dX12_takes_206 : decode cX12_takes 206 = .ok (.bipush 10, 2) := by decide +kernel
theorem dX12_takes_208 : decode cX12_takes 208 = .ok (.iload_n 1, 1) := by decide +kernel
theorem dX12_takes_209 : decode cX12_takes 209 = .ok (.imul, 1) := by decide +kernel
theorem dX12_takes_210 : decode cX12_takes 210 = .ok (.iadd, 1) := by decide +kernel
theorem dX12_takes_211 : decode cX12_takes 211 = .ok (.iconst 1, 1) := by decide +kernel
theorem dX12_takes_212 : decode cX12_takes 212 = .ok (.iadd, 1) := by decide +kernel
theorem dX12_takes_213 : decode cX12_takes 213 = .ok (.invokevirtual 198, 3) := by decide +kernel
theorem dX12_takes_216 : decode cX12_takes 216 = .ok (.return_, 1) := by decide +kernel
theorem dX12_looks_0 : decode cX12_looks 0 = .ok (.iconst 0, 1) := by decide +kernel
theorem dX12_looks_1 : decode cX12_looks 1 = .ok (.istore_n 1, 1) := by decide +kernel
theorem dX12_looks_2 : decode cX12_looks 2 = .ok (.aload_n 0, 1) := by decide +kernel
theorem dX12_looks_3 : decode cX12_looks 3 = .ok (.getfield 68, 3) := by decide +kernel
theorem dX12_looks_6 : decode cX12_looks 6 = .ok (.sipush 245, 3) := by decide +kernel
theorem dX12_looks_9 : decode cX12_looks 9 = .ok (.iaload, 1) := by decide +kernel
theorem dX12_looks_10 : decode cX12_looks 10 = .ok (.bipush (-9), 2) := by decide +kernel
theorem dX12_looks_12 : decode cX12_looks 12 = .ok (.if_icmp .ne 37, 3) := by decide +kernel
theorem dX12_looks_15 : decode cX12_looks 15 = .ok (.iload_n 1, 1) := by decide +kernel
theorem dX12_looks_16 : decode cX12_looks 16 = .ok (.aload_n 0, 1) := by decide +kernel
theorem dX12_looks_17 : decode cX12_looks 17 = .ok (.getfield 101, 3) := by decide +kernel
theorem dX12_looks_20 : decode cX12_looks 20 = .ok (.if_icmp .ge 29, 3) := by decide +kernel
theorem dX12_looks_23 : decode cX12_looks 23 = .ok (.aload_n 0, 1) := by decide +kernel
theorem dX12_looks_24 : decode cX12_looks 24 = .ok (.getfield 26, 3) := by decide +kernel
theorem dX12_looks_27 : decode cX12_looks 27 = .ok (.iload_n 1, 1) := by decide +kernel
theorem dX12_looks_28 : decode cX12_looks 28 = .ok (.iaload, 1) := by decide +kernel
theorem dX12_looks_29 : decode cX12_looks 29 = .ok (.iconst 4, 1) := by decide +kernel
theorem dX12_looks_30 : decode cX12_looks 30 = .ok (.if_icmp .eq 13, 3) := by decide +kernel
theorem dX12_looks_33 : decode cX12_looks 33 = .ok (.aload_n 0, 1) := by decide +kernel
theorem dX12_looks_34 : decode cX12_looks 34 = .ok (.iload_n 1, 1) := by decide +kernel
theorem dX12_looks_35 : decode cX12_looks 35 = .ok (.iconst 0, 1) := by decide +kernel
theorem dX12_looks_36 : decode cX12_looks 36 = .ok (.invokevirtual 173, 3) := by decide +kernel
theorem dX12_looks_39 : decode cX12_looks 39 = .ok (.iconst 2, 1) := by decide +kernel
theorem dX12_looks_40 : decode cX12_looks 40 = .ok (.if_icmp .le 9, 3) := by decide +kernel
theorem dX12_looks_43 : decode cX12_looks 43 = .ok (.iinc 1 1, 3) := by decide +kernel
theorem dX12_looks_46 : decode cX12_looks 46 = .ok (.goto (-44), 3) := by decide +kernel
theorem dX12_looks_49 : decode cX12_looks 49 = .ok (.aload_n 0, 1) := by decide +kernel
theorem dX12_looks_50 : decode cX12_looks 50 = .ok (.getfield 68, 3) := by decide +kernel
theorem dX12_looks_53 : decode cX12_looks 53 = .ok (.sipush 245, 3) := by decide +kernel
theorem dX12_looks_56 : decode cX12_looks 56 = .ok (.iaload, 1) := by decide +kernel
theorem dX12_looks_57 : decode cX12_looks 57 = .ok (.bipush (-9), 2) := by decide +kernel
theorem dX12_looks_59 : decode cX12_looks 59 = .ok (.if_icmp .ne 104, 3) := by decide +kernel
theorem dX12_looks_62 : decode cX12_looks 62 = .ok (.iload_n 1, 1) := by decide +kernel
theorem dX12_looks_63 : decode cX12_looks 63 = .ok (.aload_n 0, 1) := by decide +kernel
theorem dX12_looks_64 : decode cX12_looks 64 = .ok (.getfield 101, 3) := by decide +kernel
theorem dX12_looks_67 : decode cX12_looks 67 = .ok (.if_icmp .ge 96, 3) := by decide +kernel
theorem dX12_looks_70 : decode cX12_looks 70 = .ok (.aload_n 0, 1) := by decide +kernel
theorem dX12_looks_71 : decode cX12_looks 71 = .ok (.iload_n 1, 1) := by decide +kernel
theorem dX12_looks_72 : decode cX12_looks 72 = .ok (.iconst 0, 1) := by decide +kernel
theorem dX12_looks_73 : decode cX12_looks 73 = .ok (.invokevirtual 173, 3) := by decide +kernel
theorem dX12_looks_76 : decode cX12_looks 76 = .ok (.iconst 2, 1) := by decide +kernel
theorem dX12_looks_77 : decode cX12_looks 77 = .ok (.if_icmp .ne 86, 3) := by decide +kernel
theorem dX12_looks_80 : decode cX12_looks 80 = .ok (.aload_n 0, 1) := by decide +kernel
theorem dX12_looks_81 : decode cX12_looks 81 = .ok (.getfield 68, 3) := by decide +kernel
theorem dX12_looks_84 : decode cX12_looks 84 = .ok (.sipush 245, 3) := by decide +kernel
theorem dX12_looks_87 : decode cX12_looks 87 = .ok (.iload_n 1, 1) := by decide +kernel
theorem dX12_looks_88 : decode cX12_looks 88 = .ok (.iastore, 1) := by decide +kernel
theorem dX12_looks_89 : decode cX12_looks 89 = .ok (.iload_n 1, 1) := by decide +kernel
theorem dX12_looks_90 : decode cX12_looks 90 = .ok (.iconst 1, 1) := by decide +kernel
theorem dX12_looks_91 : decode cX12_looks 91 = .ok (.iadd, 1) := by decide +kernel
theorem dX12_looks_92 : decode cX12_looks 92 = .ok (.istore_n 2, 1) := by decide +kernel
theorem dX12_looks_93 : decode cX12_looks 93 = .ok (.iload_n 2, 1) := by decide +kernel
theorem dX12_looks_94 : decode cX12_looks 94 = .ok (.aload_n 0, 1) := by decide +kernel
theorem dX12_looks_95 : decode cX12_looks 95 = .ok (.getfield 101, 3) := by decide +kernel
theorem dX12_looks_98 : decode cX12_looks 98 = .ok (.if_icmp .ge 65, 3) := by decide +kernel
theorem dX12_looks_101 : decode cX12_looks 101 = .ok (.aload_n 0, 1) := by decide +kernel
theorem dX12_looks_102 : decode cX12_looks 102 = .ok (.getfield 26, 3) := by decide +kernel
theorem dX12_looks_105 : decode cX12_looks 105 = .ok (.iload_n 2, 1) := by decide +kernel
theorem dX12_looks_106 : decode cX12_looks 106 = .ok (.iaload, 1) := by decide +kernel
theorem dX12_looks_107 : decode cX12_looks 107 = .ok (.iconst 4, 1) := by decide +kernel
theorem dX12_looks_108 : decode cX12_looks 108 = .ok (.if_icmp .eq 21, 3) := by decide +kernel
theorem dX12_looks_111 : decode cX12_looks 111 = .ok (.aload_n 0, 1) := by decide +kernel
theorem dX12_looks_112 : decode cX12_looks 112 = .ok (.iload_n 2, 1) := by decide +kernel
theorem dX12_looks_113 : decode cX12_looks 113 = .ok (.iconst 0, 1) := by decide +kernel
theorem dX12_looks_114 : decode cX12_looks 114 = .ok (.invokevirtual 173, 3) := by decide +kernel
theorem dX12_looks_117 : decode cX12_looks 117 = .ok (.ifCond .ne 12, 3) := by decide +kernel
theorem dX12_looks_120 : decode cX12_looks 120 = .ok (.aload_n 0, 1) := by decide +kernel
theorem dX12_looks_121 : decode cX12_looks 121 = .ok (.iload_n 2, 1) := by decide +kernel
theorem dX12_looks_122 : decode cX12_looks 122 = .ok (.iconst 5, 1) := by decide +kernel
theorem dX12_looks_123 : decode cX12_looks 123 = .ok (.invokevirtual 202, 3) := by decide +kernel
theorem dX12_looks_126 : decode cX12_looks 126 = .ok (.goto 31, 3) := by decide +kernel
theorem dX12_looks_129 : decode cX12_looks 129 = .ok (.aload_n 0, 1) := by decide +kernel
theorem dX12_looks_130 : decode cX12_looks 130 = .ok (.getfield 26, 3) := by decide +kernel
theorem dX12_looks_133 : decode cX12_looks 133 = .ok (.iload_n 2, 1) := by decide +kernel
theorem dX12_looks_134 : decode cX12_looks 134 = .ok (.iaload, 1) := by decide +kernel
theorem dX12_looks_135 : decode cX12_looks 135 = .ok (.iconst 4, 1) := by decide +kernel
theorem dX12_looks_136 : decode cX12_looks 136 = .ok (.if_icmp .eq 21, 3) := by decide +kernel
theorem dX12_looks_139 : decode cX12_looks 139 = .ok (.aload_n 0, 1) := by decide +kernel
theorem dX12_looks_140 : decode cX12_looks 140 = .ok (.iload_n 2, 1) := by decide +kernel
theorem dX12_looks_141 : decode cX12_looks 141 = .ok (.iconst 0, 1) := by decide +kernel
theorem dX12_looks_142 : decode cX12_looks 142 = .ok (.invokevirtual 173, 3) := by decide +kernel
theorem dX12_looks_145 : decode cX12_looks 145 = .ok (.iconst 1, 1) := by decide +kernel
theorem dX12_looks_146 : decode cX12_looks 146 = .ok (.if_icmp .ne 11, 3) := by decide +kernel
theorem dX12_looks_149 : decode cX12_looks 149 = .ok (.aload_n 0, 1) := by decide +kernel
theorem dX12_looks_150 : decode cX12_looks 150 = .ok (.iload_n 2, 1) := by decide +kernel
theorem dX12_looks_151 : decode cX12_looks 151 = .ok (.bipush 10, 2) := by decide +kernel
theorem dX12_looks_153 : decode cX12_looks 153 = .ok (.iconst 1, 1) := by decide +kernel
theorem dX12_looks_154 : decode cX12_looks 154 = .ok (.invokevirtual 154, 3) := by decide +kernel
theorem dX12_looks_157 : decode cX12_looks 157 = .ok (.iinc 2 1, 3) := by decide +kernel
theorem dX12_looks_160 : decode cX12_looks 160 = .ok (.goto (-67), 3) := by decide +kernel
theorem dX12_looks_163 : decode cX12_looks 163 = .ok (.return_, 1) := by decide +kernel
theorem dX12_turns_0 : decode cX12_turns 0 = .ok (.aload_n 0, 1) := by decide +kernel
theorem dX12_turns_1 : decode cX12_turns 1 = .ok (.getfield 68, 3) := by decide +kernel
theorem dX12_turns_4 : decode cX12_turns 4 = .ok (.sipush 240, 3) := by decide +kernel
theorem dX12_turns_7 : decode cX12_turns 7 = .ok (.dup2, 1) := by decide +kernel
theorem dX12_turns_8 : decode cX12_turns 8 = .ok (.iaload, 1) := by decide +kernel
theorem dX12_turns_9 : decode cX12_turns 9 = .ok (.iconst 1, 1) := by decide +kernel
theorem dX12_turns_10 : decode cX12_turns 10 = .ok (.iadd, 1) := by decide +kernel
theorem dX12_turns_11 : decode cX12_turns 11 = .ok (.iastore, 1) := by decide +kernel
theorem dX12_turns_12 : decode cX12_turns 12 = .ok (.aload_n 0, 1) := by decide +kernel
theorem dX12_turns_13 : decode cX12_turns 13 = .ok (.getfield 68, 3) := by decide +kernel
theorem dX12_turns_16 : decode cX12_turns 16 = .ok (.sipush 250, 3) := by decide +kernel
theorem dX12_turns_19 : decode cX12_turns 19 = .ok (.iload_n 1, 1) := by decide +kernel
theorem dX12_turns_20 : decode cX12_turns 20 = .ok (.iadd, 1) := by decide +kernel
theorem dX12_turns_21 : decode cX12_turns 21 = .ok (.iaload, 1) := by decide +kernel
theorem dX12_turns_22 : decode cX12_turns 22 = .ok (.istore_n 2, 1) := by decide +kernel
theorem dX12_turns_23 : decode cX12_turns 23 = .ok (.iload_n 2, 1) := by decide +kernel
theorem dX12_turns_24 : decode cX12_turns 24 = .ok (.bipush (-9), 2) := by decide +kernel
theorem dX12_turns_26 : decode cX12_turns 26 = .ok (.if_icmp .ne 11, 3) := by decide +kernel
theorem dX12_turns_29 : decode cX12_turns 29 = .ok (.aload_n 0, 1) := by decide +kernel
theorem dX12_turns_30 : decode cX12_turns 30 = .ok (.iload_n 1, 1) := by decide +kernel
theorem dX12_turns_31 : decode cX12_turns 31 = .ok (.invokevirtual 205, 3) := by decide +kernel
theorem dX12_turns_34 : decode cX12_turns 34 = .ok (.goto 58, 3) := by decide +kernel
theorem dX12_turns_37 : decode cX12_turns 37 = .ok (.aload_n 0, 1) := by decide +kernel
theorem dX12_turns_38 : decode cX12_turns 38 = .ok (.iload_n 2, 1) := by decide +kernel
theorem dX12_turns_39 : decode cX12_turns 39 = .ok (.iconst 3, 1) := by decide +kernel
theorem dX12_turns_40 : decode cX12_turns 40 = .ok (.invokevirtual 160, 3) := by decide +kernel
theorem dX12_turns_43 : decode cX12_turns 43 = .ok (.aload_n 0, 1) := by decide +kernel
theorem dX12_turns_44 : decode cX12_turns 44 = .ok (.iload_n 2, 1) := by decide +kernel
theorem dX12_turns_45 : decode cX12_turns 45 = .ok (.bipush 10, 2) := by decide +kernel
theorem dX12_turns_47 : decode cX12_turns 47 = .ok (.invokevirtual 173, 3) := by decide +kernel
theorem dX12_turns_50 : decode cX12_turns 50 = .ok (.iconst 1, 1) := by decide +kernel
theorem dX12_turns_51 : decode cX12_turns 51 = .ok (.if_icmp .ne 7, 3) := by decide +kernel
theorem dX12_turns_54 : decode cX12_turns 54 = .ok (.iconst 5, 1) := by decide +kernel
theorem dX12_turns_55 : decode cX12_turns 55 = .ok (.goto 24, 3) := by decide +kernel
theorem dX12_turns_58 : decode cX12_turns 58 = .ok (.aload_n 0, 1) := by decide +kernel
theorem dX12_turns_59 : decode cX12_turns 59 = .ok (.iload_n 2, 1) := by decide +kernel
theorem dX12_turns_60 : decode cX12_turns 60 = .ok (.bipush 11, 2) := by decide +kernel
theorem dX12_turns_62 : decode cX12_turns 62 = .ok (.invokevirtual 173, 3) := by decide +kernel
theorem dX12_turns_65 : decode cX12_turns 65 = .ok (.iconst 1, 1) := by decide +kernel
theorem dX12_turns_66 : decode cX12_turns 66 = .ok (.if_icmp .ne 8, 3) := by decide +kernel
theorem dX12_turns_69 : decode cX12_turns 69 = .ok (.bipush 6, 2) := by decide +kernel
theorem dX12_turns_71 : decode cX12_turns 71 = .ok (.goto 8, 3) := by decide +kernel
theorem dX12_turns_74 : decode cX12_turns 74 = .ok (.aload_n 0, 1) := by decide +kernel
theorem dX12_turns_75 : decode cX12_turns 75 = .ok (.iload_n 2, 1) := by decide +kernel
theorem dX12_turns_76 : decode cX12_turns 76 = .ok (.invokevirtual 208, 3) := by decide +kernel
theorem dX12_turns_79 : decode cX12_turns 79 = .ok (.istore_n 3, 1) := by decide +kernel
theorem dX12_turns_80 : decode cX12_turns 80 = .ok (.iload_n 3, 1) := by decide +kernel
theorem dX12_turns_81 : decode cX12_turns 81 = .ok (.iconst 1, 1) := by decide +kernel
theorem dX12_turns_82 : decode cX12_turns 82 = .ok (.if_icmp .eq 10, 3) := by decide +kernel
theorem dX12_turns_85 : decode cX12_turns 85 = .ok (.aload_n 0, 1) := by decide +kernel
theorem dX12_turns_86 : decode cX12_turns 86 = .ok (.iload_n 2, 1) := by decide +kernel
theorem dX12_turns_87 : decode cX12_turns 87 = .ok (.iload_n 3, 1) := by decide +kernel
theorem dX12_turns_88 : decode cX12_turns 88 = .ok (.iload_n 1, 1) := by decide +kernel
theorem dX12_turns_89 : decode cX12_turns 89 = .ok (.invokevirtual 211, 3) := by decide +kernel
theorem dX12_turns_92 : decode cX12_turns 92 = .ok (.aload_n 0, 1) := by decide +kernel
theorem dX12_turns_93 : decode cX12_turns 93 = .ok (.invokevirtual 214, 3) := by decide +kernel
theorem dX12_turns_96 : decode cX12_turns 96 = .ok (.return_, 1) := by decide +kernel
theorem dX12_again_0 : decode cX12_again 0 = .ok (.iconst 0, 1) := by decide +kernel
theorem dX12_again_1 : decode cX12_again 1 = .ok (.istore_n 1, 1) := by decide +kernel
theorem dX12_again_2 : decode cX12_again 2 = .ok (.iload_n 1, 1) := by decide +kernel
theorem dX12_again_3 : decode cX12_again 3 = .ok (.aload_n 0, 1) := by decide +kernel
theorem dX12_again_4 : decode cX12_again 4 = .ok (.getfield 101, 3) := by decide +kernel
theorem dX12_again_7 : decode cX12_again 7 = .ok (.if_icmp .ge 73, 3) := by decide +kernel
theorem dX12_again_10 : decode cX12_again 10 = .ok (.aload_n 0, 1) := by decide +kernel
theorem dX12_again_11 : decode cX12_again 11 = .ok (.getfield 47, 3) := by decide +kernel
theorem dX12_again_14 : decode cX12_again 14 = .ok (.iload_n 1, 1) := by decide +kernel
theorem dX12_again_15 : decode cX12_again 15 = .ok (.iaload, 1) := by decide +kernel
theorem dX12_again_16 : decode cX12_again 16 = .ok (.istore_n 2, 1) := by decide +kernel
theorem dX12_again_17 : decode cX12_again 17 = .ok (.aload_n 0, 1) := by decide +kernel
theorem dX12_again_18 : decode cX12_again 18 = .ok (.getfield 26, 3) := by decide +kernel
theorem dX12_again_21 : decode cX12_again 21 = .ok (.iload_n 1, 1) := by decide +kernel
theorem dX12_again_22 : decode cX12_again 22 = .ok (.iaload, 1) := by decide +kernel
theorem dX12_again_23 : decode cX12_again 23 = .ok (.iconst 4, 1) := by decide +kernel
theorem dX12_again_24 : decode cX12_again 24 = .ok (.if_icmp .ne 50, 3) := by decide +kernel
theorem dX12_again_27 : decode cX12_again 27 = .ok (.aload_n 0, 1) := by decide +kernel
theorem dX12_again_28 : decode cX12_again 28 = .ok (.iload_n 1, 1) := by decide +kernel
theorem dX12_again_29 : decode cX12_again 29 = .ok (.iconst 0, 1) := by decide +kernel
theorem dX12_again_30 : decode cX12_again 30 = .ok (.invokevirtual 173, 3) := by decide +kernel
theorem dX12_again_33 : decode cX12_again 33 = .ok (.iconst 3, 1) := by decide +kernel
theorem dX12_again_34 : decode cX12_again 34 = .ok (.if_icmp .ne 40, 3) := by decide +kernel
theorem dX12_again_37 : decode cX12_again 37 = .ok (.iload_n 2, 1) := by decide +kernel
theorem dX12_again_38 : decode cX12_again 38 = .ok (.aload_n 0, 1) := by decide +kernel
theorem dX12_again_39 : decode cX12_again 39 = .ok (.getfield 50, 3) := by decide +kernel
theorem dX12_again_42 : decode cX12_again 42 = .ok (.iload_n 1, 1) := by decide +kernel
theorem dX12_again_43 : decode cX12_again 43 = .ok (.iaload, 1) := by decide +kernel
theorem dX12_again_44 : decode cX12_again 44 = .ok (.if_icmp .ge 30, 3) := by decide +kernel
theorem dX12_again_47 : decode cX12_again 47 = .ok (.aload_n 0, 1) := by decide +kernel
theorem dX12_again_48 : decode cX12_again 48 = .ok (.aload_n 0, 1) := by decide +kernel
theorem dX12_again_49 : decode cX12_again 49 = .ok (.getfield 44, 3) := by decide +kernel
theorem dX12_again_52 : decode cX12_again 52 = .ok (.iload_n 1, 1) := by decide +kernel
theorem dX12_again_53 : decode cX12_again 53 = .ok (.iaload, 1) := by decide +kernel
theorem dX12_again_54 : decode cX12_again 54 = .ok (.iload_n 2, 1) := by decide +kernel
theorem dX12_again_55 : decode cX12_again 55 = .ok (.invokevirtual 217, 3) := by decide +kernel
theorem dX12_again_58 : decode cX12_again 58 = .ok (.ifCond .eq 10, 3) := by decide +kernel
theorem dX12_again_61 : decode cX12_again 61 = .ok (.aload_n 0, 1) := by decide +kernel
theorem dX12_again_62 : decode cX12_again 62 = .ok (.iload_n 1, 1) := by decide +kernel
theorem dX12_again_63 : decode cX12_again 63 = .ok (.bipush 6, 2) := by decide +kernel
theorem dX12_again_65 : decode cX12_again 65 = .ok (.invokevirtual 160, 3) := by decide +kernel
theorem dX12_again_68 : decode cX12_again 68 = .ok (.iinc 2 1, 3) := by decide +kernel
theorem dX12_again_71 : decode cX12_again 71 = .ok (.goto (-54), 3) := by decide +kernel
theorem dX12_again_74 : decode cX12_again 74 = .ok (.iinc 1 1, 3) := by decide +kernel
theorem dX12_again_77 : decode cX12_again 77 = .ok (.goto (-75), 3) := by decide +kernel
theorem dX12_again_80 : decode cX12_again 80 = .ok (.return_, 1) := by decide +kernel
theorem dX12_isLost_0 : decode cX12_isLost 0 = .ok (.aload_n 0, 1) := by decide +kernel
theorem dX12_isLost_1 : decode cX12_isLost 1 = .ok (.iload_n 1, 1) := by decide +kernel
theorem dX12_isLost_2 : decode cX12_isLost 2 = .ok (.iload_n 2, 1) := by decide +kernel
theorem dX12_isLost_3 : decode cX12_isLost 3 = .ok (.invokevirtual 192, 3) := by decide +kernel
theorem dX12_isLost_6 : decode cX12_isLost 6 = .ok (.istore_n 3, 1) := by decide +kernel
theorem dX12_isLost_7 : decode cX12_isLost 7 = .ok (.iconst 0, 1) := by decide +kernel
theorem dX12_isLost_8 : decode cX12_isLost 8 = .ok (.istore 4, 2) := by decide +kernel
theorem dX12_isLost_10 : decode cX12_isLost 10 = .ok (.aload_n 0, 1) := by decide +kernel
theorem dX12_isLost_11 : decode cX12_isLost 11 = .ok (.lconst 0, 1) := by decide +kernel
theorem dX12_isLost_12 : decode cX12_isLost 12 = .ok (.putfield 184, 3) := by decide +kernel
theorem dX12_isLost_15 : decode cX12_isLost 15 = .ok (.iload_n 3, 1) := by decide +kernel
theorem dX12_isLost_16 : decode cX12_isLost 16 = .ok (.ifCond .ne 73, 3) := by decide +kernel
theorem dX12_isLost_19 : decode cX12_isLost 19 = .ok (.aload_n 0, 1) := by decide +kernel
theorem dX12_isLost_20 : decode cX12_isLost 20 = .ok (.getfield 16, 3) := by decide +kernel
theorem dX12_isLost_23 : decode cX12_isLost 23 = .ok (.bipush 20, 2) := by decide +kernel
theorem dX12_isLost_25 : decode cX12_isLost 25 = .ok (.aload_n 0, 1) := by decide +kernel
theorem dX12_isLost_26 : decode cX12_isLost 26 = .ok (.getfield 53, 3) := by decide +kernel
theorem dX12_isLost_29 : decode cX12_isLost 29 = .ok (.iload_n 1, 1) := by decide +kernel
theorem dX12_isLost_30 : decode cX12_isLost 30 = .ok (.iaload, 1) := by decide +kernel
theorem dX12_isLost_31 : decode cX12_isLost 31 = .ok (.imul, 1) := by decide +kernel
theorem dX12_isLost_32 : decode cX12_isLost 32 = .ok (.iload_n 2, 1) := by decide +kernel
theorem dX12_isLost_33 : decode cX12_isLost 33 = .ok (.iadd, 1) := by decide +kernel
theorem dX12_isLost_34 : decode cX12_isLost 34 = .ok (.iaload, 1) := by decide +kernel
theorem dX12_isLost_35 : decode cX12_isLost 35 = .ok (.istore 5, 2) := by decide +kernel
theorem dX12_isLost_37 : decode cX12_isLost 37 = .ok (.iload 4, 2) := by decide +kernel
theorem dX12_isLost_39 : decode cX12_isLost 39 = .ok (.aload_n 0, 1) := by decide +kernel
theorem dX12_isLost_40 : decode cX12_isLost 40 = .ok (.getfield 19, 3) := by decide +kernel
theorem dX12_isLost_43 : decode cX12_isLost 43 = .ok (.iload 5, 2) := by decide +kernel
theorem dX12_isLost_45 : decode cX12_isLost 45 = .ok (.iaload, 1) := by decide +kernel
theorem dX12_isLost_46 : decode cX12_isLost 46 = .ok (.if_icmp .ge 31, 3) := by decide +kernel
theorem dX12_isLost_49 : decode cX12_isLost 49 = .ok (.aload_n 0, 1) := by decide +kernel
theorem dX12_isLost_50 : decode cX12_isLost 50 = .ok (.dup, 1) := by decide +kernel
theorem dX12_isLost_51 : decode cX12_isLost 51 = .ok (.getfield 184, 3) := by decide +kernel
theorem dX12_isLost_54 : decode cX12_isLost 54 = .ok (.aload_n 0, 1) := by decide +kernel
theorem dX12_isLost_55 : decode cX12_isLost 55 = .ok (.getfield 22, 3) := by decide +kernel
theorem dX12_isLost_58 : decode cX12_isLost 58 = .ok (.bipush 12, 2) := by decide +kernel
theorem dX12_isLost_60 : decode cX12_isLost 60 = .ok (.iload 5, 2) := by decide +kernel
theorem dX12_isLost_62 : decode cX12_isLost 62 = .ok (.imul, 1) := by decide +kernel
theorem dX12_isLost_63 : decode cX12_isLost 63 = .ok (.iload 4, 2) := by decide +kernel
theorem dX12_isLost_65 : decode cX12_isLost 65 = .ok (.iadd, 1) := by decide +kernel
theorem dX12_isLost_66 : decode cX12_isLost 66 = .ok (.laload, 1) := by decide +kernel
theorem dX12_isLost_67 : decode cX12_isLost 67 = .ok (.invokestatic 180, 3) := by decide +kernel
theorem dX12_isLost_70 : decode cX12_isLost 70 = .ok (.ladd, 1) := by decide +kernel
theorem dX12_isLost_71 : decode cX12_isLost 71 = .ok (.putfield 184, 3) := by decide +kernel
theorem dX12_isLost_74 : decode cX12_isLost 74 = .ok (.iinc 4 1, 3) := by decide +kernel
theorem dX12_isLost_77 : decode cX12_isLost 77 = .ok (.aload_n 0, 1) := by decide +kernel
theorem dX12_isLost_78 : decode cX12_isLost 78 = .ok (.iload_n 1, 1) := by decide +kernel
theorem dX12_isLost_79 : decode cX12_isLost 79 = .ok (.iload_n 2, 1) := by decide +kernel
theorem dX12_isLost_80 : decode cX12_isLost 80 = .ok (.iload 4, 2) := by decide +kernel
theorem dX12_isLost_82 : decode cX12_isLost 82 = .ok (.invokevirtual 195, 3) := by decide +kernel
theorem dX12_isLost_85 : decode cX12_isLost 85 = .ok (.istore_n 3, 1) := by decide +kernel
theorem dX12_isLost_86 : decode cX12_isLost 86 = .ok (.goto (-71), 3) := by decide +kernel
theorem dX12_isLost_89 : decode cX12_isLost 89 = .ok (.iload_n 3, 1) := by decide +kernel
theorem dX12_isLost_90 : decode cX12_isLost 90 = .ok (.ifCond .le 7, 3) := by decide +kernel
theorem dX12_isLost_93 : decode cX12_isLost 93 = .ok (.iconst 1, 1) := by decide +kernel
theorem dX12_isLost_94 : decode cX12_isLost 94 = .ok (.goto 4, 3) := by decide +kernel
theorem dX12_isLost_97 : decode cX12_isLost 97 = .ok (.iconst 0, 1) := by decide +kernel
theorem dX12_isLost_98 : decode cX12_isLost 98 = .ok (.ireturn, 1) := by decide +kernel
theorem dX12_run_0 : decode cX12_run 0 = .ok (.aload_n 0, 1) := by decide +kernel
theorem dX12_run_1 : decode cX12_run 1 = .ok (.iconst 0, 1) := by decide +kernel
theorem dX12_run_2 : decode cX12_run 2 = .ok (.putfield 96, 3) := by decide +kernel
theorem dX12_run_5 : decode cX12_run 5 = .ok (.iload_n 1, 1) := by decide +kernel
theorem dX12_run_6 : decode cX12_run 6 = .ok (.iconst 1, 1) := by decide +kernel
theorem dX12_run_7 : decode cX12_run 7 = .ok (.sipush 1000, 3) := by decide +kernel
theorem dX12_run_10 : decode cX12_run 10 = .ok (.invokestatic 107, 3) := by decide +kernel
theorem dX12_run_13 : decode cX12_run 13 = .ok (.ifCond .ne 5, 3) := by decide +kernel
theorem dX12_run_16 : decode cX12_run 16 = .ok (.iconst (-1), 1) := by decide +kernel
theorem dX12_run_17 : decode cX12_run 17 = .ok (.ireturn, 1) := by decide +kernel
theorem dX12_run_18 : decode cX12_run 18 = .ok (.aload_n 0, 1) := by decide +kernel
theorem dX12_run_19 : decode cX12_run 19 = .ok (.getfield 68, 3) := by decide +kernel
theorem dX12_run_22 : decode cX12_run 22 = .ok (.sipush 246, 3) := by decide +kernel
theorem dX12_run_25 : decode cX12_run 25 = .ok (.iaload, 1) := by decide +kernel
theorem dX12_run_26 : decode cX12_run 26 = .ok (.iconst 1, 1) := by decide +kernel
theorem dX12_run_27 : decode cX12_run 27 = .ok (.if_icmp .le 6, 3) := by decide +kernel
theorem dX12_run_30 : decode cX12_run 30 = .ok (.bipush (-2), 2) := by decide +kernel
theorem dX12_run_32 : decode cX12_run 32 = .ok (.ireturn, 1) := by decide +kernel
theorem dX12_run_33 : decode cX12_run 33 = .ok (.aload_n 0, 1) := by decide +kernel
theorem dX12_run_34 : decode cX12_run 34 = .ok (.getfield 68, 3) := by decide +kernel
theorem dX12_run_37 : decode cX12_run 37 = .ok (.sipush 246, 3) := by decide +kernel
theorem dX12_run_40 : decode cX12_run 40 = .ok (.iconst 1, 1) := by decide +kernel
theorem dX12_run_41 : decode cX12_run 41 = .ok (.iastore, 1) := by decide +kernel
theorem dX12_run_42 : decode cX12_run 42 = .ok (.iconst 0, 1) := by decide +kernel
theorem dX12_run_43 : decode cX12_run 43 = .ok (.istore_n 2, 1) := by decide +kernel
theorem dX12_run_44 : decode cX12_run 44 = .ok (.iload_n 2, 1) := by decide +kernel
theorem dX12_run_45 : decode cX12_run 45 = .ok (.iload_n 1, 1) := by decide +kernel
theorem dX12_run_46 : decode cX12_run 46 = .ok (.if_icmp .ge 61, 3) := by decide +kernel
theorem dX12_run_49 : decode cX12_run 49 = .ok (.aload_n 0, 1) := by decide +kernel
theorem dX12_run_50 : decode cX12_run 50 = .ok (.getfield 68, 3) := by decide +kernel
theorem dX12_run_53 : decode cX12_run 53 = .ok (.sipush 247, 3) := by decide +kernel
theorem dX12_run_56 : decode cX12_run 56 = .ok (.iaload, 1) := by decide +kernel
theorem dX12_run_57 : decode cX12_run 57 = .ok (.ifCond .le 50, 3) := by decide +kernel
theorem dX12_run_60 : decode cX12_run 60 = .ok (.aload_n 0, 1) := by decide +kernel
theorem dX12_run_61 : decode cX12_run 61 = .ok (.getfield 68, 3) := by decide +kernel
theorem dX12_run_64 : decode cX12_run 64 = .ok (.sipush 240, 3) := by decide +kernel
theorem dX12_run_67 : decode cX12_run 67 = .ok (.iaload, 1) := by decide +kernel
theorem dX12_run_68 : decode cX12_run 68 = .ok (.istore_n 3, 1) := by decide +kernel
theorem dX12_run_69 : decode cX12_run 69 = .ok (.aload_n 0, 1) := by decide +kernel
theorem dX12_run_70 : decode cX12_run 70 = .ok (.iload_n 3, 1) := by decide +kernel
theorem dX12_run_71 : decode cX12_run 71 = .ok (.aload_n 0, 1) := by decide +kernel
theorem dX12_run_72 : decode cX12_run 72 = .ok (.getfield 151, 3) := by decide +kernel
theorem dX12_run_75 : decode cX12_run 75 = .ok (.if_icmp .ge 12, 3) := by decide +kernel
theorem dX12_run_78 : decode cX12_run 78 = .ok (.aload_n 0, 1) := by decide +kernel
theorem dX12_run_79 : decode cX12_run 79 = .ok (.getfield 65, 3) := by decide +kernel
theorem dX12_run_82 : decode cX12_run 82 = .ok (.iload_n 3, 1) := by decide +kernel
theorem dX12_run_83 : decode cX12_run 83 = .ok (.iaload, 1) := by decide +kernel
theorem dX12_run_84 : decode cX12_run 84 = .ok (.goto 14, 3) := by decide +kernel
theorem dX12_run_87 : decode cX12_run 87 = .ok (.iload_n 3, 1) := by decide +kernel
theorem dX12_run_88 : decode cX12_run 88 = .ok (.aload_n 0, 1) := by decide +kernel
theorem dX12_run_89 : decode cX12_run 89 = .ok (.getfield 151, 3) := by decide +kernel
theorem dX12_run_92 : decode cX12_run 92 = .ok (.isub, 1) := by decide +kernel
theorem dX12_run_93 : decode cX12_run 93 = .ok (.aload_n 0, 1) := by decide +kernel
theorem dX12_run_94 : decode cX12_run 94 = .ok (.getfield 86, 3) := by decide +kernel
theorem dX12_run_97 : decode cX12_run 97 = .ok (.irem, 1) := by decide +kernel
theorem dX12_run_98 : decode cX12_run 98 = .ok (.invokevirtual 220, 3) := by decide +kernel
theorem dX12_run_101 : decode cX12_run 101 = .ok (.iinc 2 1, 3) := by decide +kernel
theorem dX12_run_104 : decode cX12_run 104 = .ok (.goto (-60), 3) := by decide +kernel
theorem dX12_run_107 : decode cX12_run 107 = .ok (.aload_n 0, 1) := by decide +kernel
theorem dX12_run_108 : decode cX12_run 108 = .ok (.getfield 68, 3) := by decide +kernel
theorem dX12_run_111 : decode cX12_run 111 = .ok (.sipush 247, 3) := by decide +kernel
theorem dX12_run_114 : decode cX12_run 114 = .ok (.iaload, 1) := by decide +kernel
theorem dX12_run_115 : decode cX12_run 115 = .ok (.ifCond .le 5, 3) := by decide +kernel
theorem dX12_run_118 : decode cX12_run 118 = .ok (.iconst 0, 1) := by decide +kernel
theorem dX12_run_119 : decode cX12_run 119 = .ok (.ireturn, 1) := by decide +kernel
theorem dX12_run_120 : decode cX12_run 120 = .ok (.aload_n 0, 1) := by decide +kernel
theorem dX12_run_121 : decode cX12_run 121 = .ok (.invokevirtual 223, 3) := by decide +kernel
theorem dX12_run_124 : decode cX12_run 124 = .ok (.aload_n 0, 1) := by decide +kernel
theorem dX12_run_125 : decode cX12_run 125 = .ok (.getfield 68, 3) := by decide +kernel
theorem dX12_run_128 : decode cX12_run 128 = .ok (.sipush 246, 3) := by decide +kernel
theorem dX12_run_131 : decode cX12_run 131 = .ok (.iconst 2, 1) := by decide +kernel
theorem dX12_run_132 : decode cX12_run 132 = .ok (.iastore, 1) := by decide +kernel
theorem dX12_run_133 : decode cX12_run 133 = .ok (.aload_n 0, 1) := by decide +kernel
theorem dX12_run_134 : decode cX12_run 134 = .ok (.getfield 68, 3) := by decide +kernel
theorem dX12_run_137 : decode cX12_run 137 = .ok (.sipush 245, 3) := by decide +kernel
theorem dX12_run_140 : decode cX12_run 140 = .ok (.iaload, 1) := by decide +kernel
theorem dX12_run_141 : decode cX12_run 141 = .ok (.bipush (-9), 2) := by decide +kernel
theorem dX12_run_143 : decode cX12_run 143 = .ok (.if_icmp .eq 7, 3) := by decide +kernel
theorem dX12_run_146 : decode cX12_run 146 = .ok (.iconst 1, 1) := by decide +kernel
theorem dX12_run_147 : decode cX12_run 147 = .ok (.goto 4, 3) := by decide +kernel
theorem dX12_run_150 : decode cX12_run 150 = .ok (.iconst 2, 1) := by decide +kernel
theorem dX12_run_151 : decode cX12_run 151 = .ok (.ireturn, 1) := by decide +kernel
theorem dX12_interrupt_0 : decode cX12_interrupt 0 = .ok (.aload_n 0, 1) := by decide +kernel
theorem dX12_interrupt_1 : decode cX12_interrupt 1 = .ok (.iconst 0, 1) := by decide +kernel
theorem dX12_interrupt_2 : decode cX12_interrupt 2 = .ok (.putfield 96, 3) := by decide +kernel
theorem dX12_interrupt_5 : decode cX12_interrupt 5 = .ok (.aload_n 0, 1) := by decide +kernel
theorem dX12_interrupt_6 : decode cX12_interrupt 6 = .ok (.iload_n 1, 1) := by decide +kernel
theorem dX12_interrupt_7 : decode cX12_interrupt 7 = .ok (.invokevirtual 226, 3) := by decide +kernel
theorem dX12_interrupt_10 : decode cX12_interrupt 10 = .ok (.ifCond .ne 5, 3) := by decide +kernel
theorem dX12_interrupt_13 : decode cX12_interrupt 13 = .ok (.iconst (-1), 1) := by decide +kernel
theorem dX12_interrupt_14 : decode cX12_interrupt 14 = .ok (.ireturn, 1) := by decide +kernel
theorem dX12_interrupt_15 : decode cX12_interrupt 15 = .ok (.aload_n 0, 1) := by decide +kernel
theorem dX12_interrupt_16 : decode cX12_interrupt 16 = .ok (.invokevirtual 114, 3) := by decide +kernel
theorem dX12_interrupt_19 : decode cX12_interrupt 19 = .ok (.ifCond .ne 6, 3) := by decide +kernel
theorem dX12_interrupt_22 : decode cX12_interrupt 22 = .ok (.bipush (-2), 2) := by decide +kernel
theorem dX12_interrupt_24 : decode cX12_interrupt 24 = .ok (.ireturn, 1) := by decide +kernel
theorem dX12_interrupt_25 : decode cX12_interrupt 25 = .ok (.aload_n 0, 1) := by decide +kernel
theorem dX12_interrupt_26 : decode cX12_interrupt 26 = .ok (.iload_n 1, 1) := by decide +kernel
theorem dX12_interrupt_27 : decode cX12_interrupt 27 = .ok (.iconst 0, 1) := by decide +kernel
theorem dX12_interrupt_28 : decode cX12_interrupt 28 = .ok (.invokevirtual 173, 3) := by decide +kernel
theorem dX12_interrupt_31 : decode cX12_interrupt 31 = .ok (.ifCond .ne 16, 3) := by decide +kernel
theorem dX12_interrupt_34 : decode cX12_interrupt 34 = .ok (.aload_n 0, 1) := by decide +kernel
theorem dX12_interrupt_35 : decode cX12_interrupt 35 = .ok (.iload_n 1, 1) := by decide +kernel
theorem dX12_interrupt_36 : decode cX12_interrupt 36 = .ok (.bipush 6, 2) := by decide +kernel
theorem dX12_interrupt_38 : decode cX12_interrupt 38 = .ok (.invokevirtual 202, 3) := by decide +kernel
theorem dX12_interrupt_41 : decode cX12_interrupt 41 = .ok (.aload_n 0, 1) := by decide +kernel
theorem dX12_interrupt_42 : decode cX12_interrupt 42 = .ok (.invokevirtual 214, 3) := by decide +kernel
theorem dX12_interrupt_45 : decode cX12_interrupt 45 = .ok (.iconst 1, 1) := by decide +kernel
theorem dX12_interrupt_46 : decode cX12_interrupt 46 = .ok (.ireturn, 1) := by decide +kernel
theorem dX12_interrupt_47 : decode cX12_interrupt 47 = .ok (.aload_n 0, 1) := by decide +kernel
theorem dX12_interrupt_48 : decode cX12_interrupt 48 = .ok (.iload_n 1, 1) := by decide +kernel
theorem dX12_interrupt_49 : decode cX12_interrupt 49 = .ok (.iconst 0, 1) := by decide +kernel
theorem dX12_interrupt_50 : decode cX12_interrupt 50 = .ok (.invokevirtual 173, 3) := by decide +kernel
theorem dX12_interrupt_53 : decode cX12_interrupt 53 = .ok (.iconst 1, 1) := by decide +kernel
theorem dX12_interrupt_54 : decode cX12_interrupt 54 = .ok (.if_icmp .ne 13, 3) := by decide +kernel
theorem dX12_interrupt_57 : decode cX12_interrupt 57 = .ok (.aload_n 0, 1) := by decide +kernel
theorem dX12_interrupt_58 : decode cX12_interrupt 58 = .ok (.iload_n 1, 1) := by decide +kernel
theorem dX12_interrupt_59 : decode cX12_interrupt 59 = .ok (.bipush 11, 2) := by decide +kernel
theorem dX12_interrupt_61 : decode cX12_interrupt 61 = .ok (.iconst 1, 1) := by decide +kernel
theorem dX12_interrupt_62 : decode cX12_interrupt 62 = .ok (.invokevirtual 154, 3) := by decide +kernel
theorem dX12_interrupt_65 : decode cX12_interrupt 65 = .ok (.iconst 1, 1) := by decide +kernel
theorem dX12_interrupt_66 : decode cX12_interrupt 66 = .ok (.ireturn, 1) := by decide +kernel
theorem dX12_interrupt_67 : decode cX12_interrupt 67 = .ok (.iconst 0, 1) := by decide +kernel
theorem dX12_interrupt_68 : decode cX12_interrupt 68 = .ok (.ireturn, 1) := by decide +kernel
theorem dX12_close_0 : decode cX12_close 0 = .ok (.aload_n 0, 1) := by decide +kernel
theorem dX12_close_1 : decode cX12_close 1 = .ok (.iconst 0, 1) := by decide +kernel
theorem dX12_close_2 : decode cX12_close 2 = .ok (.putfield 96, 3) := by decide +kernel
theorem dX12_close_5 : decode cX12_close 5 = .ok (.aload_n 0, 1) := by decide +kernel
theorem dX12_close_6 : decode cX12_close 6 = .ok (.invokevirtual 114, 3) := by decide +kernel
theorem dX12_close_9 : decode cX12_close 9 = .ok (.ifCond .ne 6, 3) := by decide +kernel
theorem dX12_close_12 : decode cX12_close 12 = .ok (.bipush (-2), 2) := by decide +kernel
theorem dX12_close_14 : decode cX12_close 14 = .ok (.ireturn, 1) := by decide +kernel
theorem dX12_close_15 : decode cX12_close 15 = .ok (.iconst 0, 1) := by decide +kernel
theorem dX12_close_16 : decode cX12_close 16 = .ok (.istore_n 1, 1) := by decide +kernel
theorem dX12_close_17 : decode cX12_close 17 = .ok (.aload_n 0, 1) := by decide +kernel
theorem dX12_close_18 : decode cX12_close 18 = .ok (.getfield 86, 3) := by decide +kernel
theorem dX12_close_21 : decode cX12_close 21 = .ok (.iconst 1, 1) := by decide +kernel
theorem dX12_close_22 : decode cX12_close 22 = .ok (.isub, 1) := by decide +kernel
theorem dX12_close_23 : decode cX12_close 23 = .ok (.istore_n 2, 1) := by decide +kernel
theorem dX12_close_24 : decode cX12_close 24 = .ok (.iload_n 2, 1) := by decide +kernel
theorem dX12_close_25 : decode cX12_close 25 = .ok (.ifCond .lt 43, 3) := by decide +kernel
theorem dX12_close_28 : decode cX12_close 28 = .ok (.aload_n 0, 1) := by decide +kernel
theorem dX12_close_29 : decode cX12_close 29 = .ok (.getfield 68, 3) := by decide +kernel
theorem dX12_close_32 : decode cX12_close 32 = .ok (.sipush 250, 3) := by decide +kernel
theorem dX12_close_35 : decode cX12_close 35 = .ok (.iload_n 2, 1) := by decide +kernel
theorem dX12_close_36 : decode cX12_close 36 = .ok (.iadd, 1) := by decide +kernel
theorem dX12_close_37 : decode cX12_close 37 = .ok (.iaload, 1) := by decide +kernel
theorem dX12_close_38 : decode cX12_close 38 = .ok (.bipush (-9), 2) := by decide +kernel
theorem dX12_close_40 : decode cX12_close 40 = .ok (.if_icmp .eq 22, 3) := by decide +kernel
theorem dX12_close_43 : decode cX12_close 43 = .ok (.aload_n 0, 1) := by decide +kernel
theorem dX12_close_44 : decode cX12_close 44 = .ok (.aload_n 0, 1) := by decide +kernel
theorem dX12_close_45 : decode cX12_close 45 = .ok (.getfield 68, 3) := by decide +kernel
theorem dX12_close_48 : decode cX12_close 48 = .ok (.sipush 250, 3) := by decide +kernel
theorem dX12_close_51 : decode cX12_close 51 = .ok (.iload_n 2, 1) := by decide +kernel
theorem dX12_close_52 : decode cX12_close 52 = .ok (.iadd, 1) := by decide +kernel
theorem dX12_close_53 : decode cX12_close 53 = .ok (.iaload, 1) := by decide +kernel
theorem dX12_close_54 : decode cX12_close 54 = .ok (.iconst 5, 1) := by decide +kernel
theorem dX12_close_55 : decode cX12_close 55 = .ok (.iload_n 2, 1) := by decide +kernel
theorem dX12_close_56 : decode cX12_close 56 = .ok (.invokevirtual 211, 3) := by decide +kernel
theorem dX12_close_59 : decode cX12_close 59 = .ok (.iinc 1 1, 3) := by decide +kernel
theorem dX12_close_62 : decode cX12_close 62 = .ok (.iinc 2 (-1), 3) := by decide +kernel
theorem dX12_close_65 : decode cX12_close 65 = .ok (.goto (-41), 3) := by decide +kernel
theorem dX12_close_68 : decode cX12_close 68 = .ok (.iconst 0, 1) := by decide +kernel
theorem dX12_close_69 : decode cX12_close 69 = .ok (.istore_n 2, 1) := by decide +kernel
theorem dX12_close_70 : decode cX12_close 70 = .ok (.iload_n 2, 1) := by decide +kernel
theorem dX12_close_71 : decode cX12_close 71 = .ok (.aload_n 0, 1) := by decide +kernel
theorem dX12_close_72 : decode cX12_close 72 = .ok (.getfield 101, 3) := by decide +kernel
theorem dX12_close_75 : decode cX12_close 75 = .ok (.if_icmp .ge 27, 3) := by decide +kernel
theorem dX12_close_78 : decode cX12_close 78 = .ok (.aload_n 0, 1) := by decide +kernel
theorem dX12_close_79 : decode cX12_close 79 = .ok (.iload_n 2, 1) := by decide +kernel
theorem dX12_close_80 : decode cX12_close 80 = .ok (.iconst 0, 1) := by decide +kernel
theorem dX12_close_81 : decode cX12_close 81 = .ok (.invokevirtual 173, 3) := by decide +kernel
theorem dX12_close_84 : decode cX12_close 84 = .ok (.ifCond .ne 12, 3) := by decide +kernel
theorem dX12_close_87 : decode cX12_close 87 = .ok (.aload_n 0, 1) := by decide +kernel
theorem dX12_close_88 : decode cX12_close 88 = .ok (.iload_n 2, 1) := by decide +kernel
theorem dX12_close_89 : decode cX12_close 89 = .ok (.iconst 5, 1) := by decide +kernel
