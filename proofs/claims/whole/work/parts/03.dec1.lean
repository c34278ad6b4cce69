theorem dX0_init_0 : decode cX0_init 0 = .ok (.aload_n 0, 1) := by decide +kernel
theorem dX0_init_1 : decode cX0_init 1 = .ok (.invokespecial 3, 3) := by decide +kernel
theorem dX0_init_4 : decode cX0_init 4 = .ok (.aload_n 0, 1) := by decide +kernel
theorem dX0_init_5 : decode cX0_init 5 = .ok (.bipush 20, 2) := by decide +kernel
theorem dX0_init_7 : decode cX0_init 7 = .ok (.anewarray 9, 3) := by decide +kernel
theorem dX0_init_10 : decode cX0_init 10 = .ok (.putfield 11, 3) := by decide +kernel
theorem dX0_init_13 : decode cX0_init 13 = .ok (.aload_n 0, 1) := by decide +kernel
theorem dX0_init_14 : decode cX0_init 14 = .ok (.bipush 8, 2) := by decide +kernel
theorem dX0_init_16 : decode cX0_init 16 = .ok (.anewarray 17, 3) := by decide +kernel
theorem dX0_init_19 : decode cX0_init 19 = .ok (.putfield 19, 3) := by decide +kernel
theorem dX0_init_22 : decode cX0_init 22 = .ok (.aload_n 0, 1) := by decide +kernel
theorem dX0_init_23 : decode cX0_init 23 = .ok (.new 9, 3) := by decide +kernel
theorem dX0_init_26 : decode cX0_init 26 = .ok (.dup, 1) := by decide +kernel
theorem dX0_init_27 : decode cX0_init 27 = .ok (.invokespecial 23, 3) := by decide +kernel
theorem dX0_init_30 : decode cX0_init 30 = .ok (.putfield 24, 3) := by decide +kernel
theorem dX0_init_33 : decode cX0_init 33 = .ok (.aload_n 0, 1) := by decide +kernel
theorem dX0_init_34 : decode cX0_init 34 = .ok (.bipush 6, 2) := by decide +kernel
theorem dX0_init_36 : decode cX0_init 36 = .ok (.newarray .int, 2) := by decide +kernel
theorem dX0_init_38 : decode cX0_init 38 = .ok (.putfield 28, 3) := by decide +kernel
theorem dX0_init_41 : decode cX0_init 41 = .ok (.aload_n 0, 1) := by decide +kernel
theorem dX0_init_42 : decode cX0_init 42 = .ok (.bipush 6, 2) := by decide +kernel
theorem dX0_init_44 : decode cX0_init 44 = .ok (.newarray .int, 2) := by decide +kernel
theorem dX0_init_46 : decode cX0_init 46 = .ok (.putfield 32, 3) := by decide +kernel
theorem dX0_init_49 : decode cX0_init 49 = .ok (.aload_n 0, 1) := by decide +kernel
theorem dX0_init_50 : decode cX0_init 50 = .ok (.bipush 40, 2) := by decide +kernel
theorem dX0_init_52 : decode cX0_init 52 = .ok (.newarray .int, 2) := by decide +kernel
theorem dX0_init_54 : decode cX0_init 54 = .ok (.putfield 35, 3) := by decide +kernel
theorem dX0_init_57 : decode cX0_init 57 = .ok (.aload_n 0, 1) := by decide +kernel
theorem dX0_init_58 : decode cX0_init 58 = .ok (.iconst 1, 1) := by decide +kernel
theorem dX0_init_59 : decode cX0_init 59 = .ok (.putfield 38, 3) := by decide +kernel
theorem dX0_init_62 : decode cX0_init 62 = .ok (.aload_n 0, 1) := by decide +kernel
theorem dX0_init_63 : decode cX0_init 63 = .ok (.aload_n 1, 1) := by decide +kernel
theorem dX0_init_64 : decode cX0_init 64 = .ok (.putfield 42, 3) := by decide +kernel
theorem dX0_init_67 : decode cX0_init 67 = .ok (.aload_n 0, 1) := by decide +kernel
theorem dX0_init_68 : decode cX0_init 68 = .ok (.iload_n 2, 1) := by decide +kernel
theorem dX0_init_69 : decode cX0_init 69 = .ok (.putfield 46, 3) := by decide +kernel
theorem dX0_init_72 : decode cX0_init 72 = .ok (.aload_n 0, 1) := by decide +kernel
theorem dX0_init_73 : decode cX0_init 73 = .ok (.iload_n 3, 1) := by decide +kernel
theorem dX0_init_74 : decode cX0_init 74 = .ok (.putfield 49, 3) := by decide +kernel
theorem dX0_init_77 : decode cX0_init 77 = .ok (.iconst 0, 1) := by decide +kernel
theorem dX0_init_78 : decode cX0_init 78 = .ok (.istore 4, 2) := by decide +kernel
theorem dX0_init_80 : decode cX0_init 80 = .ok (.iload 4, 2) := by decide +kernel
theorem dX0_init_82 : decode cX0_init 82 = .ok (.bipush 20, 2) := by decide +kernel
theorem dX0_init_84 : decode cX0_init 84 = .ok (.if_icmp .ge 23, 3) := by decide +kernel
theorem dX0_init_87 : decode cX0_init 87 = .ok (.aload_n 0, 1) := by decide +kernel
theorem dX0_init_88 : decode cX0_init 88 = .ok (.getfield 11, 3) := by decide +kernel
theorem dX0_init_91 : decode cX0_init 91 = .ok (.iload 4, 2) := by decide +kernel
theorem dX0_init_93 : decode cX0_init 93 = .ok (.new 9, 3) := by decide +kernel
theorem dX0_init_96 : decode cX0_init 96 = .ok (.dup, 1) := by decide +kernel
theorem dX0_init_97 : decode cX0_init 97 = .ok (.invokespecial 23, 3) := by decide +kernel
theorem dX0_init_100 : decode cX0_init 100 = .ok (.aastore, 1) := by decide +kernel
theorem dX0_init_101 : decode cX0_init 101 = .ok (.iinc 4 1, 3) := by decide +kernel
theorem dX0_init_104 : decode cX0_init 104 = .ok (.goto (-24), 3) := by decide +kernel
theorem dX0_init_107 : decode cX0_init 107 = .ok (.iconst 0, 1) := by decide +kernel
theorem dX0_init_108 : decode cX0_init 108 = .ok (.istore 4, 2) := by decide +kernel
theorem dX0_init_110 : decode cX0_init 110 = .ok (.iload 4, 2) := by decide +kernel
theorem dX0_init_112 : decode cX0_init 112 = .ok (.bipush 8, 2) := by decide +kernel
theorem dX0_init_114 : decode cX0_init 114 = .ok (.if_icmp .ge 23, 3) := by decide +kernel
theorem dX0_init_117 : decode cX0_init 117 = .ok (.aload_n 0, 1) := by decide +kernel
theorem dX0_init_118 : decode cX0_init 118 = .ok (.getfield 19, 3) := by decide +kernel
theorem dX0_init_121 : decode cX0_init 121 = .ok (.iload 4, 2) := by decide +kernel
theorem dX0_init_123 : decode cX0_init 123 = .ok (.new 17, 3) := by decide +kernel
theorem dX0_init_126 : decode cX0_init 126 = .ok (.dup, 1) := by decide +kernel
theorem dX0_init_127 : decode cX0_init 127 = .ok (.invokespecial 53, 3) := by decide +kernel
theorem dX0_init_130 : decode cX0_init 130 = .ok (.aastore, 1) := by decide +kernel
theorem dX0_init_131 : decode cX0_init 131 = .ok (.iinc 4 1, 3) := by decide +kernel
theorem dX0_init_134 : decode cX0_init 134 = .ok (.goto (-24), 3) := by decide +kernel
theorem dX0_init_137 : decode cX0_init 137 = .ok (.return_, 1) := by decide +kernel
theorem dX0_begin_0 : decode cX0_begin 0 = .ok (.iconst 0, 1) := by decide +kernel
theorem dX0_begin_1 : decode cX0_begin 1 = .ok (.istore_n 2, 1) := by decide +kernel
theorem dX0_begin_2 : decode cX0_begin 2 = .ok (.iload_n 2, 1) := by decide +kernel
theorem dX0_begin_3 : decode cX0_begin 3 = .ok (.bipush 20, 2) := by decide +kernel
theorem dX0_begin_5 : decode cX0_begin 5 = .ok (.if_icmp .ge 18, 3) := by decide +kernel
theorem dX0_begin_8 : decode cX0_begin 8 = .ok (.aload_n 0, 1) := by decide +kernel
theorem dX0_begin_9 : decode cX0_begin 9 = .ok (.getfield 11, 3) := by decide +kernel
theorem dX0_begin_12 : decode cX0_begin 12 = .ok (.iload_n 2, 1) := by decide +kernel
theorem dX0_begin_13 : decode cX0_begin 13 = .ok (.aaload, 1) := by decide +kernel
theorem dX0_begin_14 : decode cX0_begin 14 = .ok (.invokevirtual 54, 3) := by decide +kernel
theorem dX0_begin_17 : decode cX0_begin 17 = .ok (.iinc 2 1, 3) := by decide +kernel
theorem dX0_begin_20 : decode cX0_begin 20 = .ok (.goto (-18), 3) := by decide +kernel
theorem dX0_begin_23 : decode cX0_begin 23 = .ok (.iconst 0, 1) := by decide +kernel
theorem dX0_begin_24 : decode cX0_begin 24 = .ok (.istore_n 2, 1) := by decide +kernel
theorem dX0_begin_25 : decode cX0_begin 25 = .ok (.iload_n 2, 1) := by decide +kernel
theorem dX0_begin_26 : decode cX0_begin 26 = .ok (.aload_n 0, 1) := by decide +kernel
theorem dX0_begin_27 : decode cX0_begin 27 = .ok (.getfield 42, 3) := by decide +kernel
theorem dX0_begin_30 : decode cX0_begin 30 = .ok (.getfield 57, 3) := by decide +kernel
theorem dX0_begin_33 : decode cX0_begin 33 = .ok (.if_icmp .ge 30, 3) := by decide +kernel
theorem dX0_begin_36 : decode cX0_begin 36 = .ok (.aload_n 0, 1) := by decide +kernel
theorem dX0_begin_37 : decode cX0_begin 37 = .ok (.getfield 19, 3) := by decide +kernel
theorem dX0_begin_40 : decode cX0_begin 40 = .ok (.iload_n 2, 1) := by decide +kernel
theorem dX0_begin_41 : decode cX0_begin 41 = .ok (.aaload, 1) := by decide +kernel
theorem dX0_begin_42 : decode cX0_begin 42 = .ok (.aload_n 0, 1) := by decide +kernel
theorem dX0_begin_43 : decode cX0_begin 43 = .ok (.getfield 42, 3) := by decide +kernel
theorem dX0_begin_46 : decode cX0_begin 46 = .ok (.getfield 62, 3) := by decide +kernel
theorem dX0_begin_49 : decode cX0_begin 49 = .ok (.iload_n 2, 1) := by decide +kernel
theorem dX0_begin_50 : decode cX0_begin 50 = .ok (.aaload, 1) := by decide +kernel
theorem dX0_begin_51 : decode cX0_begin 51 = .ok (.getfield 66, 3) := by decide +kernel
theorem dX0_begin_54 : decode cX0_begin 54 = .ok (.invokevirtual 72, 3) := by decide +kernel
theorem dX0_begin_57 : decode cX0_begin 57 = .ok (.iinc 2 1, 3) := by decide +kernel
theorem dX0_begin_60 : decode cX0_begin 60 = .ok (.goto (-35), 3) := by decide +kernel
theorem dX0_begin_63 : decode cX0_begin 63 = .ok (.iconst 0, 1) := by decide +kernel
theorem dX0_begin_64 : decode cX0_begin 64 = .ok (.istore_n 2, 1) := by decide +kernel
theorem dX0_begin_65 : decode cX0_begin 65 = .ok (.iload_n 2, 1) := by decide +kernel
theorem dX0_begin_66 : decode cX0_begin 66 = .ok (.bipush 6, 2) := by decide +kernel
theorem dX0_begin_68 : decode cX0_begin 68 = .ok (.if_icmp .ge 24, 3) := by decide +kernel
theorem dX0_begin_71 : decode cX0_begin 71 = .ok (.aload_n 0, 1) := by decide +kernel
theorem dX0_begin_72 : decode cX0_begin 72 = .ok (.getfield 28, 3) := by decide +kernel
theorem dX0_begin_75 : decode cX0_begin 75 = .ok (.iload_n 2, 1) := by decide +kernel
theorem dX0_begin_76 : decode cX0_begin 76 = .ok (.bipush (-9), 2) := by decide +kernel
theorem dX0_begin_78 : decode cX0_begin 78 = .ok (.iastore, 1) := by decide +kernel
theorem dX0_begin_79 : decode cX0_begin 79 = .ok (.aload_n 0, 1) := by decide +kernel
theorem dX0_begin_80 : decode cX0_begin 80 = .ok (.getfield 32, 3) := by decide +kernel
theorem dX0_begin_83 : decode cX0_begin 83 = .ok (.iload_n 2, 1) := by decide +kernel
theorem dX0_begin_84 : decode cX0_begin 84 = .ok (.iconst 0, 1) := by decide +kernel
theorem dX0_begin_85 : decode cX0_begin 85 = .ok (.iastore, 1) := by decide +kernel
theorem dX0_begin_86 : decode cX0_begin 86 = .ok (.iinc 2 1, 3) := by decide +kernel
theorem dX0_begin_89 : decode cX0_begin 89 = .ok (.goto (-24), 3) := by decide +kernel
theorem dX0_begin_92 : decode cX0_begin 92 = .ok (.aload_n 0, 1) := by decide +kernel
theorem dX0_begin_93 : decode cX0_begin 93 = .ok (.iload_n 1, 1) := by decide +kernel
theorem dX0_begin_94 : decode cX0_begin 94 = .ok (.putfield 38, 3) := by decide +kernel
theorem dX0_begin_97 : decode cX0_begin 97 = .ok (.aload_n 0, 1) := by decide +kernel
theorem dX0_begin_98 : decode cX0_begin 98 = .ok (.iconst 0, 1) := by decide +kernel
theorem dX0_begin_99 : decode cX0_begin 99 = .ok (.putfield 75, 3) := by decide +kernel
theorem dX0_begin_102 : decode cX0_begin 102 = .ok (.aload_n 0, 1) := by decide +kernel
theorem dX0_begin_103 : decode cX0_begin 103 = .ok (.aload_n 0, 1) := by decide +kernel
theorem dX0_begin_104 : decode cX0_begin 104 = .ok (.getfield 46, 3) := by decide +kernel
theorem dX0_begin_107 : decode cX0_begin 107 = .ok (.putfield 78, 3) := by decide +kernel
theorem dX0_begin_110 : decode cX0_begin 110 = .ok (.aload_n 0, 1) := by decide +kernel
theorem dX0_begin_111 : decode cX0_begin 111 = .ok (.iconst 0, 1) := by decide +kernel
theorem dX0_begin_112 : decode cX0_begin 112 = .ok (.putfield 81, 3) := by decide +kernel
theorem dX0_begin_115 : decode cX0_begin 115 = .ok (.aload_n 0, 1) := by decide +kernel
theorem dX0_begin_116 : decode cX0_begin 116 = .ok (.iconst 0, 1) := by decide +kernel
theorem dX0_begin_117 : decode cX0_begin 117 = .ok (.putfield 84, 3) := by decide +kernel
theorem dX0_begin_120 : decode cX0_begin 120 = .ok (.aload_n 0, 1) := by decide +kernel
theorem dX0_begin_121 : decode cX0_begin 121 = .ok (.iconst 0, 1) := by decide +kernel
theorem dX0_begin_122 : decode cX0_begin 122 = .ok (.putfield 87, 3) := by decide +kernel
theorem dX0_begin_125 : decode cX0_begin 125 = .ok (.aload_n 0, 1) := by decide +kernel
theorem dX0_begin_126 : decode cX0_begin 126 = .ok (.bipush (-9), 2) := by decide +kernel
theorem dX0_begin_128 : decode cX0_begin 128 = .ok (.putfield 90, 3) := by decide +kernel
theorem dX0_begin_131 : decode cX0_begin 131 = .ok (.aload_n 0, 1) := by decide +kernel
theorem dX0_begin_132 : decode cX0_begin 132 = .ok (.iconst 0, 1) := by decide +kernel
theorem dX0_begin_133 : decode cX0_begin 133 = .ok (.putfield 93, 3) := by decide +kernel
theorem dX0_begin_136 : decode cX0_begin 136 = .ok (.aload_n 0, 1) := by decide +kernel
theorem dX0_begin_137 : decode cX0_begin 137 = .ok (.iconst 0, 1) := by decide +kernel
theorem dX0_begin_138 : decode cX0_begin 138 = .ok (.putfield 96, 3) := by decide +kernel
theorem dX0_begin_141 : decode cX0_begin 141 = .ok (.aload_n 0, 1) := by decide +kernel
theorem dX0_begin_142 : decode cX0_begin 142 = .ok (.iconst 0, 1) := by decide +kernel
theorem dX0_begin_143 : decode cX0_begin 143 = .ok (.putfield 99, 3) := by decide +kernel
theorem dX0_begin_146 : decode cX0_begin 146 = .ok (.return_, 1) := by decide +kernel
theorem dX0_goOn_0 : decode cX0_goOn 0 = .ok (.aload_n 0, 1) := by decide +kernel
theorem dX0_goOn_1 : decode cX0_goOn 1 = .ok (.getfield 93, 3) := by decide +kernel
theorem dX0_goOn_4 : decode cX0_goOn 4 = .ok (.ifCond .ne 19, 3) := by decide +kernel
theorem dX0_goOn_7 : decode cX0_goOn 7 = .ok (.aload_n 0, 1) := by decide +kernel
theorem dX0_goOn_8 : decode cX0_goOn 8 = .ok (.iconst 1, 1) := by decide +kernel
theorem dX0_goOn_9 : decode cX0_goOn 9 = .ok (.putfield 93, 3) := by decide +kernel
theorem dX0_goOn_12 : decode cX0_goOn 12 = .ok (.aload_n 0, 1) := by decide +kernel
theorem dX0_goOn_13 : decode cX0_goOn 13 = .ok (.aload_n 0, 1) := by decide +kernel
theorem dX0_goOn_14 : decode cX0_goOn 14 = .ok (.getfield 42, 3) := by decide +kernel
theorem dX0_goOn_17 : decode cX0_goOn 17 = .ok (.getfield 102, 3) := by decide +kernel
theorem dX0_goOn_20 : decode cX0_goOn 20 = .ok (.putfield 96, 3) := by decide +kernel
theorem dX0_goOn_23 : decode cX0_goOn 23 = .ok (.iconst 0, 1) := by decide +kernel
theorem dX0_goOn_24 : decode cX0_goOn 24 = .ok (.istore_n 2, 1) := by decide +kernel
theorem dX0_goOn_25 : decode cX0_goOn 25 = .ok (.iload_n 2, 1) := by decide +kernel
theorem dX0_goOn_26 : decode cX0_goOn 26 = .ok (.iload_n 1, 1) := by decide +kernel
theorem dX0_goOn_27 : decode cX0_goOn 27 = .ok (.if_icmp .ge 24, 3) := by decide +kernel
theorem dX0_goOn_30 : decode cX0_goOn 30 = .ok (.aload_n 0, 1) := by decide +kernel
theorem dX0_goOn_31 : decode cX0_goOn 31 = .ok (.getfield 96, 3) := by decide +kernel
theorem dX0_goOn_34 : decode cX0_goOn 34 = .ok (.ifCond .le 17, 3) := by decide +kernel
theorem dX0_goOn_37 : decode cX0_goOn 37 = .ok (.aload_n 0, 1) := by decide +kernel
theorem dX0_goOn_38 : decode cX0_goOn 38 = .ok (.aload_n 0, 1) := by decide +kernel
theorem dX0_goOn_39 : decode cX0_goOn 39 = .ok (.invokevirtual 105, 3) := by decide +kernel
theorem dX0_goOn_42 : decode cX0_goOn 42 = .ok (.invokevirtual 109, 3) := by decide +kernel
theorem dX0_goOn_45 : decode cX0_goOn 45 = .ok (.iinc 2 1, 3) := by decide +kernel
theorem dX0_goOn_48 : decode cX0_goOn 48 = .ok (.goto (-23), 3) := by decide +kernel
theorem dX0_goOn_51 : decode cX0_goOn 51 = .ok (.aload_n 0, 1) := by decide +kernel
theorem dX0_goOn_52 : decode cX0_goOn 52 = .ok (.getfield 96, 3) := by decide +kernel
theorem dX0_goOn_55 : decode cX0_goOn 55 = .ok (.ifCond .le 5, 3) := by decide +kernel
theorem dX0_goOn_58 : decode cX0_goOn 58 = .ok (.iconst 0, 1) := by decide +kernel
theorem dX0_goOn_59 : decode cX0_goOn 59 = .ok (.ireturn, 1) := by decide +kernel
theorem dX0_goOn_60 : decode cX0_goOn 60 = .ok (.aload_n 0, 1) := by decide +kernel
theorem dX0_goOn_61 : decode cX0_goOn 61 = .ok (.invokevirtual 113, 3) := by decide +kernel
theorem dX0_goOn_64 : decode cX0_goOn 64 = .ok (.aload_n 0, 1) := by decide +kernel
theorem dX0_goOn_65 : decode cX0_goOn 65 = .ok (.iconst 2, 1) := by decide +kernel
theorem dX0_goOn_66 : decode cX0_goOn 66 = .ok (.putfield 93, 3) := by decide +kernel
theorem dX0_goOn_69 : decode cX0_goOn 69 = .ok (.aload_n 0, 1) := by decide +kernel
theorem dX0_goOn_70 : decode cX0_goOn 70 = .ok (.getfield 90, 3) := by decide +kernel
theorem dX0_goOn_73 : decode cX0_goOn 73 = .ok (.bipush (-9), 2) := by decide +kernel
theorem dX0_goOn_75 : decode cX0_goOn 75 = .ok (.if_icmp .ne 7, 3) := by decide +kernel
theorem dX0_goOn_78 : decode cX0_goOn 78 = .ok (.iconst 2, 1) := by decide +kernel
theorem dX0_goOn_79 : decode cX0_goOn 79 = .ok (.goto 4, 3) := by decide +kernel
theorem dX0_goOn_82 : decode cX0_goOn 82 = .ok (.iconst 1, 1) := by decide +kernel
theorem dX0_goOn_83 : decode cX0_goOn 83 = .ok (.ireturn, 1) := by decide +kernel
theorem dX0_nextThread_0 : decode cX0_nextThread 0 = .ok (.aload_n 0, 1) := by decide +kernel
theorem dX0_nextThread_1 : decode cX0_nextThread 1 = .ok (.getfield 49, 3) := by decide +kernel
theorem dX0_nextThread_4 : decode cX0_nextThread 4 = .ok (.ifCond .eq 13, 3) := by decide +kernel
theorem dX0_nextThread_7 : decode cX0_nextThread 7 = .ok (.aload_n 0, 1) := by decide +kernel
theorem dX0_nextThread_8 : decode cX0_nextThread 8 = .ok (.getfield 42, 3) := by decide +kernel
theorem dX0_nextThread_11 : decode cX0_nextThread 11 = .ok (.getfield 116, 3) := by decide +kernel
theorem dX0_nextThread_14 : decode cX0_nextThread 14 = .ok (.goto 4, 3) := by decide +kernel
theorem dX0_nextThread_17 : decode cX0_nextThread 17 = .ok (.iconst 0, 1) := by decide +kernel
theorem dX0_nextThread_18 : decode cX0_nextThread 18 = .ok (.istore_n 1, 1) := by decide +kernel
theorem dX0_nextThread_19 : decode cX0_nextThread 19 = .ok (.aload_n 0, 1) := by decide +kernel
theorem dX0_nextThread_20 : decode cX0_nextThread 20 = .ok (.getfield 84, 3) := by decide +kernel
theorem dX0_nextThread_23 : decode cX0_nextThread 23 = .ok (.iload_n 1, 1) := by decide +kernel
theorem dX0_nextThread_24 : decode cX0_nextThread 24 = .ok (.if_icmp .ge 18, 3) := by decide +kernel
theorem dX0_nextThread_27 : decode cX0_nextThread 27 = .ok (.aload_n 0, 1) := by decide +kernel
theorem dX0_nextThread_28 : decode cX0_nextThread 28 = .ok (.getfield 42, 3) := by decide +kernel
theorem dX0_nextThread_31 : decode cX0_nextThread 31 = .ok (.getfield 119, 3) := by decide +kernel
theorem dX0_nextThread_34 : decode cX0_nextThread 34 = .ok (.aload_n 0, 1) := by decide +kernel
theorem dX0_nextThread_35 : decode cX0_nextThread 35 = .ok (.getfield 84, 3) := by decide +kernel
theorem dX0_nextThread_38 : decode cX0_nextThread 38 = .ok (.iaload, 1) := by decide +kernel
theorem dX0_nextThread_39 : decode cX0_nextThread 39 = .ok (.goto 14, 3) := by decide +kernel
theorem dX0_nextThread_42 : decode cX0_nextThread 42 = .ok (.aload_n 0, 1) := by decide +kernel
theorem dX0_nextThread_43 : decode cX0_nextThread 43 = .ok (.getfield 84, 3) := by decide +kernel
theorem dX0_nextThread_46 : decode cX0_nextThread 46 = .ok (.iload_n 1, 1) := by decide +kernel
theorem dX0_nextThread_47 : decode cX0_nextThread 47 = .ok (.isub, 1) := by decide +kernel
theorem dX0_nextThread_48 : decode cX0_nextThread 48 = .ok (.aload_n 0, 1) := by decide +kernel
theorem dX0_nextThread_49 : decode cX0_nextThread 49 = .ok (.getfield 38, 3) := by decide +kernel
theorem dX0_nextThread_52 : decode cX0_nextThread 52 = .ok (.irem, 1) := by decide +kernel
theorem dX0_nextThread_53 : decode cX0_nextThread 53 = .ok (.ireturn, 1) := by decide +kernel
theorem dX0_giveTurn_0 : decode cX0_giveTurn 0 = .ok (.aload_n 0, 1) := by decide +kernel
theorem dX0_giveTurn_1 : decode cX0_giveTurn 1 = .ok (.dup, 1) := by decide +kernel
theorem dX0_giveTurn_2 : decode cX0_giveTurn 2 = .ok (.getfield 84, 3) := by decide +kernel
theorem dX0_giveTurn_5 : decode cX0_giveTurn 5 = .ok (.iconst 1, 1) := by decide +kernel
theorem dX0_giveTurn_6 : decode cX0_giveTurn 6 = .ok (.iadd, 1) := by decide +kernel
theorem dX0_giveTurn_7 : decode cX0_giveTurn 7 = .ok (.putfield 84, 3) := by decide +kernel
theorem dX0_giveTurn_10 : decode cX0_giveTurn 10 = .ok (.aload_n 0, 1) := by decide +kernel
theorem dX0_giveTurn_11 : decode cX0_giveTurn 11 = .ok (.getfield 96, 3) := by decide +kernel
theorem dX0_giveTurn_14 : decode cX0_giveTurn 14 = .ok (.istore_n 2, 1) := by decide +kernel
theorem dX0_giveTurn_15 : decode cX0_giveTurn 15 = .ok (.aload_n 0, 1) := by decide +kernel
theorem dX0_giveTurn_16 : decode cX0_giveTurn 16 = .ok (.getfield 28, 3) := by decide +kernel
theorem dX0_giveTurn_19 : decode cX0_giveTurn 19 = .ok (.iload_n 1, 1) := by decide +kernel
theorem dX0_giveTurn_20 : decode cX0_giveTurn 20 = .ok (.iaload, 1) := by decide +kernel
theorem dX0_giveTurn_21 : decode cX0_giveTurn 21 = .ok (.bipush (-9), 2) := by decide +kernel
theorem dX0_giveTurn_23 : decode cX0_giveTurn 23 = .ok (.if_icmp .ne 11, 3) := by decide +kernel
theorem dX0_giveTurn_26 : decode cX0_giveTurn 26 = .ok (.aload_n 0, 1) := by decide +kernel
theorem dX0_giveTurn_27 : decode cX0_giveTurn 27 = .ok (.iload_n 1, 1) := by decide +kernel
theorem dX0_giveTurn_28 : decode cX0_giveTurn 28 = .ok (.invokevirtual 122, 3) := by decide +kernel
theorem dX0_giveTurn_31 : decode cX0_giveTurn 31 = .ok (.goto 14, 3) := by decide +kernel
theorem dX0_giveTurn_34 : decode cX0_giveTurn 34 = .ok (.aload_n 0, 1) := by decide +kernel
theorem dX0_giveTurn_35 : decode cX0_giveTurn 35 = .ok (.aload_n 0, 1) := by decide +kernel
theorem dX0_giveTurn_36 : decode cX0_giveTurn 36 = .ok (.getfield 28, 3) := by decide +kernel
theorem dX0_giveTurn_39 : decode cX0_giveTurn 39 = .ok (.iload_n 1, 1) := by decide +kernel
theorem dX0_giveTurn_40 : decode cX0_giveTurn 40 = .ok (.iaload, 1) := by decide +kernel
theorem dX0_giveTurn_41 : decode cX0_giveTurn 41 = .ok (.iload_n 1, 1) := by decide +kernel
theorem dX0_giveTurn_42 : decode cX0_giveTurn 42 = .ok (.invokevirtual 125, 3) := by decide +kernel
theorem dX0_giveTurn_45 : decode cX0_giveTurn 45 = .ok (.aload_n 0, 1) := by decide +kernel
theorem dX0_giveTurn_46 : decode cX0_giveTurn 46 = .ok (.getfield 96, 3) := by decide +kernel
theorem dX0_giveTurn_49 : decode cX0_giveTurn 49 = .ok (.iload_n 2, 1) := by decide +kernel
theorem dX0_giveTurn_50 : decode cX0_giveTurn 50 = .ok (.if_icmp .ge 7, 3) := by decide +kernel
theorem dX0_giveTurn_53 : decode cX0_giveTurn 53 = .ok (.aload_n 0, 1) := by decide +kernel
theorem dX0_giveTurn_54 : decode cX0_giveTurn 54 = .ok (.invokevirtual 129, 3) := by decide +kernel
theorem dX0_giveTurn_57 : decode cX0_giveTurn 57 = .ok (.return_, 1) := by decide +kernel
theorem dX0_takeNext_0 : decode cX0_takeNext 0 = .ok (.aload_n 0, 1) := by decide +kernel
theorem dX0_takeNext_1 : decode cX0_takeNext 1 = .ok (.invokevirtual 132, 3) := by decide +kernel
theorem dX0_takeNext_4 : decode cX0_takeNext 4 = .ok (.istore_n 2, 1) := by decide +kernel
theorem dX0_takeNext_5 : decode cX0_takeNext 5 = .ok (.iload_n 2, 1) := by decide +kernel
theorem dX0_takeNext_6 : decode cX0_takeNext 6 = .ok (.bipush (-9), 2) := by decide +kernel
theorem dX0_takeNext_8 : decode cX0_takeNext 8 = .ok (.if_icmp .ne 14, 3) := by decide +kernel
theorem dX0_takeNext_11 : decode cX0_takeNext 11 = .ok (.aload_n 0, 1) := by decide +kernel
theorem dX0_takeNext_12 : decode cX0_takeNext 12 = .ok (.dup, 1) := by decide +kernel
theorem dX0_takeNext_13 : decode cX0_takeNext 13 = .ok (.getfield 87, 3) := by decide +kernel
theorem dX0_takeNext_16 : decode cX0_takeNext 16 = .ok (.iconst 1, 1) := by decide +kernel
theorem dX0_takeNext_17 : decode cX0_takeNext 17 = .ok (.iadd, 1) := by decide +kernel
theorem dX0_takeNext_18 : decode cX0_takeNext 18 = .ok (.putfield 87, 3) := by decide +kernel
theorem dX0_takeNext_21 : decode cX0_takeNext 21 = .ok (.return_, 1) := by decide +kernel
theorem dX0_takeNext_22 : decode cX0_takeNext 22 = .ok (.aload_n 0, 1) := by decide +kernel
theorem dX0_takeNext_23 : decode cX0_takeNext 23 = .ok (.getfield 11, 3) := by decide +kernel
theorem dX0_takeNext_26 : decode cX0_takeNext 26 = .ok (.iload_n 2, 1) := by decide +kernel
theorem dX0_takeNext_27 : decode cX0_takeNext 27 = .ok (.aaload, 1) := by decide +kernel
theorem dX0_takeNext_28 : decode cX0_takeNext 28 = .ok (.astore_n 3, 1) := by decide +kernel
theorem dX0_takeNext_29 : decode cX0_takeNext 29 = .ok (.aload_n 3, 1) := by decide +kernel
theorem dX0_takeNext_30 : decode cX0_takeNext 30 = .ok (.iconst 1, 1) := by decide +kernel
theorem dX0_takeNext_31 : decode cX0_takeNext 31 = .ok (.putfield 135, 3) := by decide +kernel
theorem dX0_takeNext_34 : decode cX0_takeNext 34 = .ok (.aload_n 3, 1) := by decide +kernel
theorem dX0_takeNext_35 : decode cX0_takeNext 35 = .ok (.iload_n 1, 1) := by decide +kernel
theorem dX0_takeNext_36 : decode cX0_takeNext 36 = .ok (.putfield 138, 3) := by decide +kernel
theorem dX0_takeNext_39 : decode cX0_takeNext 39 = .ok (.aload_n 3, 1) := by decide +kernel
theorem dX0_takeNext_40 : decode cX0_takeNext 40 = .ok (.dup, 1) := by decide +kernel
theorem dX0_takeNext_41 : decode cX0_takeNext 41 = .ok (.getfield 141, 3) := by decide +kernel
theorem dX0_takeNext_44 : decode cX0_takeNext 44 = .ok (.iconst 1, 1) := by decide +kernel
theorem dX0_takeNext_45 : decode cX0_takeNext 45 = .ok (.iadd, 1) := by decide +kernel
theorem dX0_takeNext_46 : decode cX0_takeNext 46 = .ok (.putfield 141, 3) := by decide +kernel
theorem dX0_takeNext_49 : decode cX0_takeNext 49 = .ok (.aload_n 0, 1) := by decide +kernel
theorem dX0_takeNext_50 : decode cX0_takeNext 50 = .ok (.getfield 28, 3) := by decide +kernel
theorem dX0_takeNext_53 : decode cX0_takeNext 53 = .ok (.iload_n 1, 1) := by decide +kernel
theorem dX0_takeNext_54 : decode cX0_takeNext 54 = .ok (.iload_n 2, 1) := by decide +kernel
theorem dX0_takeNext_55 : decode cX0_takeNext 55 = .ok (.iastore, 1) := by decide +kernel
theorem dX0_takeNext_56 : decode cX0_takeNext 56 = .ok (.aload_n 0, 1) := by decide +kernel
theorem dX0_takeNext_57 : decode cX0_takeNext 57 = .ok (.dup, 1) := by decide +kernel
theorem dX0_takeNext_58 : decode cX0_takeNext 58 = .ok (.getfield 78, 3) := by decide +kernel
theorem dX0_takeNext_61 : decode cX0_takeNext 61 = .ok (.aload_n 0, 1) := by decide +kernel
theorem dX0_takeNext_62 : decode cX0_takeNext 62 = .ok (.getfield 42, 3) := by decide +kernel
theorem dX0_takeNext_65 : decode cX0_takeNext 65 = .ok (.getfield 142, 3) := by decide +kernel
theorem dX0_takeNext_68 : decode cX0_takeNext 68 = .ok (.iload_n 2, 1) := by decide +kernel
theorem dX0_takeNext_69 : decode cX0_takeNext 69 = .ok (.aaload, 1) := by decide +kernel
theorem dX0_takeNext_70 : decode cX0_takeNext 70 = .ok (.getfield 146, 3) := by decide +kernel
theorem dX0_takeNext_73 : decode cX0_takeNext 73 = .ok (.isub, 1) := by decide +kernel
theorem dX0_takeNext_74 : decode cX0_takeNext 74 = .ok (.putfield 78, 3) := by decide +kernel
theorem dX0_takeNext_77 : decode cX0_takeNext 77 = .ok (.aload_n 0, 1) := by decide +kernel
theorem dX0_takeNext_78 : decode cX0_takeNext 78 = .ok (.aload_n 0, 1) := by decide +kernel
theorem dX0_takeNext_79 : decode cX0_takeNext 79 = .ok (.getfield 81, 3) := by decide +kernel
theorem dX0_takeNext_82 : decode cX0_takeNext 82 = .ok (.aload_n 0, 1) := by decide +kernel
theorem dX0_takeNext_83 : decode cX0_takeNext 83 = .ok (.getfield 46, 3) := by decide +kernel
theorem dX0_takeNext_86 : decode cX0_takeNext 86 = .ok (.aload_n 0, 1) := by decide +kernel
theorem dX0_takeNext_87 : decode cX0_takeNext 87 = .ok (.getfield 78, 3) := by decide +kernel
theorem dX0_takeNext_90 : decode cX0_takeNext 90 = .ok (.isub, 1) := by decide +kernel
theorem dX0_takeNext_91 : decode cX0_takeNext 91 = .ok (.invokestatic 151, 3) := by decide +kernel
theorem dX0_takeNext_94 : decode cX0_takeNext 94 = .ok (.putfield 81, 3) := by decide +kernel
theorem dX0_takeNext_97 : decode cX0_takeNext 97 = .ok (.aload_n 0, 1) := by decide +kernel
theorem dX0_takeNext_98 : decode cX0_takeNext 98 = .ok (.iload_n 2, 1) := by decide +kernel
theorem dX0_takeNext_99 : decode cX0_takeNext 99 = .ok (.iload_n 1, 1) := by decide +kernel
theorem dX0_takeNext_100 : decode cX0_takeNext 100 = .ok (.iconst 1, 1) := by decide +kernel
theorem dX0_takeNext_101 : decode cX0_takeNext 101 = .ok (.invokevirtual 157, 3) := by decide +kernel
theorem dX0_takeNext_104 : decode cX0_takeNext 104 = .ok (.return_, 1) := by decide +kernel
theorem dX0_leastThatFits_0 : decode cX0_leastThatFits 0 = .ok (.iconst 0, 1) := by decide +kernel
theorem dX0_leastThatFits_1 : decode cX0_leastThatFits 1 = .ok (.istore_n 1, 1) := by decide +kernel
theorem dX0_leastThatFits_2 : decode cX0_leastThatFits 2 = .ok (.iload_n 1, 1) := by decide +kernel
theorem dX0_leastThatFits_3 : decode cX0_leastThatFits 3 = .ok (.aload_n 0, 1) := by decide +kernel
theorem dX0_leastThatFits_4 : decode cX0_leastThatFits 4 = .ok (.getfield 42, 3) := by decide +kernel
theorem dX0_leastThatFits_7 : decode cX0_leastThatFits 7 = .ok (.getfield 102, 3) := by decide +kernel
theorem dX0_leastThatFits_10 : decode cX0_leastThatFits 10 = .ok (.if_icmp .ge 49, 3) := by decide +kernel
theorem dX0_leastThatFits_13 : decode cX0_leastThatFits 13 = .ok (.aload_n 0, 1) := by decide +kernel
theorem dX0_leastThatFits_14 : decode cX0_leastThatFits 14 = .ok (.getfield 99, 3) := by decide +kernel
theorem dX0_leastThatFits_17 : decode cX0_leastThatFits 17 = .ok (.ifCond .ne 42, 3) := by decide +kernel
theorem dX0_leastThatFits_20 : decode cX0_leastThatFits 20 = .ok (.aload_n 0, 1) := by decide +kernel
theorem dX0_leastThatFits_21 : decode cX0_leastThatFits 21 = .ok (.getfield 11, 3) := by decide +kernel
theorem dX0_leastThatFits_24 : decode cX0_leastThatFits 24 = .ok (.iload_n 1, 1) := by decide +kernel
theorem dX0_leastThatFits_25 : decode cX0_leastThatFits 25 = .ok (.aaload, 1) := by decide +kernel
theorem dX0_leastThatFits_26 : decode cX0_leastThatFits 26 = .ok (.getfield 135, 3) := by decide +kernel
theorem dX0_leastThatFits_29 : decode cX0_leastThatFits 29 = .ok (.ifCond .ne 24, 3) := by decide +kernel
theorem dX0_leastThatFits_32 : decode cX0_leastThatFits 32 = .ok (.aload_n 0, 1) := by decide +kernel
theorem dX0_leastThatFits_33 : decode cX0_leastThatFits 33 = .ok (.getfield 42, 3) := by decide +kernel
theorem dX0_leastThatFits_36 : decode cX0_leastThatFits 36 = .ok (.getfield 142, 3) := by decide +kernel
theorem dX0_leastThatFits_39 : decode cX0_leastThatFits 39 = .ok (.iload_n 1, 1) := by decide +kernel
theorem dX0_leastThatFits_40 : decode cX0_leastThatFits 40 = .ok (.aaload, 1) := by decide +kernel
theorem dX0_leastThatFits_41 : decode cX0_leastThatFits 41 = .ok (.getfield 146, 3) := by decide +kernel
theorem dX0_leastThatFits_44 : decode cX0_leastThatFits 44 = .ok (.aload_n 0, 1) := by decide +kernel
theorem dX0_leastThatFits_45 : decode cX0_leastThatFits 45 = .ok (.getfield 78, 3) := by decide +kernel
theorem dX0_leastThatFits_48 : decode cX0_leastThatFits 48 = .ok (.if_icmp .gt 5, 3) := by decide +kernel
theorem dX0_leastThatFits_51 : decode cX0_leastThatFits 51 = .ok (.iload_n 1, 1) := by decide +kernel
theorem dX0_leastThatFits_52 : decode cX0_leastThatFits 52 = .ok (.ireturn, 1) := by decide +kernel
theorem dX0_leastThatFits_53 : decode cX0_leastThatFits 53 = .ok (.iinc 1 1, 3) := by decide +kernel
theorem dX0_leastThatFits_56 : decode cX0_leastThatFits 56 = .ok (.goto (-54), 3) := by decide +kernel
theorem dX0_leastThatFits_59 : decode cX0_leastThatFits 59 = .ok (.aload_n 0, 1) := by decide +kernel
theorem dX0_leastThatFits_60 : decode cX0_leastThatFits 60 = .ok (.iconst 1, 1) := by decide +kernel
theorem dX0_leastThatFits_61 : decode cX0_leastThatFits 61 = .ok (.putfield 99, 3) := by decide +kernel
theorem dX0_leastThatFits_64 : decode cX0_leastThatFits 64 = .ok (.bipush (-9), 2) := by decide +kernel
theorem dX0_leastThatFits_66 : decode cX0_leastThatFits 66 = .ok (.ireturn, 1) := by decide +kernel
theorem dX0_goOnWith_0 : decode cX0_goOnWith 0 = .ok (.aload_n 0, 1) := by decide +kernel
theorem dX0_goOnWith_1 : decode cX0_goOnWith 1 = .ok (.getfield 42, 3) := by decide +kernel
theorem dX0_goOnWith_4 : decode cX0_goOnWith 4 = .ok (.getfield 142, 3) := by decide +kernel
theorem dX0_goOnWith_7 : decode cX0_goOnWith 7 = .ok (.iload_n 1, 1) := by decide +kernel
theorem dX0_goOnWith_8 : decode cX0_goOnWith 8 = .ok (.aaload, 1) := by decide +kernel
theorem dX0_goOnWith_9 : decode cX0_goOnWith 9 = .ok (.astore_n 3, 1) := by decide +kernel
theorem dX0_goOnWith_10 : decode cX0_goOnWith 10 = .ok (.aload_n 0, 1) := by decide +kernel
theorem dX0_goOnWith_11 : decode cX0_goOnWith 11 = .ok (.getfield 11, 3) := by decide +kernel
theorem dX0_goOnWith_14 : decode cX0_goOnWith 14 = .ok (.iload_n 1, 1) := by decide +kernel
theorem dX0_goOnWith_15 : decode cX0_goOnWith 15 = .ok (.aaload, 1) := by decide +kernel
theorem dX0_goOnWith_16 : decode cX0_goOnWith 16 = .ok (.astore 4, 2) := by decide +kernel
theorem dX0_goOnWith_18 : decode cX0_goOnWith 18 = .ok (.aload 4, 2) := by decide +kernel
theorem dX0_goOnWith_20 : decode cX0_goOnWith 20 = .ok (.dup, 1) := by decide +kernel
theorem dX0_goOnWith_21 : decode cX0_goOnWith 21 = .ok (.getfield 141, 3) := by decide +kernel
theorem dX0_goOnWith_24 : decode cX0_goOnWith 24 = .ok (.iconst 1, 1) := by decide +kernel
theorem dX0_goOnWith_25 : decode cX0_goOnWith 25 = .ok (.iadd, 1) := by decide +kernel
theorem dX0_goOnWith_26 : decode cX0_goOnWith 26 = .ok (.putfield 141, 3) := by decide +kernel
theorem dX0_goOnWith_29 : decode cX0_goOnWith 29 = .ok (.aload 4, 2) := by decide +kernel
theorem dX0_goOnWith_31 : decode cX0_goOnWith 31 = .ok (.getfield 161, 3) := by decide +kernel
theorem dX0_goOnWith_34 : decode cX0_goOnWith 34 = .ok (.ifCond .eq 12, 3) := by decide +kernel
theorem dX0_goOnWith_37 : decode cX0_goOnWith 37 = .ok (.aload 4, 2) := by decide +kernel
theorem dX0_goOnWith_39 : decode cX0_goOnWith 39 = .ok (.iconst 5, 1) := by decide +kernel
theorem dX0_goOnWith_40 : decode cX0_goOnWith 40 = .ok (.putfield 135, 3) := by decide +kernel
theorem dX0_goOnWith_43 : decode cX0_goOnWith 43 = .ok (.goto 70, 3) := by decide +kernel
theorem dX0_goOnWith_46 : decode cX0_goOnWith 46 = .ok (.aload 4, 2) := by decide +kernel
theorem dX0_goOnWith_48 : decode cX0_goOnWith 48 = .ok (.getfield 164, 3) := by decide +kernel
theorem dX0_goOnWith_51 : decode cX0_goOnWith 51 = .ok (.ifCond .eq 13, 3) := by decide +kernel
theorem dX0_goOnWith_54 : decode cX0_goOnWith 54 = .ok (.aload 4, 2) := by decide +kernel
theorem dX0_goOnWith_56 : decode cX0_goOnWith 56 = .ok (.bipush 6, 2) := by decide +kernel
theorem dX0_goOnWith_58 : decode cX0_goOnWith 58 = .ok (.putfield 135, 3) := by decide +kernel
theorem dX0_goOnWith_61 : decode cX0_goOnWith 61 = .ok (.goto 52, 3) := by decide +kernel
theorem dX0_goOnWith_64 : decode cX0_goOnWith 64 = .ok (.aload_n 3, 1) := by decide +kernel
theorem dX0_goOnWith_65 : decode cX0_goOnWith 65 = .ok (.aload 4, 2) := by decide +kernel
theorem dX0_goOnWith_67 : decode cX0_goOnWith 67 = .ok (.aload_n 0, 1) := by decide +kernel
theorem dX0_goOnWith_68 : decode cX0_goOnWith 68 = .ok (.getfield 19, 3) := by decide +kernel
theorem dX0_goOnWith_71 : decode cX0_goOnWith 71 = .ok (.invokevirtual 167, 3) := by decide +kernel
theorem dX0_goOnWith_74 : decode cX0_goOnWith 74 = .ok (.aload 4, 2) := by decide +kernel
theorem dX0_goOnWith_76 : decode cX0_goOnWith 76 = .ok (.dup, 1) := by decide +kernel
theorem dX0_goOnWith_77 : decode cX0_goOnWith 77 = .ok (.getfield 171, 3) := by decide +kernel
theorem dX0_goOnWith_80 : decode cX0_goOnWith 80 = .ok (.iconst 1, 1) := by decide +kernel
theorem dX0_goOnWith_81 : decode cX0_goOnWith 81 = .ok (.iadd, 1) := by decide +kernel
theorem dX0_goOnWith_82 : decode cX0_goOnWith 82 = .ok (.putfield 171, 3) := by decide +kernel
theorem dX0_goOnWith_85 : decode cX0_goOnWith 85 = .ok (.aload 4, 2) := by decide +kernel
theorem dX0_goOnWith_87 : decode cX0_goOnWith 87 = .ok (.getfield 135, 3) := by decide +kernel
theorem dX0_goOnWith_90 : decode cX0_goOnWith 90 = .ok (.iconst 1, 1) := by decide +kernel
theorem dX0_goOnWith_91 : decode cX0_goOnWith 91 = .ok (.if_icmp .ne 22, 3) := by decide +kernel
theorem dX0_goOnWith_94 : decode cX0_goOnWith 94 = .ok (.aload_n 3, 1) := by decide +kernel
theorem dX0_goOnWith_95 : decode cX0_goOnWith 95 = .ok (.aload 4, 2) := by decide +kernel
theorem dX0_goOnWith_97 : decode cX0_goOnWith 97 = .ok (.invokevirtual 174, 3) := by decide +kernel
theorem dX0_goOnWith_100 : decode cX0_goOnWith 100 = .ok (.aload_n 3, 1) := by decide +kernel
theorem dX0_goOnWith_101 : decode cX0_goOnWith 101 = .ok (.getfield 178, 3) := by decide +kernel
theorem dX0_goOnWith_104 : decode cX0_goOnWith 104 = .ok (.if_icmp .lt 9, 3) := by decide +kernel
theorem dX0_goOnWith_107 : decode cX0_goOnWith 107 = .ok (.aload 4, 2) := by decide +kernel
theorem dX0_goOnWith_109 : decode cX0_goOnWith 109 = .ok (.iconst 4, 1) := by decide +kernel
theorem dX0_goOnWith_110 : decode cX0_goOnWith 110 = .ok (.putfield 135, 3) := by decide +kernel
theorem dX0_goOnWith_113 : decode cX0_goOnWith 113 = .ok (.aload 4, 2) := by decide +kernel
theorem dX0_goOnWith_115 : decode cX0_goOnWith 115 = .ok (.getfield 135, 3) := by decide +kernel
theorem dX0_goOnWith_118 : decode cX0_goOnWith 118 = .ok (.iconst 1, 1) := by decide +kernel
theorem dX0_goOnWith_119 : decode cX0_goOnWith 119 = .ok (.if_icmp .eq 9, 3) := by decide +kernel
theorem dX0_goOnWith_122 : decode cX0_goOnWith 122 = .ok (.aload_n 0, 1) := by decide +kernel
theorem dX0_goOnWith_123 : decode cX0_goOnWith 123 = .ok (.iload_n 1, 1) := by decide +kernel
theorem dX0_goOnWith_124 : decode cX0_goOnWith 124 = .ok (.iload_n 2, 1) := by decide +kernel
theorem dX0_goOnWith_125 : decode cX0_goOnWith 125 = .ok (.invokevirtual 181, 3) := by decide +kernel
theorem dX0_goOnWith_128 : decode cX0_goOnWith 128 = .ok (.return_, 1) := by decide +kernel
theorem dX0_leave_0 : decode cX0_leave 0 = .ok (.aload_n 0, 1) := by decide +kernel
theorem dX0_leave_1 : decode cX0_leave 1 = .ok (.getfield 28, 3) := by decide +kernel
theorem dX0_leave_4 : decode cX0_leave 4 = .ok (.iload_n 2, 1) := by decide +kernel
theorem dX0_leave_5 : decode cX0_leave 5 = .ok (.bipush (-9), 2) := by decide +kernel
theorem dX0_leave_7 : decode cX0_leave 7 = .ok (.iastore, 1) := by decide +kernel
theorem dX0_leave_8 : decode cX0_leave 8 = .ok (.aload_n 0, 1) := by decide +kernel
theorem dX0_leave_9 : decode cX0_leave 9 = .ok (.getfield 32, 3) := by decide +kernel
theorem dX0_leave_12 : decode cX0_leave 12 = .ok (.iload_n 2, 1) := by decide +kernel
theorem dX0_leave_13 : decode cX0_leave 13 = .ok (.dup2, 1) := by decide +kernel
theorem dX0_leave_14 : decode cX0_leave 14 = .ok (.iaload, 1) := by decide +kernel
theorem dX0_leave_15 : decode cX0_leave 15 = .ok (.iconst 1, 1) := by decide +kernel
theorem dX0_leave_16 : decode cX0_leave 16 = .ok (.iadd, 1) := by decide +kernel
theorem dX0_leave_17 : decode cX0_leave 17 = .ok (.iastore, 1) := by decide +kernel
theorem dX0_leave_18 : decode cX0_leave 18 = .ok (.aload_n 0, 1) := by decide +kernel
theorem dX0_leave_19 : decode cX0_leave 19 = .ok (.dup, 1) := by decide +kernel
theorem dX0_leave_20 : decode cX0_leave 20 = .ok (.getfield 96, 3) := by decide +kernel
theorem dX0_leave_23 : decode cX0_leave 23 = .ok (.iconst 1, 1) := by decide +kernel
theorem dX0_leave_24 : decode cX0_leave 24 = .ok (.isub, 1) := by decide +kernel
theorem dX0_leave_25 : decode cX0_leave 25 = .ok (.putfield 96, 3) := by decide +kernel
theorem dX0_leave_28 : decode cX0_leave 28 = .ok (.aload_n 0, 1) := by decide +kernel
theorem dX0_leave_29 : decode cX0_leave 29 = .ok (.dup, 1) := by decide +kernel
theorem dX0_leave_30 : decode cX0_leave 30 = .ok (.getfield 78, 3) := by decide +kernel
theorem dX0_leave_33 : decode cX0_leave 33 = .ok (.aload_n 0, 1) := by decide +kernel
theorem dX0_leave_34 : decode cX0_leave 34 = .ok (.getfield 42, 3) := by decide +kernel
theorem dX0_leave_37 : decode cX0_leave 37 = .ok (.getfield 142, 3) := by decide +kernel
theorem dX0_leave_40 : decode cX0_leave 40 = .ok (.iload_n 1, 1) := by decide +kernel
theorem dX0_leave_41 : decode cX0_leave 41 = .ok (.aaload, 1) := by decide +kernel
theorem dX0_leave_42 : decode cX0_leave 42 = .ok (.getfield 146, 3) := by decide +kernel
theorem dX0_leave_45 : decode cX0_leave 45 = .ok (.iadd, 1) := by decide +kernel
theorem dX0_leave_46 : decode cX0_leave 46 = .ok (.putfield 78, 3) := by decide +kernel
theorem dX0_leave_49 : decode cX0_leave 49 = .ok (.aload_n 0, 1) := by decide +kernel
theorem dX0_leave_50 : decode cX0_leave 50 = .ok (.iconst 0, 1) := by decide +kernel
theorem dX0_leave_51 : decode cX0_leave 51 = .ok (.putfield 99, 3) := by decide +kernel
theorem dX0_leave_54 : decode cX0_leave 54 = .ok (.aload_n 0, 1) := by decide +kernel
theorem dX0_leave_55 : decode cX0_leave 55 = .ok (.iload_n 1, 1) := by decide +kernel
theorem dX0_leave_56 : decode cX0_leave 56 = .ok (.iload_n 2, 1) := by decide +kernel
theorem dX0_leave_57 : decode cX0_leave 57 = .ok (.aload_n 0, 1) := by decide +kernel
theorem dX0_leave_58 : decode cX0_leave 58 = .ok (.getfield 11, 3) := by decide +kernel
theorem dX0_leave_61 : decode cX0_leave 61 = .ok (.iload_n 1, 1) := by decide +kernel
theorem dX0_leave_62 : decode cX0_leave 62 = .ok (.aaload, 1) := by decide +kernel
theorem dX0_leave_63 : decode cX0_leave 63 = .ok (.getfield 135, 3) := by decide +kernel
theorem dX0_leave_66 : decode cX0_leave 66 = .ok (.invokevirtual 157, 3) := by decide +kernel
theorem dX0_leave_69 : decode cX0_leave 69 = .ok (.return_, 1) := by decide +kernel
theorem dX0_endWaiting_0 : decode cX0_endWaiting 0 = .ok (.aload_n 0, 1) := by decide +kernel
theorem dX0_endWaiting_1 : decode cX0_endWaiting 1 = .ok (.getfield 11, 3) := by decide +kernel
theorem dX0_endWaiting_4 : decode cX0_endWaiting 4 = .ok (.iload_n 1, 1) := by decide +kernel
theorem dX0_endWaiting_5 : decode cX0_endWaiting 5 = .ok (.aaload, 1) := by decide +kernel
theorem dX0_endWaiting_6 : decode cX0_endWaiting 6 = .ok (.iload_n 2, 1) := by decide +kernel
theorem dX0_endWaiting_7 : decode cX0_endWaiting 7 = .ok (.putfield 135, 3) := by decide +kernel
theorem dX0_endWaiting_10 : decode cX0_endWaiting 10 = .ok (.aload_n 0, 1) := by decide +kernel
theorem dX0_endWaiting_11 : decode cX0_endWaiting 11 = .ok (.dup, 1) := by decide +kernel
theorem dX0_endWaiting_12 : decode cX0_endWaiting 12 = .ok (.getfield 96, 3) := by decide +kernel
theorem dX0_endWaiting_15 : decode cX0_endWaiting 15 = .ok (.iconst 1, 1) := by decide +kernel
theorem dX0_endWaiting_16 : decode cX0_endWaiting 16 = .ok (.isub, 1) := by decide +kernel
theorem dX0_endWaiting_17 : decode cX0_endWaiting 17 = .ok (.putfield 96, 3) := by decide +kernel
theorem dX0_endWaiting_20 : decode cX0_endWaiting 20 = .ok (.return_, 1) := by decide +kernel
theorem dX0_write_0 : decode cX0_write 0 = .ok (.aload_n 0, 1) := by decide +kernel
theorem dX0_write_1 : decode cX0_write 1 = .ok (.getfield 75, 3) := by decide +kernel
theorem dX0_write_4 : decode cX0_write 4 = .ok (.aload_n 0, 1) := by decide +kernel
theorem dX0_write_5 : decode cX0_write 5 = .ok (.getfield 35, 3) := by decide +kernel
theorem dX0_write_8 : decode cX0_write 8 = .ok (.arraylength, 1) := by decide +kernel
theorem dX0_write_9 : decode cX0_write 9 = .ok (.if_icmp .lt 4, 3) := by decide +kernel
theorem dX0_write_12 : decode cX0_write 12 = .ok (.return_, 1) := by decide +kernel
theorem dX0_write_13 : decode cX0_write 13 = .ok (.aload_n 0, 1) := by decide +kernel
theorem dX0_write_14 : decode cX0_write 14 = .ok (.getfield 35, 3) := by decide +kernel
theorem dX0_write_17 : decode cX0_write 17 = .ok (.aload_n 0, 1) := by decide +kernel
theorem dX0_write_18 : decode cX0_write 18 = .ok (.getfield 75, 3) := by decide +kernel
theorem dX0_write_21 : decode cX0_write 21 = .ok (.bipush 100, 2) := by decide +kernel
theorem dX0_write_23 : decode cX0_write 23 = .ok (.iload_n 1, 1) := by decide +kernel
theorem dX0_write_24 : decode cX0_write 24 = .ok (.imul, 1) := by decide +kernel
theorem dX0_write_25 : decode cX0_write 25 = .ok (.bipush 10, 2) := by decide +kernel
theorem dX0_write_27 : decode cX0_write 27 = .ok (.iload_n 2, 1) := by decide +kernel
theorem dX0_write_28 : decode cX0_write 28 = .ok (.imul, 1) := by decide +kernel
theorem dX0_write_29 : decode cX0_write 29 = .ok (.iadd, 1) := by decide +kernel
theorem dX0_write_30 : decode cX0_write 30 = .ok (.iload_n 3, 1) := by decide +kernel
theorem dX0_write_31 : decode cX0_write 31 = .ok (.iadd, 1) := by decide +kernel
theorem dX0_write_32 : decode cX0_write 32 = .ok (.iastore, 1) := by decide +kernel
theorem dX0_write_33 : decode cX0_write 33 = .ok (.aload_n 0, 1) := by decide +kernel
theorem dX0_write_34 : decode cX0_write 34 = .ok (.dup, 1) := by decide +kernel
theorem dX0_write_35 : decode cX0_write 35 = .ok (.getfield 75, 3) := by decide +kernel
theorem dX0_write_38 : decode cX0_write 38 = .ok (.iconst 1, 1) := by decide +kernel
theorem dX0_write_39 : decode cX0_write 39 = .ok (.iadd, 1) := by decide +kernel
theorem dX0_write_40 : decode cX0_write 40 = .ok (.putfield 75, 3) := by decide +kernel
theorem dX0_write_43 : decode cX0_write 43 = .ok (.return_, 1) := by decide +kernel
theorem dX0_lookWhatIsTaken_0 : decode cX0_lookWhatIsTaken 0 = .ok (.aload_n 0, 1) := by decide +kernel
theorem dX0_lookWhatIsTaken_1 : decode cX0_lookWhatIsTaken 1 = .ok (.getfield 90, 3) := by decide +kernel
theorem dX0_lookWhatIsTaken_4 : decode cX0_lookWhatIsTaken 4 = .ok (.bipush (-9), 2) := by decide +kernel
theorem dX0_lookWhatIsTaken_6 : decode cX0_lookWhatIsTaken 6 = .ok (.if_icmp .eq 4, 3) := by decide +kernel
theorem dX0_lookWhatIsTaken_9 : decode cX0_lookWhatIsTaken 9 = .ok (.return_, 1) := by decide +kernel
theorem dX0_lookWhatIsTaken_10 : decode cX0_lookWhatIsTaken 10 = .ok (.iconst 0, 1) := by decide +kernel
theorem dX0_lookWhatIsTaken_11 : decode cX0_lookWhatIsTaken 11 = .ok (.istore_n 1, 1) := by decide +kernel
theorem dX0_lookWhatIsTaken_12 : decode cX0_lookWhatIsTaken 12 = .ok (.iload_n 1, 1) := by decide +kernel
theorem dX0_lookWhatIsTaken_13 : decode cX0_lookWhatIsTaken 13 = .ok (.aload_n 0, 1) := by decide +kernel
theorem dX0_lookWhatIsTaken_14 : decode cX0_lookWhatIsTaken 14 = .ok (.getfield 42, 3) := by decide +kernel
theorem dX0_lookWhatIsTaken_17 : decode cX0_lookWhatIsTaken 17 = .ok (.getfield 102, 3) := by decide +kernel
theorem dX0_lookWhatIsTaken_20 : decode cX0_lookWhatIsTaken 20 = .ok (.if_icmp .ge 59, 3) := by decide +kernel
theorem dX0_lookWhatIsTaken_23 : decode cX0_lookWhatIsTaken 23 = .ok (.aload_n 0, 1) := by decide +kernel
theorem dX0_lookWhatIsTaken_24 : decode cX0_lookWhatIsTaken 24 = .ok (.getfield 42, 3) := by decide +kernel
theorem dX0_lookWhatIsTaken_27 : decode cX0_lookWhatIsTaken 27 = .ok (.getfield 142, 3) := by decide +kernel
theorem dX0_lookWhatIsTaken_30 : decode cX0_lookWhatIsTaken 30 = .ok (.iload_n 1, 1) := by decide +kernel
theorem dX0_lookWhatIsTaken_31 : decode cX0_lookWhatIsTaken 31 = .ok (.aaload, 1) := by decide +kernel
theorem dX0_lookWhatIsTaken_32 : decode cX0_lookWhatIsTaken 32 = .ok (.invokevirtual 184, 3) := by decide +kernel
theorem dX0_lookWhatIsTaken_35 : decode cX0_lookWhatIsTaken 35 = .ok (.ifCond .ne 6, 3) := by decide +kernel
theorem dX0_lookWhatIsTaken_38 : decode cX0_lookWhatIsTaken 38 = .ok (.goto 35, 3) := by decide +kernel
theorem dX0_lookWhatIsTaken_41 : decode cX0_lookWhatIsTaken 41 = .ok (.aload_n 0, 1) := by decide +kernel
theorem dX0_lookWhatIsTaken_42 : decode cX0_lookWhatIsTaken 42 = .ok (.getfield 11, 3) := by decide +kernel
theorem dX0_lookWhatIsTaken_45 : decode cX0_lookWhatIsTaken 45 = .ok (.iload_n 1, 1) := by decide +kernel
theorem dX0_lookWhatIsTaken_46 : decode cX0_lookWhatIsTaken 46 = .ok (.aaload, 1) := by decide +kernel
theorem dX0_lookWhatIsTaken_47 : decode cX0_lookWhatIsTaken 47 = .ok (.invokevirtual 188, 3) := by decide +kernel
theorem dX0_lookWhatIsTaken_50 : decode cX0_lookWhatIsTaken 50 = .ok (.ifCond .eq 4, 3) := by decide +kernel
theorem dX0_lookWhatIsTaken_53 : decode cX0_lookWhatIsTaken 53 = .ok (.return_, 1) := by decide +kernel
theorem dX0_lookWhatIsTaken_54 : decode cX0_lookWhatIsTaken 54 = .ok (.aload_n 0, 1) := by decide +kernel
theorem dX0_lookWhatIsTaken_55 : decode cX0_lookWhatIsTaken 55 = .ok (.getfield 11, 3) := by decide +kernel
theorem dX0_lookWhatIsTaken_58 : decode cX0_lookWhatIsTaken 58 = .ok (.iload_n 1, 1) := by decide +kernel
theorem dX0_lookWhatIsTaken_59 : decode cX0_lookWhatIsTaken 59 = .ok (.aaload, 1) := by decide +kernel
theorem dX0_lookWhatIsTaken_60 : decode cX0_lookWhatIsTaken 60 = .ok (.getfield 135, 3) := by decide +kernel
theorem dX0_lookWhatIsTaken_63 : decode cX0_lookWhatIsTaken 63 = .ok (.iconst 2, 1) := by decide +kernel
theorem dX0_lookWhatIsTaken_64 : decode cX0_lookWhatIsTaken 64 = .ok (.if_icmp .ne 9, 3) := by decide +kernel
theorem dX0_lookWhatIsTaken_67 : decode cX0_lookWhatIsTaken 67 = .ok (.aload_n 0, 1) := by decide +kernel
theorem dX0_lookWhatIsTaken_68 : decode cX0_lookWhatIsTaken 68 = .ok (.iload_n 1, 1) := by decide +kernel
theorem dX0_lookWhatIsTaken_69 : decode cX0_lookWhatIsTaken 69 = .ok (.invokevirtual 191, 3) := by decide +kernel
theorem dX0_lookWhatIsTaken_72 : decode cX0_lookWhatIsTaken 72 = .ok (.return_, 1) := by decide +kernel
theorem dX0_lookWhatIsTaken_73 : decode cX0_lookWhatIsTaken 73 = .ok (.iinc 1 1, 3) := by decide +kernel
theorem dX0_lookWhatIsTaken_76 : decode cX0_lookWhatIsTaken 76 = .ok (.goto (-64), 3) := by decide +kernel
theorem dX0_lookWhatIsTaken_79 : decode cX0_lookWhatIsTaken 79 = .ok (.return_, 1) := by decide +kernel
theorem dX0_takeWay_0 : decode cX0_takeWay 0 = .ok (.aload_n 0, 1) := by decide +kernel
theorem dX0_takeWay_1 : decode cX0_takeWay 1 = .ok (.iload_n 1, 1) := by decide +kernel
theorem dX0_takeWay_2 : decode cX0_takeWay 2 = .ok (.putfield 90, 3) := by decide +kernel
theorem dX0_takeWay_5 : decode cX0_takeWay 5 = .ok (.iload_n 1, 1) := by decide +kernel
theorem dX0_takeWay_6 : decode cX0_takeWay 6 = .ok (.iconst 1, 1) := by decide +kernel
theorem dX0_takeWay_7 : decode cX0_takeWay 7 = .ok (.iadd, 1) := by decide +kernel
theorem dX0_takeWay_8 : decode cX0_takeWay 8 = .ok (.istore_n 2, 1) := by decide +kernel
theorem dX0_takeWay_9 : decode cX0_takeWay 9 = .ok (.iload_n 2, 1) := by decide +kernel
theorem dX0_takeWay_10 : decode cX0_takeWay 10 = .ok (.aload_n 0, 1) := by decide +kernel
theorem dX0_takeWay_11 : decode cX0_takeWay 11 = .ok (.getfield 42, 3) := by decide +kernel
theorem dX0_takeWay_14 : decode cX0_takeWay 14 = .ok (.getfield 102, 3) := by decide +kernel
theorem dX0_takeWay_17 : decode cX0_takeWay 17 = .ok (.if_icmp .ge 71, 3) := by decide +kernel
theorem dX0_takeWay_20 : decode cX0_takeWay 20 = .ok (.aload_n 0, 1) := by decide +kernel
theorem dX0_takeWay_21 : decode cX0_takeWay 21 = .ok (.getfield 42, 3) := by decide +kernel
theorem dX0_takeWay_24 : decode cX0_takeWay 24 = .ok (.getfield 142, 3) := by decide +kernel
theorem dX0_takeWay_27 : decode cX0_takeWay 27 = .ok (.iload_n 2, 1) := by decide +kernel
theorem dX0_takeWay_28 : decode cX0_takeWay 28 = .ok (.aaload, 1) := by decide +kernel
theorem dX0_takeWay_29 : decode cX0_takeWay 29 = .ok (.invokevirtual 184, 3) := by decide +kernel
theorem dX0_takeWay_32 : decode cX0_takeWay 32 = .ok (.ifCond .ne 6, 3) := by decide +kernel
theorem dX0_takeWay_35 : decode cX0_takeWay 35 = .ok (.goto 47, 3) := by decide +kernel
theorem dX0_takeWay_38 : decode cX0_takeWay 38 = .ok (.aload_n 0, 1) := by decide +kernel
theorem dX0_takeWay_39 : decode cX0_takeWay 39 = .ok (.getfield 11, 3) := by decide +kernel
theorem dX0_takeWay_42 : decode cX0_takeWay 42 = .ok (.iload_n 2, 1) := by decide +kernel
theorem dX0_takeWay_43 : decode cX0_takeWay 43 = .ok (.aaload, 1) := by decide +kernel
theorem dX0_takeWay_44 : decode cX0_takeWay 44 = .ok (.getfield 135, 3) := by decide +kernel
theorem dX0_takeWay_47 : decode cX0_takeWay 47 = .ok (.ifCond .ne 12, 3) := by decide +kernel
theorem dX0_takeWay_50 : decode cX0_takeWay 50 = .ok (.aload_n 0, 1) := by decide +kernel
theorem dX0_takeWay_51 : decode cX0_takeWay 51 = .ok (.iload_n 2, 1) := by decide +kernel
theorem dX0_takeWay_52 : decode cX0_takeWay 52 = .ok (.iconst 5, 1) := by decide +kernel
theorem dX0_takeWay_53 : decode cX0_takeWay 53 = .ok (.invokevirtual 194, 3) := by decide +kernel
theorem dX0_takeWay_56 : decode cX0_takeWay 56 = .ok (.goto 26, 3) := by decide +kernel
theorem dX0_takeWay_59 : decode cX0_takeWay 59 = .ok (.aload_n 0, 1) := by decide +kernel
theorem dX0_takeWay_60 : decode cX0_takeWay 60 = .ok (.getfield 11, 3) := by decide +kernel
theorem dX0_takeWay_63 : decode cX0_takeWay 63 = .ok (.iload_n 2, 1) := by decide +kernel
theorem dX0_takeWay_64 : decode cX0_takeWay 64 = .ok (.aaload, 1) := by decide +kernel
theorem dX0_takeWay_65 : decode cX0_takeWay 65 = .ok (.getfield 135, 3) := by decide +kernel
theorem dX0_takeWay_68 : decode cX0_takeWay 68 = .ok (.iconst 1, 1) := by decide +kernel
theorem dX0_takeWay_69 : decode cX0_takeWay 69 = .ok (.if_icmp .ne 13, 3) := by decide +kernel
theorem dX0_takeWay_72 : decode cX0_takeWay 72 = .ok (.aload_n 0, 1) := by decide +kernel
theorem dX0_takeWay_73 : decode cX0_takeWay 73 = .ok (.getfield 11, 3) := by decide +kernel
theorem dX0_takeWay_76 : decode cX0_takeWay 76 = .ok (.iload_n 2, 1) := by decide +kernel
theorem dX0_takeWay_77 : decode cX0_takeWay 77 = .ok (.aaload, 1) := by decide +kernel
theorem dX0_takeWay_78 : decode cX0_takeWay 78 = .ok (.iconst 1, 1) := by decide +kernel
theorem dX0_takeWay_79 : decode cX0_takeWay 79 = .ok (.putfield 161, 3) := by decide +kernel
theorem dX0_takeWay_82 : decode cX0_takeWay 82 = .ok (.iinc 2 1, 3) := by decide +kernel
theorem dX0_takeWay_85 : decode cX0_takeWay 85 = .ok (.goto (-76), 3) := by decide +kernel
theorem dX0_takeWay_88 : decode cX0_takeWay 88 = .ok (.return_, 1) := by decide +kernel
theorem dX0_doFailedSharesAgain_0 : decode cX0_doFailedSharesAgain 0 = .ok (.iconst 0, 1) := by decide +kernel
theorem dX0_doFailedSharesAgain_1 : decode cX0_doFailedSharesAgain 1 = .ok (.istore_n 1, 1) := by decide +kernel
theorem dX0_doFailedSharesAgain_2 : decode cX0_doFailedSharesAgain 2 = .ok (.iload_n 1, 1) := by decide +kernel
theorem dX0_doFailedSharesAgain_3 : decode cX0_doFailedSharesAgain 3 = .ok (.aload_n 0, 1) := by decide +kernel
theorem dX0_doFailedSharesAgain_4 : decode cX0_doFailedSharesAgain 4 = .ok (.getfield 42, 3) := by decide +kernel
theorem dX0_doFailedSharesAgain_7 : decode cX0_doFailedSharesAgain 7 = .ok (.getfield 102, 3) := by decide +kernel
theorem dX0_doFailedSharesAgain_10 : decode cX0_doFailedSharesAgain 10 = .ok (.if_icmp .ge 70, 3) := by decide +kernel
theorem dX0_doFailedSharesAgain_13 : decode cX0_doFailedSharesAgain 13 = .ok (.aload_n 0, 1) := by decide +kernel
theorem dX0_doFailedSharesAgain_14 : decode cX0_doFailedSharesAgain 14 = .ok (.getfield 11, 3) := by decide +kernel
theorem dX0_doFailedSharesAgain_17 : decode cX0_doFailedSharesAgain 17 = .ok (.iload_n 1, 1) := by decide +kernel
theorem dX0_doFailedSharesAgain_18 : decode cX0_doFailedSharesAgain 18 = .ok (.aaload, 1) := by decide +kernel
theorem dX0_doFailedSharesAgain_19 : decode cX0_doFailedSharesAgain 19 = .ok (.getfield 135, 3) := by decide +kernel
theorem dX0_doFailedSharesAgain_22 : decode cX0_doFailedSharesAgain 22 = .ok (.iconst 3, 1) := by decide +kernel
theorem dX0_doFailedSharesAgain_23 : decode cX0_doFailedSharesAgain 23 = .ok (.if_icmp .ne 51, 3) := by decide +kernel
theorem dX0_doFailedSharesAgain_26 : decode cX0_doFailedSharesAgain 26 = .ok (.aload_n 0, 1) := by decide +kernel
theorem dX0_doFailedSharesAgain_27 : decode cX0_doFailedSharesAgain 27 = .ok (.getfield 42, 3) := by decide +kernel
theorem dX0_doFailedSharesAgain_30 : decode cX0_doFailedSharesAgain 30 = .ok (.getfield 142, 3) := by decide +kernel
theorem dX0_doFailedSharesAgain_33 : decode cX0_doFailedSharesAgain 33 = .ok (.iload_n 1, 1) := by decide +kernel
theorem dX0_doFailedSharesAgain_34 : decode cX0_doFailedSharesAgain 34 = .ok (.aaload, 1) := by decide +kernel
theorem dX0_doFailedSharesAgain_35 : decode cX0_doFailedSharesAgain 35 = .ok (.astore_n 3, 1) := by decide +kernel
theorem dX0_doFailedSharesAgain_36 : decode cX0_doFailedSharesAgain 36 = .ok (.aload_n 3, 1) := by decide +kernel
theorem dX0_doFailedSharesAgain_37 : decode cX0_doFailedSharesAgain 37 = .ok (.instanceof 197, 3) := by decide +kernel
theorem dX0_doFailedSharesAgain_40 : decode cX0_doFailedSharesAgain 40 = .ok (.ifCond .eq 34, 3) := by decide +kernel
theorem dX0_doFailedSharesAgain_43 : decode cX0_doFailedSharesAgain 43 = .ok (.aload_n 3, 1) := by decide +kernel
theorem dX0_doFailedSharesAgain_44 : decode cX0_doFailedSharesAgain 44 = .ok (.checkcast 197, 3) := by decide +kernel
theorem dX0_doFailedSharesAgain_47 : decode cX0_doFailedSharesAgain 47 = .ok (.astore_n 2, 1) := by decide +kernel
theorem dX0_doFailedSharesAgain_48 : decode cX0_doFailedSharesAgain 48 = .ok (.aload_n 0, 1) := by decide +kernel
theorem dX0_doFailedSharesAgain_49 : decode cX0_doFailedSharesAgain 49 = .ok (.getfield 11, 3) := by decide +kernel
theorem dX0_doFailedSharesAgain_52 : decode cX0_doFailedSharesAgain 52 = .ok (.iload_n 1, 1) := by decide +kernel
theorem dX0_doFailedSharesAgain_53 : decode cX0_doFailedSharesAgain 53 = .ok (.aaload, 1) := by decide +kernel
theorem dX0_doFailedSharesAgain_54 : decode cX0_doFailedSharesAgain 54 = .ok (.aload_n 2, 1) := by decide +kernel
theorem dX0_doFailedSharesAgain_55 : decode cX0_doFailedSharesAgain 55 = .ok (.aload_n 0, 1) := by decide +kernel
theorem dX0_doFailedSharesAgain_56 : decode cX0_doFailedSharesAgain 56 = .ok (.getfield 24, 3) := by decide +kernel
theorem dX0_doFailedSharesAgain_59 : decode cX0_doFailedSharesAgain 59 = .ok (.aload_n 0, 1) := by decide +kernel
theorem dX0_doFailedSharesAgain_60 : decode cX0_doFailedSharesAgain 60 = .ok (.getfield 19, 3) := by decide +kernel
theorem dX0_doFailedSharesAgain_63 : decode cX0_doFailedSharesAgain 63 = .ok (.aload_n 2, 1) := by decide +kernel
theorem dX0_doFailedSharesAgain_64 : decode cX0_doFailedSharesAgain 64 = .ok (.getfield 199, 3) := by decide +kernel
theorem dX0_doFailedSharesAgain_67 : decode cX0_doFailedSharesAgain 67 = .ok (.aaload, 1) := by decide +kernel
theorem dX0_doFailedSharesAgain_68 : decode cX0_doFailedSharesAgain 68 = .ok (.invokevirtual 202, 3) := by decide +kernel
theorem dX0_doFailedSharesAgain_71 : decode cX0_doFailedSharesAgain 71 = .ok (.putfield 206, 3) := by decide +kernel
theorem dX0_doFailedSharesAgain_74 : decode cX0_doFailedSharesAgain 74 = .ok (.iinc 1 1, 3) := by decide +kernel
theorem dX0_doFailedSharesAgain_77 : decode cX0_doFailedSharesAgain 77 = .ok (.goto (-75), 3) := by decide +kernel
theorem dX0_doFailedSharesAgain_80 : decode cX0_doFailedSharesAgain 80 = .ok (.return_, 1) := by decide +kernel
theorem dX0_breakOff_0 : decode cX0_breakOff 0 = .ok (.aload_n 0, 1) := by decide +kernel
theorem dX0_breakOff_1 : decode cX0_breakOff 1 = .ok (.getfield 11, 3) := by decide +kernel
theorem dX0_breakOff_4 : decode cX0_breakOff 4 = .ok (.iload_n 1, 1) := by decide +kernel
theorem dX0_breakOff_5 : decode cX0_breakOff 5 = .ok (.aaload, 1) := by decide +kernel
theorem dX0_breakOff_6 : decode cX0_breakOff 6 = .ok (.astore_n 2, 1) := by decide +kernel
theorem dX0_breakOff_7 : decode cX0_breakOff 7 = .ok (.aload_n 2, 1) := by decide +kernel
theorem dX0_breakOff_8 : decode cX0_breakOff 8 = .ok (.invokevirtual 188, 3) := by decide +kernel
theorem dX0_breakOff_11 : decode cX0_breakOff 11 = .ok (.ifCond .ne 5, 3) := by decide +kernel
theorem dX0_breakOff_14 : decode cX0_breakOff 14 = .ok (.iconst 0, 1) := by decide +kernel
theorem dX0_breakOff_15 : decode cX0_breakOff 15 = .ok (.ireturn, 1) := by decide +kernel
theorem dX0_breakOff_16 : decode cX0_breakOff 16 = .ok (.aload_n 2, 1) := by decide +kernel
theorem dX0_breakOff_17 : decode cX0_breakOff 17 = .ok (.getfield 135, 3) := by decide +kernel
theorem dX0_breakOff_20 : decode cX0_breakOff 20 = .ok (.ifCond .ne 17, 3) := by decide +kernel
theorem dX0_breakOff_23 : decode cX0_breakOff 23 = .ok (.aload_n 0, 1) := by decide +kernel
theorem dX0_breakOff_24 : decode cX0_breakOff 24 = .ok (.iload_n 1, 1) := by decide +kernel
theorem dX0_breakOff_25 : decode cX0_breakOff 25 = .ok (.bipush 6, 2) := by decide +kernel
theorem dX0_breakOff_27 : decode cX0_breakOff 27 = .ok (.invokevirtual 194, 3) := by decide +kernel
theorem dX0_breakOff_30 : decode cX0_breakOff 30 = .ok (.aload_n 0, 1) := by decide +kernel
theorem dX0_breakOff_31 : decode cX0_breakOff 31 = .ok (.invokevirtual 129, 3) := by decide +kernel
theorem dX0_breakOff_34 : decode cX0_breakOff 34 = .ok (.goto 8, 3) := by decide +kernel
theorem dX0_breakOff_37 : decode cX0_breakOff 37 = .ok (.aload_n 2, 1) := by decide +kernel
theorem dX0_breakOff_38 : decode cX0_breakOff 38 = .ok (.iconst 1, 1) := by decide +kernel
theorem dX0_breakOff_39 : decode cX0_breakOff 39 = .ok (.putfield 164, 3) := by decide +kernel
theorem dX0_breakOff_42 : decode cX0_breakOff 42 = .ok (.iconst 1, 1) := by decide +kernel
theorem dX0_breakOff_43 : decode cX0_breakOff 43 = .ok (.ireturn, 1) := by decide +kernel
theorem dX0_stopAll_0 : decode cX0_stopAll 0 = .ok (.aload_n 0, 1) := by decide +kernel
theorem dX0_stopAll_1 : decode cX0_stopAll 1 = .ok (.getfield 96, 3) := by decide +kernel
theorem dX0_stopAll_4 : decode cX0_stopAll 4 = .ok (.istore_n 1, 1) := by decide +kernel
theorem dX0_stopAll_5 : decode cX0_stopAll 5 = .ok (.aload_n 0, 1) := by decide +kernel
theorem dX0_stopAll_6 : decode cX0_stopAll 6 = .ok (.getfield 38, 3) := by decide +kernel
theorem dX0_stopAll_9 : decode cX0_stopAll 9 = .ok (.iconst 1, 1) := by decide +kernel
theorem dX0_stopAll_10 : decode cX0_stopAll 10 = .ok (.isub, 1) := by decide +kernel
theorem dX0_stopAll_11 : decode cX0_stopAll 11 = .ok (.istore_n 2, 1) := by decide +kernel
theorem dX0_stopAll_12 : decode cX0_stopAll 12 = .ok (.iload_n 2, 1) := by decide +kernel
theorem dX0_stopAll_13 : decode cX0_stopAll 13 = .ok (.ifCond .lt 41, 3) := by decide +kernel
theorem dX0_stopAll_16 : decode cX0_stopAll 16 = .ok (.aload_n 0, 1) := by decide +kernel
theorem dX0_stopAll_17 : decode cX0_stopAll 17 = .ok (.getfield 28, 3) := by decide +kernel
theorem dX0_stopAll_20 : decode cX0_stopAll 20 = .ok (.iload_n 2, 1) := by decide +kernel
theorem dX0_stopAll_21 : decode cX0_stopAll 21 = .ok (.iaload, 1) := by decide +kernel
theorem dX0_stopAll_22 : decode cX0_stopAll 22 = .ok (.istore_n 3, 1) := by decide +kernel
theorem dX0_stopAll_23 : decode cX0_stopAll 23 = .ok (.iload_n 3, 1) := by decide +kernel
theorem dX0_stopAll_24 : decode cX0_stopAll 24 = .ok (.bipush (-9), 2) := by decide +kernel
theorem dX0_stopAll_26 : decode cX0_stopAll 26 = .ok (.if_icmp .ne 6, 3) := by decide +kernel
theorem dX0_stopAll_29 : decode cX0_stopAll 29 = .ok (.goto 19, 3) := by decide +kernel
theorem dX0_stopAll_32 : decode cX0_stopAll 32 = .ok (.aload_n 0, 1) := by decide +kernel
theorem dX0_stopAll_33 : decode cX0_stopAll 33 = .ok (.getfield 11, 3) := by decide +kernel
theorem dX0_stopAll_36 : decode cX0_stopAll 36 = .ok (.iload_n 3, 1) := by decide +kernel
theorem dX0_stopAll_37 : decode cX0_stopAll 37 = .ok (.aaload, 1) := by decide +kernel
theorem dX0_stopAll_38 : decode cX0_stopAll 38 = .ok (.iconst 5, 1) := by decide +kernel
theorem dX0_stopAll_39 : decode cX0_stopAll 39 = .ok (.putfield 135, 3) := by decide +kernel
theorem dX0_stopAll_42 : decode cX0_stopAll 42 = .ok (.aload_n 0, 1) := by decide +kernel
theorem dX0_stopAll_43 : decode cX0_stopAll 43 = .ok (.iload_n 3, 1) := by decide +kernel
theorem dX0_stopAll_44 : decode cX0_stopAll 44 = .ok (.iload_n 2, 1) := by decide +kernel
theorem dX0_stopAll_45 : decode cX0_stopAll 45 = .ok (.invokevirtual 181, 3) := by decide +kernel
theorem dX0_stopAll_48 : decode cX0_stopAll 48 = .ok (.iinc 2 (-1), 3) := by decide +kernel
theorem dX0_stopAll_51 : decode cX0_stopAll 51 = .ok (.goto (-39), 3) := by decide +kernel
theorem dX0_stopAll_54 : decode cX0_stopAll 54 = .ok (.iconst 0, 1) := by decide +kernel
theorem dX0_stopAll_55 : decode cX0_stopAll 55 = .ok (.istore_n 2, 1) := by decide +kernel
theorem dX0_stopAll_56 : decode cX0_stopAll 56 = .ok (.iload_n 2, 1) := by decide +kernel
theorem dX0_stopAll_57 : decode cX0_stopAll 57 = .ok (.aload_n 0, 1) := by decide +kernel
theorem dX0_stopAll_58 : decode cX0_stopAll 58 = .ok (.getfield 42, 3) := by decide +kernel
theorem dX0_stopAll_61 : decode cX0_stopAll 61 = .ok (.getfield 102, 3) := by decide +kernel
theorem dX0_stopAll_64 : decode cX0_stopAll 64 = .ok (.if_icmp .ge 27, 3) := by decide +kernel
theorem dX0_stopAll_67 : decode cX0_stopAll 67 = .ok (.aload_n 0, 1) := by decide +kernel
theorem dX0_stopAll_68 : decode cX0_stopAll 68 = .ok (.getfield 11, 3) := by decide +kernel
theorem dX0_stopAll_71 : decode cX0_stopAll 71 = .ok (.iload_n 2, 1) := by decide +kernel
theorem dX0_stopAll_72 : decode cX0_stopAll 72 = .ok (.aaload, 1) := by decide +kernel
theorem dX0_stopAll_73 : decode cX0_stopAll 73 = .ok (.getfield 135, 3) := by decide +kernel
theorem dX0_stopAll_76 : decode cX0_stopAll 76 = .ok (.ifCond .ne 9, 3) := by decide +kernel
theorem dX0_stopAll_79 : decode cX0_stopAll 79 = .ok (.aload_n 0, 1) := by decide +kernel
theorem dX0_stopAll_80 : decode cX0_stopAll 80 = .ok (.iload_n 2, 1) := by decide +kernel
theorem dX0_stopAll_81 : decode cX0_stopAll 81 = .ok (.iconst 5, 1) := by decide +kernel
theorem dX0_stopAll_82 : decode cX0_stopAll 82 = .ok (.invokevirtual 194, 3) := by decide +kernel
theorem dX0_stopAll_85 : decode cX0_stopAll 85 = .ok (.iinc 2 1, 3) := by decide +kernel
theorem dX0_stopAll_88 : decode cX0_stopAll 88 = .ok (.goto (-32), 3) := by decide +kernel
theorem dX0_stopAll_91 : decode cX0_stopAll 91 = .ok (.aload_n 0, 1) := by decide +kernel
theorem dX0_stopAll_92 : decode cX0_stopAll 92 = .ok (.iconst 3, 1) := by decide +kernel
theorem dX0_stopAll_93 : decode cX0_stopAll 93 = .ok (.putfield 93, 3) := by decide +kernel
theorem dX0_stopAll_96 : decode cX0_stopAll 96 = .ok (.iload_n 1, 1) := by decide +kernel
theorem dX0_stopAll_97 : decode cX0_stopAll 97 = .ok (.ireturn, 1) := by decide +kernel
theorem dX0_answerOf_0 : decode cX0_answerOf 0 = .ok (.iload_n 1, 1) := by decide +kernel
theorem dX0_answerOf_1 : decode cX0_answerOf 1 = .ok (.ifCond .lt 27, 3) := by decide +kernel
theorem dX0_answerOf_4 : decode cX0_answerOf 4 = .ok (.iload_n 1, 1) := by decide +kernel
theorem dX0_answerOf_5 : decode cX0_answerOf 5 = .ok (.aload_n 0, 1) := by decide +kernel
theorem dX0_answerOf_6 : decode cX0_answerOf 6 = .ok (.getfield 42, 3) := by decide +kernel
theorem dX0_answerOf_9 : decode cX0_answerOf 9 = .ok (.getfield 102, 3) := by decide +kernel
theorem dX0_answerOf_12 : decode cX0_answerOf 12 = .ok (.if_icmp .ge 16, 3) := by decide +kernel
theorem dX0_answerOf_15 : decode cX0_answerOf 15 = .ok (.aload_n 0, 1) := by decide +kernel
theorem dX0_answerOf_16 : decode cX0_answerOf 16 = .ok (.getfield 11, 3) := by decide +kernel
theorem dX0_answerOf_19 : decode cX0_answerOf 19 = .ok (.iload_n 1, 1) := by decide +kernel
theorem dX0_answerOf_20 : decode cX0_answerOf 20 = .ok (.aaload, 1) := by decide +kernel
theorem dX0_answerOf_21 : decode cX0_answerOf 21 = .ok (.getfield 135, 3) := by decide +kernel
theorem dX0_answerOf_24 : decode cX0_answerOf 24 = .ok (.iconst 2, 1) := by decide +kernel
theorem dX0_answerOf_25 : decode cX0_answerOf 25 = .ok (.if_icmp .eq 7, 3) := by decide +kernel
theorem dX0_answerOf_28 : decode cX0_answerOf 28 = .ok (.ldc2_w 209, 3) := by decide +kernel
theorem dX0_answerOf_31 : decode cX0_answerOf 31 = .ok (.lreturn, 1) := by decide +kernel
theorem dX0_answerOf_32 : decode cX0_answerOf 32 = .ok (.aload_n 0, 1) := by decide +kernel
theorem dX0_answerOf_33 : decode cX0_answerOf 33 = .ok (.getfield 42, 3) := by decide +kernel
theorem dX0_answerOf_36 : decode cX0_answerOf 36 = .ok (.getfield 142, 3) := by decide +kernel
theorem dX0_answerOf_39 : decode cX0_answerOf 39 = .ok (.iload_n 1, 1) := by decide +kernel
theorem dX0_answerOf_40 : decode cX0_answerOf 40 = .ok (.aaload, 1) := by decide +kernel
theorem dX0_answerOf_41 : decode cX0_answerOf 41 = .ok (.aload_n 0, 1) := by decide +kernel
theorem dX0_answerOf_42 : decode cX0_answerOf 42 = .ok (.getfield 11, 3) := by decide +kernel
theorem dX0_answerOf_45 : decode cX0_answerOf 45 = .ok (.iload_n 1, 1) := by decide +kernel
theorem dX0_answerOf_46 : decode cX0_answerOf 46 = .ok (.aaload, 1) := by decide +kernel
theorem dX0_answerOf_47 : decode cX0_answerOf 47 = .ok (.invokevirtual 211, 3) := by decide +kernel
theorem dX0_answerOf_50 : decode cX0_answerOf 50 = .ok (.lreturn, 1) := by decide +kernel
theorem dX0_lostOf_0 : decode cX0_lostOf 0 = .ok (.iconst 0, 1) := by decide +kernel
theorem dX0_lostOf_1 : decode cX0_lostOf 1 = .ok (.istore_n 2, 1) := by decide +kernel
theorem dX0_lostOf_2 : decode cX0_lostOf 2 = .ok (.iconst 0, 1) := by decide +kernel
theorem dX0_lostOf_3 : decode cX0_lostOf 3 = .ok (.istore_n 3, 1) := by decide +kernel
theorem dX0_lostOf_4 : decode cX0_lostOf 4 = .ok (.iload_n 3, 1) := by decide +kernel
theorem dX0_lostOf_5 : decode cX0_lostOf 5 = .ok (.aload_n 0, 1) := by decide +kernel
theorem dX0_lostOf_6 : decode cX0_lostOf 6 = .ok (.getfield 42, 3) := by decide +kernel
theorem dX0_lostOf_9 : decode cX0_lostOf 9 = .ok (.getfield 102, 3) := by decide +kernel
theorem dX0_lostOf_12 : decode cX0_lostOf 12 = .ok (.if_icmp .ge 56, 3) := by decide +kernel
theorem dX0_lostOf_15 : decode cX0_lostOf 15 = .ok (.aload_n 0, 1) := by decide +kernel
theorem dX0_lostOf_16 : decode cX0_lostOf 16 = .ok (.getfield 42, 3) := by decide +kernel
theorem dX0_lostOf_19 : decode cX0_lostOf 19 = .ok (.getfield 142, 3) := by decide +kernel
theorem dX0_lostOf_22 : decode cX0_lostOf 22 = .ok (.iload_n 3, 1) := by decide +kernel
theorem dX0_lostOf_23 : decode cX0_lostOf 23 = .ok (.aaload, 1) := by decide +kernel
theorem dX0_lostOf_24 : decode cX0_lostOf 24 = .ok (.astore 5, 2) := by decide +kernel
theorem dX0_lostOf_26 : decode cX0_lostOf 26 = .ok (.aload 5, 2) := by decide +kernel
theorem dX0_lostOf_28 : decode cX0_lostOf 28 = .ok (.instanceof 197, 3) := by decide +kernel
theorem dX0_lostOf_31 : decode cX0_lostOf 31 = .ok (.ifCond .eq 31, 3) := by decide +kernel
theorem dX0_lostOf_34 : decode cX0_lostOf 34 = .ok (.aload 5, 2) := by decide +kernel
theorem dX0_lostOf_36 : decode cX0_lostOf 36 = .ok (.checkcast 197, 3) := by decide +kernel
theorem dX0_lostOf_39 : decode cX0_lostOf 39 = .ok (.astore 4, 2) := by decide +kernel
theorem dX0_lostOf_41 : decode cX0_lostOf 41 = .ok (.aload 4, 2) := by decide +kernel
theorem dX0_lostOf_43 : decode cX0_lostOf 43 = .ok (.getfield 199, 3) := by decide +kernel
theorem dX0_lostOf_46 : decode cX0_lostOf 46 = .ok (.iload_n 1, 1) := by decide +kernel
theorem dX0_lostOf_47 : decode cX0_lostOf 47 = .ok (.if_icmp .ne 15, 3) := by decide +kernel
theorem dX0_lostOf_50 : decode cX0_lostOf 50 = .ok (.iload_n 2, 1) := by decide +kernel
theorem dX0_lostOf_51 : decode cX0_lostOf 51 = .ok (.aload_n 0, 1) := by decide +kernel
theorem dX0_lostOf_52 : decode cX0_lostOf 52 = .ok (.getfield 11, 3) := by decide +kernel
theorem dX0_lostOf_55 : decode cX0_lostOf 55 = .ok (.iload_n 3, 1) := by decide +kernel
theorem dX0_lostOf_56 : decode cX0_lostOf 56 = .ok (.aaload, 1) := by decide +kernel
theorem dX0_lostOf_57 : decode cX0_lostOf 57 = .ok (.getfield 206, 3) := by decide +kernel
theorem dX0_lostOf_60 : decode cX0_lostOf 60 = .ok (.iadd, 1) := by decide +kernel
theorem dX0_lostOf_61 : decode cX0_lostOf 61 = .ok (.istore_n 2, 1) := by decide +kernel
theorem dX0_lostOf_62 : decode cX0_lostOf 62 = .ok (.iinc 3 1, 3) := by decide +kernel
theorem dX0_lostOf_65 : decode cX0_lostOf 65 = .ok (.goto (-61), 3) := by decide +kernel
theorem dX0_lostOf_68 : decode cX0_lostOf 68 = .ok (.iload_n 2, 1) := by decide +kernel
theorem dX0_lostOf_69 : decode cX0_lostOf 69 = .ok (.ireturn, 1) := by decide +kernel
theorem dX0_foundAs_0 : decode cX0_foundAs 0 = .ok (.aload_n 0, 1) := by decide +kernel
theorem dX0_foundAs_1 : decode cX0_foundAs 1 = .ok (.getfield 90, 3) := by decide +kernel
theorem dX0_foundAs_4 : decode cX0_foundAs 4 = .ok (.aload_n 1, 1) := by decide +kernel
theorem dX0_foundAs_5 : decode cX0_foundAs 5 = .ok (.getfield 90, 3) := by decide +kernel
theorem dX0_foundAs_8 : decode cX0_foundAs 8 = .ok (.if_icmp .ne 23, 3) := by decide +kernel
theorem dX0_foundAs_11 : decode cX0_foundAs 11 = .ok (.aload_n 0, 1) := by decide +kernel
theorem dX0_foundAs_12 : decode cX0_foundAs 12 = .ok (.aload_n 0, 1) := by decide +kernel
theorem dX0_foundAs_13 : decode cX0_foundAs 13 = .ok (.getfield 90, 3) := by decide +kernel
theorem dX0_foundAs_16 : decode cX0_foundAs 16 = .ok (.invokevirtual 215, 3) := by decide +kernel
theorem dX0_foundAs_19 : decode cX0_foundAs 19 = .ok (.aload_n 1, 1) := by decide +kernel
theorem dX0_foundAs_20 : decode cX0_foundAs 20 = .ok (.aload_n 0, 1) := by decide +kernel
theorem dX0_foundAs_21 : decode cX0_foundAs 21 = .ok (.getfield 90, 3) := by decide +kernel
theorem dX0_foundAs_24 : decode cX0_foundAs 24 = .ok (.invokevirtual 215, 3) := by decide +kernel
theorem dX0_foundAs_27 : decode cX0_foundAs 27 = .ok (.lcmp, 1) := by decide +kernel
theorem dX0_foundAs_28 : decode cX0_foundAs 28 = .ok (.ifCond .eq 5, 3) := by decide +kernel
theorem dX0_foundAs_31 : decode cX0_foundAs 31 = .ok (.iconst 0, 1) := by decide +kernel
theorem dX0_foundAs_32 : decode cX0_foundAs 32 = .ok (.ireturn, 1) := by decide +kernel
theorem dX0_foundAs_33 : decode cX0_foundAs 33 = .ok (.iconst 0, 1) := by decide +kernel
theorem dX0_foundAs_34 : decode cX0_foundAs 34 = .ok (.istore_n 2, 1) := by decide +kernel
theorem dX0_foundAs_35 : decode cX0_foundAs 35 = .ok (.iload_n 2, 1) := by decide +kernel
theorem dX0_foundAs_36 : decode cX0_foundAs 36 = .ok (.aload_n 0, 1) := by decide +kernel
theorem dX0_foundAs_37 : decode cX0_foundAs 37 = .ok (.getfield 42, 3) := by decide +kernel
theorem dX0_foundAs_40 : decode cX0_foundAs 40 = .ok (.getfield 102, 3) := by decide +kernel
theorem dX0_foundAs_43 : decode cX0_foundAs 43 = .ok (.if_icmp .ge 20, 3) := by decide +kernel
theorem dX0_foundAs_46 : decode cX0_foundAs 46 = .ok (.aload_n 0, 1) := by decide +kernel
theorem dX0_foundAs_47 : decode cX0_foundAs 47 = .ok (.aload_n 1, 1) := by decide +kernel
theorem dX0_foundAs_48 : decode cX0_foundAs 48 = .ok (.iload_n 2, 1) := by decide +kernel
theorem dX0_foundAs_49 : decode cX0_foundAs 49 = .ok (.invokevirtual 219, 3) := by decide +kernel
theorem dX0_foundAs_52 : decode cX0_foundAs 52 = .ok (.ifCond .ne 5, 3) := by decide +kernel
theorem dX0_foundAs_55 : decode cX0_foundAs 55 = .ok (.iconst 0, 1) := by decide +kernel
theorem dX0_foundAs_56 : decode cX0_foundAs 56 = .ok (.ireturn, 1) := by decide +kernel
theorem dX0_foundAs_57 : decode cX0_foundAs 57 = .ok (.iinc 2 1, 3) := by decide +kernel
theorem dX0_foundAs_60 : decode cX0_foundAs 60 = .ok (.goto (-25), 3) := by decide +kernel
theorem dX0_foundAs_63 : decode cX0_foundAs 63 = .ok (.iconst 0, 1) := by decide +kernel
theorem dX0_foundAs_64 : decode cX0_foundAs 64 = .ok (.istore_n 2, 1) := by decide +kernel
theorem dX0_foundAs_65 : decode cX0_foundAs 65 = .ok (.iload_n 2, 1) := by decide +kernel
theorem dX0_foundAs_66 : decode cX0_foundAs 66 = .ok (.aload_n 0, 1) := by decide +kernel
theorem dX0_foundAs_67 : decode cX0_foundAs 67 = .ok (.getfield 42, 3) := by decide +kernel
theorem dX0_foundAs_70 : decode cX0_foundAs 70 = .ok (.getfield 57, 3) := by decide +kernel
theorem dX0_foundAs_73 : decode cX0_foundAs 73 = .ok (.if_icmp .ge 54, 3) := by decide +kernel
theorem dX0_foundAs_76 : decode cX0_foundAs 76 = .ok (.aload_n 0, 1) := by decide +kernel
theorem dX0_foundAs_77 : decode cX0_foundAs 77 = .ok (.getfield 19, 3) := by decide +kernel
theorem dX0_foundAs_80 : decode cX0_foundAs 80 = .ok (.iload_n 2, 1) := by decide +kernel
theorem dX0_foundAs_81 : decode cX0_foundAs 81 = .ok (.aaload, 1) := by decide +kernel
theorem dX0_foundAs_82 : decode cX0_foundAs 82 = .ok (.getfield 223, 3) := by decide +kernel
theorem dX0_foundAs_85 : decode cX0_foundAs 85 = .ok (.aload_n 1, 1) := by decide +kernel
theorem dX0_foundAs_86 : decode cX0_foundAs 86 = .ok (.getfield 19, 3) := by decide +kernel
theorem dX0_foundAs_89 : decode cX0_foundAs 89 = .ok (.iload_n 2, 1) := by decide +kernel
theorem dX0_foundAs_90 : decode cX0_foundAs 90 = .ok (.aaload, 1) := by decide +kernel
theorem dX0_foundAs_91 : decode cX0_foundAs 91 = .ok (.getfield 223, 3) := by decide +kernel
theorem dX0_foundAs_94 : decode cX0_foundAs 94 = .ok (.if_icmp .ne 25, 3) := by decide +kernel
theorem dX0_foundAs_97 : decode cX0_foundAs 97 = .ok (.aload_n 0, 1) := by decide +kernel
theorem dX0_foundAs_98 : decode cX0_foundAs 98 = .ok (.getfield 19, 3) := by decide +kernel
theorem dX0_foundAs_101 : decode cX0_foundAs 101 = .ok (.iload_n 2, 1) := by decide +kernel
theorem dX0_foundAs_102 : decode cX0_foundAs 102 = .ok (.aaload, 1) := by decide +kernel
theorem dX0_foundAs_103 : decode cX0_foundAs 103 = .ok (.getfield 226, 3) := by decide +kernel
theorem dX0_foundAs_106 : decode cX0_foundAs 106 = .ok (.aload_n 1, 1) := by decide +kernel
theorem dX0_foundAs_107 : decode cX0_foundAs 107 = .ok (.getfield 19, 3) := by decide +kernel
theorem dX0_foundAs_110 : decode cX0_foundAs 110 = .ok (.iload_n 2, 1) := by decide +kernel
theorem dX0_foundAs_111 : decode cX0_foundAs 111 = .ok (.aaload, 1) := by decide +kernel
theorem dX0_foundAs_112 : decode cX0_foundAs 112 = .ok (.getfield 226, 3) := by decide +kernel
theorem dX0_foundAs_115 : decode cX0_foundAs 115 = .ok (.lcmp, 1) := by decide +kernel
theorem dX0_foundAs_116 : decode cX0_foundAs 116 = .ok (.ifCond .eq 5, 3) := by decide +kernel
theorem dX0_foundAs_119 : decode cX0_foundAs 119 = .ok (.iconst 0, 1) := by decide +kernel
theorem dX0_foundAs_120 : decode cX0_foundAs 120 = .ok (.ireturn, 1) := by decide +kernel
theorem dX0_foundAs_121 : decode cX0_foundAs 121 = .ok (.iinc 2 1, 3) := by decide +kernel
theorem dX0_foundAs_124 : decode cX0_foundAs 124 = .ok (.goto (-59), 3) := by decide +kernel
theorem dX0_foundAs_127 : decode cX0_foundAs 127 = .ok (.iconst 1, 1) := by decide +kernel
theorem dX0_foundAs_128 : decode cX0_foundAs 128 = .ok (.ireturn, 1) := by decide +kernel
theorem dX0_endedAs_0 : decode cX0_endedAs 0 = .ok (.aload_n 0, 1) := by decide +kernel
theorem dX0_endedAs_1 : decode cX0_endedAs 1 = .ok (.getfield 11, 3) := by decide +kernel
theorem dX0_endedAs_4 : decode cX0_endedAs 4 = .ok (.iload_n 2, 1) := by decide +kernel
theorem dX0_endedAs_5 : decode cX0_endedAs 5 = .ok (.aaload, 1) := by decide +kernel
theorem dX0_endedAs_6 : decode cX0_endedAs 6 = .ok (.astore_n 3, 1) := by decide +kernel
theorem dX0_endedAs_7 : decode cX0_endedAs 7 = .ok (.aload_n 1, 1) := by decide +kernel
theorem dX0_endedAs_8 : decode cX0_endedAs 8 = .ok (.getfield 11, 3) := by decide +kernel
theorem dX0_endedAs_11 : decode cX0_endedAs 11 = .ok (.iload_n 2, 1) := by decide +kernel
theorem dX0_endedAs_12 : decode cX0_endedAs 12 = .ok (.aaload, 1) := by decide +kernel
theorem dX0_endedAs_13 : decode cX0_endedAs 13 = .ok (.astore 4, 2) := by decide +kernel
theorem dX0_endedAs_15 : decode cX0_endedAs 15 = .ok (.aload_n 0, 1) := by decide +kernel
theorem dX0_endedAs_16 : decode cX0_endedAs 16 = .ok (.getfield 42, 3) := by decide +kernel
theorem dX0_endedAs_19 : decode cX0_endedAs 19 = .ok (.getfield 142, 3) := by decide +kernel
theorem dX0_endedAs_22 : decode cX0_endedAs 22 = .ok (.iload_n 2, 1) := by decide +kernel
theorem dX0_endedAs_23 : decode cX0_endedAs 23 = .ok (.aaload, 1) := by decide +kernel
theorem dX0_endedAs_24 : decode cX0_endedAs 24 = .ok (.invokevirtual 184, 3) := by decide +kernel
theorem dX0_endedAs_27 : decode cX0_endedAs 27 = .ok (.ifCond .ne 39, 3) := by decide +kernel
theorem dX0_endedAs_30 : decode cX0_endedAs 30 = .ok (.aload_n 3, 1) := by decide +kernel
theorem dX0_endedAs_31 : decode cX0_endedAs 31 = .ok (.getfield 135, 3) := by decide +kernel
theorem dX0_endedAs_34 : decode cX0_endedAs 34 = .ok (.iconst 4, 1) := by decide +kernel
theorem dX0_endedAs_35 : decode cX0_endedAs 35 = .ok (.if_icmp .ne 7, 3) := by decide +kernel
theorem dX0_endedAs_38 : decode cX0_endedAs 38 = .ok (.iconst 1, 1) := by decide +kernel
theorem dX0_endedAs_39 : decode cX0_endedAs 39 = .ok (.goto 4, 3) := by decide +kernel
theorem dX0_endedAs_42 : decode cX0_endedAs 42 = .ok (.iconst 0, 1) := by decide +kernel
theorem dX0_endedAs_43 : decode cX0_endedAs 43 = .ok (.aload 4, 2) := by decide +kernel
theorem dX0_endedAs_45 : decode cX0_endedAs 45 = .ok (.getfield 135, 3) := by decide +kernel
theorem dX0_endedAs_48 : decode cX0_endedAs 48 = .ok (.iconst 4, 1) := by decide +kernel
theorem dX0_endedAs_49 : decode cX0_endedAs 49 = .ok (.if_icmp .ne 7, 3) := by decide +kernel
theorem dX0_endedAs_52 : decode cX0_endedAs 52 = .ok (.iconst 1, 1) := by decide +kernel
theorem dX0_endedAs_53 : decode cX0_endedAs 53 = .ok (.goto 4, 3) := by decide +kernel
theorem dX0_endedAs_56 : decode cX0_endedAs 56 = .ok (.iconst 0, 1) := by decide +kernel
theorem dX0_endedAs_57 : decode cX0_endedAs 57 = .ok (.if_icmp .ne 7, 3) := by decide +kernel
theorem dX0_endedAs_60 : decode cX0_endedAs 60 = .ok (.iconst 1, 1) := by decide +kernel
theorem dX0_endedAs_61 : decode cX0_endedAs 61 = .ok (.goto 4, 3) := by decide +kernel
theorem dX0_endedAs_64 : decode cX0_endedAs 64 = .ok (.iconst 0, 1) := by decide +kernel
theorem dX0_endedAs_65 : decode cX0_endedAs 65 = .ok (.ireturn, 1) := by decide +kernel
theorem dX0_endedAs_66 : decode cX0_endedAs 66 = .ok (.aload_n 0, 1) := by decide +kernel
theorem dX0_endedAs_67 : decode cX0_endedAs 67 = .ok (.getfield 90, 3) := by decide +kernel
theorem dX0_endedAs_70 : decode cX0_endedAs 70 = .ok (.bipush (-9), 2) := by decide +kernel
theorem dX0_endedAs_72 : decode cX0_endedAs 72 = .ok (.if_icmp .eq 13, 3) := by decide +kernel
theorem dX0_endedAs_75 : decode cX0_endedAs 75 = .ok (.iload_n 2, 1) := by decide +kernel
theorem dX0_endedAs_76 : decode cX0_endedAs 76 = .ok (.aload_n 0, 1) := by decide +kernel
theorem dX0_endedAs_77 : decode cX0_endedAs 77 = .ok (.getfield 90, 3) := by decide +kernel
theorem dX0_endedAs_80 : decode cX0_endedAs 80 = .ok (.if_icmp .le 5, 3) := by decide +kernel
theorem dX0_endedAs_83 : decode cX0_endedAs 83 = .ok (.iconst 1, 1) := by decide +kernel
theorem dX0_endedAs_84 : decode cX0_endedAs 84 = .ok (.ireturn, 1) := by decide +kernel
theorem dX0_endedAs_85 : decode cX0_endedAs 85 = .ok (.aload_n 3, 1) := by decide +kernel
theorem dX0_endedAs_86 : decode cX0_endedAs 86 = .ok (.getfield 135, 3) := by decide +kernel
theorem dX0_endedAs_89 : decode cX0_endedAs 89 = .ok (.aload 4, 2) := by decide +kernel
theorem dX0_endedAs_91 : decode cX0_endedAs 91 = .ok (.getfield 135, 3) := by decide +kernel
theorem dX0_endedAs_94 : decode cX0_endedAs 94 = .ok (.if_icmp .ne 19, 3) := by decide +kernel
theorem dX0_endedAs_97 : decode cX0_endedAs 97 = .ok (.aload_n 3, 1) := by decide +kernel
theorem dX0_endedAs_98 : decode cX0_endedAs 98 = .ok (.getfield 229, 3) := by decide +kernel
theorem dX0_endedAs_101 : decode cX0_endedAs 101 = .ok (.aload 4, 2) := by decide +kernel
theorem dX0_endedAs_103 : decode cX0_endedAs 103 = .ok (.getfield 229, 3) := by decide +kernel
theorem dX0_endedAs_106 : decode cX0_endedAs 106 = .ok (.if_icmp .ne 7, 3) := by decide +kernel
theorem dX0_endedAs_109 : decode cX0_endedAs 109 = .ok (.iconst 1, 1) := by decide +kernel
theorem dX0_endedAs_110 : decode cX0_endedAs 110 = .ok (.goto 4, 3) := by decide +kernel
theorem dX0_endedAs_113 : decode cX0_endedAs 113 = .ok (.iconst 0, 1) := by decide +kernel
theorem dX0_endedAs_114 : decode cX0_endedAs 114 = .ok (.ireturn, 1) := by decide +kernel
theorem dX1_init_0 : decode cX1_init 0 = .ok (.aload_n 0, 1) := by decide +kernel
theorem dX1_init_1 : decode cX1_init 1 = .ok (.invokespecial 3, 3) := by decide +kernel
theorem dX1_init_4 : decode cX1_init 4 = .ok (.aload_n 0, 1) := by decide +kernel
theorem dX1_init_5 : decode cX1_init 5 = .ok (.iload_n 1, 1) := by decide +kernel
theorem dX1_init_6 : decode cX1_init 6 = .ok (.putfield 9, 3) := by decide +kernel
theorem dX1_init_9 : decode cX1_init 9 = .ok (.aload_n 0, 1) := by decide +kernel
theorem dX1_init_10 : decode cX1_init 10 = .ok (.iload_n 2, 1) := by decide +kernel
theorem dX1_init_11 : decode cX1_init 11 = .ok (.anewarray 15, 3) := by decide +kernel
theorem dX1_init_14 : decode cX1_init 14 = .ok (.putfield 17, 3) := by decide +kernel
theorem dX1_init_17 : decode cX1_init 17 = .ok (.return_, 1) := by decide +kernel
theorem dX1_has_0 : decode cX1_has 0 = .ok (.iload_n 1, 1) := by decide +kernel
theorem dX1_has_1 : decode cX1_has 1 = .ok (.ifCond .lt 16, 3) := by decide +kernel
theorem dX1_has_4 : decode cX1_has 4 = .ok (.iload_n 1, 1) := by decide +kernel
theorem dX1_has_5 : decode cX1_has 5 = .ok (.aload_n 0, 1) := by decide +kernel
theorem dX1_has_6 : decode cX1_has 6 = .ok (.getfield 17, 3) := by decide +kernel
theorem dX1_has_9 : decode cX1_has 9 = .ok (.arraylength, 1) := by decide +kernel
theorem dX1_has_10 : decode cX1_has 10 = .ok (.if_icmp .ge 7, 3) := by decide +kernel
theorem dX1_has_13 : decode cX1_has 13 = .ok (.iconst 1, 1) := by decide +kernel
theorem dX1_has_14 : decode cX1_has 14 = .ok (.goto 4, 3) := by decide +kernel
theorem dX1_has_17 : decode cX1_has 17 = .ok (.iconst 0, 1) := by decide +kernel
theorem dX1_has_18 : decode cX1_has 18 = .ok (.ireturn, 1) := by decide +kernel
theorem dX1_faultOf_0 : decode cX1_faultOf 0 = .ok (.aload_n 0, 1) := by decide +kernel
theorem dX1_faultOf_1 : decode cX1_faultOf 1 = .ok (.iload_n 1, 1) := by decide +kernel
theorem dX1_faultOf_2 : decode cX1_faultOf 2 = .ok (.invokevirtual 21, 3) := by decide +kernel
theorem dX1_faultOf_5 : decode cX1_faultOf 5 = .ok (.ifCond .ne 5, 3) := by decide +kernel
theorem dX1_faultOf_8 : decode cX1_faultOf 8 = .ok (.iconst 2, 1) := by decide +kernel
theorem dX1_faultOf_9 : decode cX1_faultOf 9 = .ok (.ireturn, 1) := by decide +kernel
theorem dX1_faultOf_10 : decode cX1_faultOf 10 = .ok (.aload_n 0, 1) := by decide +kernel
theorem dX1_faultOf_11 : decode cX1_faultOf 11 = .ok (.getfield 17, 3) := by decide +kernel
theorem dX1_faultOf_14 : decode cX1_faultOf 14 = .ok (.iload_n 1, 1) := by decide +kernel
theorem dX1_faultOf_15 : decode cX1_faultOf 15 = .ok (.aaload, 1) := by decide +kernel
theorem dX1_faultOf_16 : decode cX1_faultOf 16 = .ok (.ifnonnull 7, 3) := by decide +kernel
theorem dX1_faultOf_19 : decode cX1_faultOf 19 = .ok (.iconst 1, 1) := by decide +kernel
theorem dX1_faultOf_20 : decode cX1_faultOf 20 = .ok (.goto 4, 3) := by decide +kernel
theorem dX1_faultOf_23 : decode cX1_faultOf 23 = .ok (.iconst 0, 1) := by decide +kernel
theorem dX1_faultOf_24 : decode cX1_faultOf 24 = .ok (.ireturn, 1) := by decide +kernel
theorem dX2_init_0 : decode cX2_init 0 = .ok (.aload_n 0, 1) := by decide +kernel
theorem dX2_init_1 : decode cX2_init 1 = .ok (.invokespecial 3, 3) := by decide +kernel
theorem dX2_init_4 : decode cX2_init 4 = .ok (.return_, 1) := by decide +kernel
theorem dX2_begin_0 : decode cX2_begin 0 = .ok (.aload_n 0, 1) := by decide +kernel
theorem dX2_begin_1 : decode cX2_begin 1 = .ok (.lconst 0, 1) := by decide +kernel
theorem dX2_begin_2 : decode cX2_begin 2 = .ok (.putfield 9, 3) := by decide +kernel
theorem dX2_begin_5 : decode cX2_begin 5 = .ok (.aload_n 0, 1) := by decide +kernel
theorem dX2_begin_6 : decode cX2_begin 6 = .ok (.bipush (-9), 2) := by decide +kernel
theorem dX2_begin_8 : decode cX2_begin 8 = .ok (.putfield 15, 3) := by decide +kernel
theorem dX2_begin_11 : decode cX2_begin 11 = .ok (.aload_n 0, 1) := by decide +kernel
theorem dX2_begin_12 : decode cX2_begin 12 = .ok (.lload_n 1, 1) := by decide +kernel
theorem dX2_begin_13 : decode cX2_begin 13 = .ok (.putfield 19, 3) := by decide +kernel
theorem dX2_begin_16 : decode cX2_begin 16 = .ok (.return_, 1) := by decide +kernel
theorem dX2_offer_0 : decode cX2_offer 0 = .ok (.aload_n 0, 1) := by decide +kernel
theorem dX2_offer_1 : decode cX2_offer 1 = .ok (.getfield 15, 3) := by decide +kernel
theorem dX2_offer_4 : decode cX2_offer 4 = .ok (.bipush (-9), 2) := by decide +kernel
theorem dX2_offer_6 : decode cX2_offer 6 = .ok (.if_icmp .eq 29, 3) := by decide +kernel
theorem dX2_offer_9 : decode cX2_offer 9 = .ok (.aload_n 0, 1) := by decide +kernel
theorem dX2_offer_10 : decode cX2_offer 10 = .ok (.getfield 9, 3) := by decide +kernel
theorem dX2_offer_13 : decode cX2_offer 13 = .ok (.lload_n 1, 1) := by decide +kernel
theorem dX2_offer_14 : decode cX2_offer 14 = .ok (.lcmp, 1) := by decide +kernel
theorem dX2_offer_15 : decode cX2_offer 15 = .ok (.ifCond .gt 20, 3) := by decide +kernel
theorem dX2_offer_18 : decode cX2_offer 18 = .ok (.aload_n 0, 1) := by decide +kernel
theorem dX2_offer_19 : decode cX2_offer 19 = .ok (.getfield 9, 3) := by decide +kernel
theorem dX2_offer_22 : decode cX2_offer 22 = .ok (.lload_n 1, 1) := by decide +kernel
theorem dX2_offer_23 : decode cX2_offer 23 = .ok (.lcmp, 1) := by decide +kernel
theorem dX2_offer_24 : decode cX2_offer 24 = .ok (.ifCond .ne 15, 3) := by decide +kernel
theorem dX2_offer_27 : decode cX2_offer 27 = .ok (.aload_n 0, 1) := by decide +kernel
theorem dX2_offer_28 : decode cX2_offer 28 = .ok (.getfield 15, 3) := by decide +kernel
theorem dX2_offer_31 : decode cX2_offer 31 = .ok (.iload_n 3, 1) := by decide +kernel
theorem dX2_offer_32 : decode cX2_offer 32 = .ok (.if_icmp .le 7, 3) := by decide +kernel
theorem dX2_offer_35 : decode cX2_offer 35 = .ok (.iconst 1, 1) := by decide +kernel
theorem dX2_offer_36 : decode cX2_offer 36 = .ok (.goto 4, 3) := by decide +kernel
theorem dX2_offer_39 : decode cX2_offer 39 = .ok (.iconst 0, 1) := by decide +kernel
theorem dX2_offer_40 : decode cX2_offer 40 = .ok (.istore 4, 2) := by decide +kernel
theorem dX2_offer_42 : decode cX2_offer 42 = .ok (.iload 4, 2) := by decide +kernel
theorem dX2_offer_44 : decode cX2_offer 44 = .ok (.ifCond .ne 4, 3) := by decide +kernel
theorem dX2_offer_47 : decode cX2_offer 47 = .ok (.return_, 1) := by decide +kernel
theorem dX2_offer_48 : decode cX2_offer 48 = .ok (.aload_n 0, 1) := by decide +kernel
theorem dX2_offer_49 : decode cX2_offer 49 = .ok (.lload_n 1, 1) := by decide +kernel
theorem dX2_offer_50 : decode cX2_offer 50 = .ok (.putfield 9, 3) := by decide +kernel
theorem dX2_offer_53 : decode cX2_offer 53 = .ok (.aload_n 0, 1) := by decide +kernel
theorem dX2_offer_54 : decode cX2_offer 54 = .ok (.iload_n 3, 1) := by decide +kernel
theorem dX2_offer_55 : decode cX2_offer 55 = .ok (.putfield 15, 3) := by decide +kernel
theorem dX2_offer_58 : decode cX2_offer 58 = .ok (.aload_n 0, 1) := by decide +kernel
theorem dX2_offer_59 : decode cX2_offer 59 = .ok (.lload_n 1, 1) := by decide +kernel
theorem dX2_offer_60 : decode cX2_offer 60 = .ok (.putfield 19, 3) := by decide +kernel
theorem dX2_offer_63 : decode cX2_offer 63 = .ok (.return_, 1) := by decide +kernel
theorem dX3_init_0 : decode cX3_init 0 = .ok (.aload_n 0, 1) := by decide +kernel
theorem dX3_init_1 : decode cX3_init 1 = .ok (.invokespecial 3, 3) := by decide +kernel
theorem dX3_init_4 : decode cX3_init 4 = .ok (.aload_n 0, 1) := by decide +kernel
theorem dX3_init_5 : decode cX3_init 5 = .ok (.iload_n 1, 1) := by decide +kernel
theorem dX3_init_6 : decode cX3_init 6 = .ok (.putfield 9, 3) := by decide +kernel
theorem dX3_init_9 : decode cX3_init 9 = .ok (.aload_n 0, 1) := by decide +kernel
theorem dX3_init_10 : decode cX3_init 10 = .ok (.iload_n 2, 1) := by decide +kernel
theorem dX3_init_11 : decode cX3_init 11 = .ok (.newarray .long, 2) := by decide +kernel
theorem dX3_init_13 : decode cX3_init 13 = .ok (.putfield 15, 3) := by decide +kernel
theorem dX3_init_16 : decode cX3_init 16 = .ok (.return_, 1) := by decide +kernel
theorem dX3_has_0 : decode cX3_has 0 = .ok (.iload_n 1, 1) := by decide +kernel
theorem dX3_has_1 : decode cX3_has 1 = .ok (.ifCond .lt 16, 3) := by decide +kernel
theorem dX3_has_4 : decode cX3_has 4 = .ok (.iload_n 1, 1) := by decide +kernel
theorem dX3_has_5 : decode cX3_has 5 = .ok (.aload_n 0, 1) := by decide +kernel
theorem dX3_has_6 : decode cX3_has 6 = .ok (.getfield 15, 3) := by decide +kernel
theorem dX3_has_9 : decode cX3_has 9 = .ok (.arraylength, 1) := by decide +kernel
theorem dX3_has_10 : decode cX3_has 10 = .ok (.if_icmp .ge 7, 3) := by decide +kernel
theorem dX3_has_13 : decode cX3_has 13 = .ok (.iconst 1, 1) := by decide +kernel
theorem dX3_has_14 : decode cX3_has 14 = .ok (.goto 4, 3) := by decide +kernel
theorem dX3_has_17 : decode cX3_has 17 = .ok (.iconst 0, 1) := by decide +kernel
theorem dX3_has_18 : decode cX3_has 18 = .ok (.ireturn, 1) := by decide +kernel
theorem dX3_worth_0 : decode cX3_worth 0 = .ok (.aload_n 0, 1) := by decide +kernel
theorem dX3_worth_1 : decode cX3_worth 1 = .ok (.iload_n 1, 1) := by decide +kernel
theorem dX3_worth_2 : decode cX3_worth 2 = .ok (.invokevirtual 19, 3) := by decide +kernel
theorem dX3_worth_5 : decode cX3_worth 5 = .ok (.ifCond .eq 14, 3) := by decide +kernel
theorem dX3_worth_8 : decode cX3_worth 8 = .ok (.aload_n 0, 1) := by decide +kernel
theorem dX3_worth_9 : decode cX3_worth 9 = .ok (.getfield 15, 3) := by decide +kernel
theorem dX3_worth_12 : decode cX3_worth 12 = .ok (.iload_n 1, 1) := by decide +kernel
theorem dX3_worth_13 : decode cX3_worth 13 = .ok (.laload, 1) := by decide +kernel
theorem dX3_worth_14 : decode cX3_worth 14 = .ok (.lconst 0, 1) := by decide +kernel
theorem dX3_worth_15 : decode cX3_worth 15 = .ok (.lcmp, 1) := by decide +kernel
theorem dX3_worth_16 : decode cX3_worth 16 = .ok (.ifCond .gt 5, 3) := by decide +kernel
theorem dX3_worth_19 : decode cX3_worth 19 = .ok (.lconst 0, 1) := by decide +kernel
theorem dX3_worth_20 : decode cX3_worth 20 = .ok (.lreturn, 1) := by decide +kernel
theorem dX3_worth_21 : decode cX3_worth 21 = .ok (.aload_n 0, 1) := by decide +kernel
theorem dX3_worth_22 : decode cX3_worth 22 = .ok (.getfield 15, 3) := by decide +kernel
theorem dX3_worth_25 : decode cX3_worth 25 = .ok (.iload_n 1, 1) := by decide +kernel
theorem dX3_worth_26 : decode cX3_worth 26 = .ok (.laload, 1) := by decide +kernel
theorem dX3_worth_27 : decode cX3_worth 27 = .ok (.ldc2_w 23, 3) := by decide +kernel
theorem dX3_worth_30 : decode cX3_worth 30 = .ok (.lcmp, 1) := by decide +kernel
theorem dX3_worth_31 : decode cX3_worth 31 = .ok (.ifCond .ge 12, 3) := by decide +kernel
theorem dX3_worth_34 : decode cX3_worth 34 = .ok (.aload_n 0, 1) := by decide +kernel
theorem dX3_worth_35 : decode cX3_worth 35 = .ok (.getfield 15, 3) := by decide +kernel
theorem dX3_worth_38 : decode cX3_worth 38 = .ok (.iload_n 1, 1) := by decide +kernel
theorem dX3_worth_39 : decode cX3_worth 39 = .ok (.laload, 1) := by decide +kernel
theorem dX3_worth_40 : decode cX3_worth 40 = .ok (.goto 6, 3) := by decide +kernel
theorem dX3_worth_43 : decode cX3_worth 43 = .ok (.ldc2_w 23, 3) := by decide +kernel
theorem dX3_worth_46 : decode cX3_worth 46 = .ok (.lreturn, 1) := by decide +kernel
theorem dX4_init_0 : decode cX4_init 0 = .ok (.aload_n 0, 1) := by decide +kernel
theorem dX4_init_1 : decode cX4_init 1 = .ok (.invokespecial 3, 3) := by decide +kernel
theorem dX4_init_4 : decode cX4_init 4 = .ok (.aload_n 0, 1) := by decide +kernel
theorem dX4_init_5 : decode cX4_init 5 = .ok (.bipush 6, 2) := by decide +kernel
theorem dX4_init_7 : decode cX4_init 7 = .ok (.anewarray 9, 3) := by decide +kernel
theorem dX4_init_10 : decode cX4_init 10 = .ok (.putfield 11, 3) := by decide +kernel
theorem dX4_init_13 : decode cX4_init 13 = .ok (.aload_n 0, 1) := by decide +kernel
theorem dX4_init_14 : decode cX4_init 14 = .ok (.bipush 20, 2) := by decide +kernel
theorem dX4_init_16 : decode cX4_init 16 = .ok (.anewarray 17, 3) := by decide +kernel
theorem dX4_init_19 : decode cX4_init 19 = .ok (.putfield 19, 3) := by decide +kernel
theorem dX4_init_22 : decode cX4_init 22 = .ok (.aload_n 0, 1) := by decide +kernel
theorem dX4_init_23 : decode cX4_init 23 = .ok (.bipush 8, 2) := by decide +kernel
theorem dX4_init_25 : decode cX4_init 25 = .ok (.anewarray 23, 3) := by decide +kernel
theorem dX4_init_28 : decode cX4_init 28 = .ok (.putfield 25, 3) := by decide +kernel
theorem dX4_init_31 : decode cX4_init 31 = .ok (.aload_n 0, 1) := by decide +kernel
theorem dX4_init_32 : decode cX4_init 32 = .ok (.sipush 400, 3) := by decide +kernel
theorem dX4_init_35 : decode cX4_init 35 = .ok (.newarray .int, 2) := by decide +kernel
theorem dX4_init_37 : decode cX4_init 37 = .ok (.putfield 29, 3) := by decide +kernel
theorem dX4_init_40 : decode cX4_init 40 = .ok (.return_, 1) := by decide +kernel
theorem dX4_gridAt_0 : decode cX4_gridAt 0 = .ok (.iload_n 1, 1) := by decide +kernel
theorem dX4_gridAt_1 : decode cX4_gridAt 1 = .ok (.ifCond .lt 20, 3) := by decide +kernel
theorem dX4_gridAt_4 : decode cX4_gridAt 4 = .ok (.iload_n 1, 1) := by decide +kernel
theorem dX4_gridAt_5 : decode cX4_gridAt 5 = .ok (.aload_n 0, 1) := by decide +kernel
theorem dX4_gridAt_6 : decode cX4_gridAt 6 = .ok (.getfield 33, 3) := by decide +kernel
theorem dX4_gridAt_9 : decode cX4_gridAt 9 = .ok (.if_icmp .ge 12, 3) := by decide +kernel
theorem dX4_gridAt_12 : decode cX4_gridAt 12 = .ok (.aload_n 0, 1) := by decide +kernel
theorem dX4_gridAt_13 : decode cX4_gridAt 13 = .ok (.getfield 11, 3) := by decide +kernel
theorem dX4_gridAt_16 : decode cX4_gridAt 16 = .ok (.iload_n 1, 1) := by decide +kernel
theorem dX4_gridAt_17 : decode cX4_gridAt 17 = .ok (.aaload, 1) := by decide +kernel
theorem dX4_gridAt_18 : decode cX4_gridAt 18 = .ok (.goto 4, 3) := by decide +kernel
theorem dX4_gridAt_21 : decode cX4_gridAt 21 = .ok (.aconst_null, 1) := by decide +kernel
theorem dX4_gridAt_22 : decode cX4_gridAt 22 = .ok (.areturn, 1) := by decide +kernel
theorem dX4_addTask_0 : decode cX4_addTask 0 = .ok (.aload_n 0, 1) := by decide +kernel
theorem dX4_addTask_1 : decode cX4_addTask 1 = .ok (.getfield 19, 3) := by decide +kernel
theorem dX4_addTask_4 : decode cX4_addTask 4 = .ok (.aload_n 0, 1) := by decide +kernel
theorem dX4_addTask_5 : decode cX4_addTask 5 = .ok (.getfield 37, 3) := by decide +kernel
theorem dX4_addTask_8 : decode cX4_addTask 8 = .ok (.aload_n 1, 1) := by decide +kernel
theorem dX4_addTask_9 : decode cX4_addTask 9 = .ok (.aastore, 1) := by decide +kernel
theorem dX4_addTask_10 : decode cX4_addTask 10 = .ok (.aload_n 0, 1) := by decide +kernel
theorem dX4_addTask_11 : decode cX4_addTask 11 = .ok (.dup, 1) := by decide +kernel
theorem dX4_addTask_12 : decode cX4_addTask 12 = .ok (.getfield 37, 3) := by decide +kernel
theorem dX4_addTask_15 : decode cX4_addTask 15 = .ok (.dup_x1, 1) := by decide +kernel
theorem dX4_addTask_16 : decode cX4_addTask 16 = .ok (.iconst 1, 1) := by decide +kernel
theorem dX4_addTask_17 : decode cX4_addTask 17 = .ok (.iadd, 1) := by decide +kernel
theorem dX4_addTask_18 : decode cX4_addTask 18 = .ok (.putfield 37, 3) := by decide +kernel
theorem dX4_addTask_21 : decode cX4_addTask 21 = .ok (.ireturn, 1) := by decide +kernel
theorem dX5_init_0 : decode cX5_init 0 = .ok (.aload_n 0, 1) := by decide +kernel
theorem dX5_init_1 : decode cX5_init 1 = .ok (.iload_n 1, 1) := by decide +kernel
theorem dX5_init_2 : decode cX5_init 2 = .ok (.ifCond .eq 7, 3) := by decide +kernel
theorem dX5_init_5 : decode cX5_init 5 = .ok (.iconst 3, 1) := by decide +kernel
theorem dX5_init_6 : decode cX5_init 6 = .ok (.goto 4, 3) := by decide +kernel
theorem dX5_init_9 : decode cX5_init 9 = .ok (.iconst 2, 1) := by decide +kernel
theorem dX5_init_10 : decode cX5_init 10 = .ok (.iload 4, 2) := by decide +kernel
theorem dX5_init_12 : decode cX5_init 12 = .ok (.iload 5, 2) := by decide +kernel
theorem dX5_init_14 : decode cX5_init 14 = .ok (.invokespecial 3, 3) := by decide +kernel
theorem dX5_init_17 : decode cX5_init 17 = .ok (.aload_n 0, 1) := by decide +kernel
theorem dX5_init_18 : decode cX5_init 18 = .ok (.aload_n 2, 1) := by decide +kernel
theorem dX5_init_19 : decode cX5_init 19 = .ok (.putfield 9, 3) := by decide +kernel
theorem dX5_init_22 : decode cX5_init 22 = .ok (.aload_n 0, 1) := by decide +kernel
theorem dX5_init_23 : decode cX5_init 23 = .ok (.iload_n 3, 1) := by decide +kernel
theorem dX5_init_24 : decode cX5_init 24 = .ok (.putfield 15, 3) := by decide +kernel
theorem dX5_init_27 : decode cX5_init 27 = .ok (.return_, 1) := by decide +kernel
theorem dX5_rank_0 : decode cX5_rank 0 = .ok (.aload_n 0, 1) := by decide +kernel
theorem dX5_rank_1 : decode cX5_rank 1 = .ok (.getfield 19, 3) := by decide +kernel
theorem dX5_rank_4 : decode cX5_rank 4 = .ok (.iconst 3, 1) := by decide +kernel
theorem dX5_rank_5 : decode cX5_rank 5 = .ok (.if_icmp .ne 8, 3) := by decide +kernel
theorem dX5_rank_8 : decode cX5_rank 8 = .ok (.bipush 12, 2) := by decide +kernel
theorem dX5_rank_10 : decode cX5_rank 10 = .ok (.goto 5, 3) := by decide +kernel
theorem dX5_rank_13 : decode cX5_rank 13 = .ok (.bipush 10, 2) := by decide +kernel
theorem dX5_rank_15 : decode cX5_rank 15 = .ok (.ireturn, 1) := by decide +kernel
theorem dX5_step_0 : decode cX5_step 0 = .ok (.aload_n 0, 1) := by decide +kernel
theorem dX5_step_1 : decode cX5_step 1 = .ok (.getfield 9, 3) := by decide +kernel
theorem dX5_step_4 : decode cX5_step 4 = .ok (.getfield 22, 3) := by decide +kernel
theorem dX5_step_7 : decode cX5_step 7 = .ok (.aload_n 0, 1) := by decide +kernel
theorem dX5_step_8 : decode cX5_step 8 = .ok (.getfield 15, 3) := by decide +kernel
theorem dX5_step_11 : decode cX5_step 11 = .ok (.if_icmp .eq 9, 3) := by decide +kernel
theorem dX5_step_14 : decode cX5_step 14 = .ok (.aload_n 1, 1) := by decide +kernel
theorem dX5_step_15 : decode cX5_step 15 = .ok (.iconst 3, 1) := by decide +kernel
theorem dX5_step_16 : decode cX5_step 16 = .ok (.invokevirtual 25, 3) := by decide +kernel
theorem dX5_step_19 : decode cX5_step 19 = .ok (.return_, 1) := by decide +kernel
theorem dX5_step_20 : decode cX5_step 20 = .ok (.aload_n 1, 1) := by decide +kernel
theorem dX5_step_21 : decode cX5_step 21 = .ok (.getfield 31, 3) := by decide +kernel
theorem dX5_step_24 : decode cX5_step 24 = .ok (.istore_n 3, 1) := by decide +kernel
theorem dX5_step_25 : decode cX5_step 25 = .ok (.iload_n 3, 1) := by decide +kernel
theorem dX5_step_26 : decode cX5_step 26 = .ok (.aload_n 0, 1) := by decide +kernel
theorem dX5_step_27 : decode cX5_step 27 = .ok (.getfield 9, 3) := by decide +kernel
theorem dX5_step_30 : decode cX5_step 30 = .ok (.getfield 34, 3) := by decide +kernel
theorem dX5_step_33 : decode cX5_step 33 = .ok (.arraylength, 1) := by decide +kernel
theorem dX5_step_34 : decode cX5_step 34 = .ok (.if_icmp .ge 61, 3) := by decide +kernel
theorem dX5_step_37 : decode cX5_step 37 = .ok (.aload_n 0, 1) := by decide +kernel
theorem dX5_step_38 : decode cX5_step 38 = .ok (.getfield 9, 3) := by decide +kernel
theorem dX5_step_41 : decode cX5_step 41 = .ok (.getfield 34, 3) := by decide +kernel
theorem dX5_step_44 : decode cX5_step 44 = .ok (.iload_n 3, 1) := by decide +kernel
theorem dX5_step_45 : decode cX5_step 45 = .ok (.aaload, 1) := by decide +kernel
theorem dX5_step_46 : decode cX5_step 46 = .ok (.astore 4, 2) := by decide +kernel
theorem dX5_step_48 : decode cX5_step 48 = .ok (.aload 4, 2) := by decide +kernel
theorem dX5_step_50 : decode cX5_step 50 = .ok (.ifnonnull 9, 3) := by decide +kernel
theorem dX5_step_53 : decode cX5_step 53 = .ok (.aload_n 0, 1) := by decide +kernel
theorem dX5_step_54 : decode cX5_step 54 = .ok (.aload_n 1, 1) := by decide +kernel
theorem dX5_step_55 : decode cX5_step 55 = .ok (.invokevirtual 38, 3) := by decide +kernel
theorem dX5_step_58 : decode cX5_step 58 = .ok (.return_, 1) := by decide +kernel
theorem dX5_step_59 : decode cX5_step 59 = .ok (.aload 4, 2) := by decide +kernel
theorem dX5_step_61 : decode cX5_step 61 = .ok (.aload_n 1, 1) := by decide +kernel
theorem dX5_step_62 : decode cX5_step 62 = .ok (.getfield 42, 3) := by decide +kernel
theorem dX5_step_65 : decode cX5_step 65 = .ok (.invokevirtual 45, 3) := by decide +kernel
theorem dX5_step_68 : decode cX5_step 68 = .ok (.ifCond .eq 17, 3) := by decide +kernel
theorem dX5_step_71 : decode cX5_step 71 = .ok (.aload_n 1, 1) := by decide +kernel
theorem dX5_step_72 : decode cX5_step 72 = .ok (.aload 4, 2) := by decide +kernel
theorem dX5_step_74 : decode cX5_step 74 = .ok (.aload_n 1, 1) := by decide +kernel
theorem dX5_step_75 : decode cX5_step 75 = .ok (.getfield 42, 3) := by decide +kernel
theorem dX5_step_78 : decode cX5_step 78 = .ok (.invokevirtual 51, 3) := by decide +kernel
theorem dX5_step_81 : decode cX5_step 81 = .ok (.invokevirtual 55, 3) := by decide +kernel
theorem dX5_step_84 : decode cX5_step 84 = .ok (.return_, 1) := by decide +kernel
theorem dX5_step_85 : decode cX5_step 85 = .ok (.aload_n 1, 1) := by decide +kernel
theorem dX5_step_86 : decode cX5_step 86 = .ok (.invokevirtual 59, 3) := by decide +kernel
theorem dX5_step_89 : decode cX5_step 89 = .ok (.iinc 3 1, 3) := by decide +kernel
theorem dX5_step_92 : decode cX5_step 92 = .ok (.goto (-67), 3) := by decide +kernel
theorem dX5_step_95 : decode cX5_step 95 = .ok (.aload_n 1, 1) := by decide +kernel
theorem dX5_step_96 : decode cX5_step 96 = .ok (.iconst 2, 1) := by decide +kernel
theorem dX5_step_97 : decode cX5_step 97 = .ok (.putfield 63, 3) := by decide +kernel
theorem dX5_step_100 : decode cX5_step 100 = .ok (.return_, 1) := by decide +kernel
theorem dX5_meetMissing_0 : decode cX5_meetMissing 0 = .ok (.aload_n 0, 1) := by decide +kernel
theorem dX5_meetMissing_1 : decode cX5_meetMissing 1 = .ok (.getfield 19, 3) := by decide +kernel
theorem dX5_meetMissing_4 : decode cX5_meetMissing 4 = .ok (.iconst 3, 1) := by decide +kernel
theorem dX5_meetMissing_5 : decode cX5_meetMissing 5 = .ok (.if_icmp .ne 20, 3) := by decide +kernel
theorem dX5_meetMissing_8 : decode cX5_meetMissing 8 = .ok (.aload_n 1, 1) := by decide +kernel
theorem dX5_meetMissing_9 : decode cX5_meetMissing 9 = .ok (.dup, 1) := by decide +kernel
theorem dX5_meetMissing_10 : decode cX5_meetMissing 10 = .ok (.getfield 66, 3) := by decide +kernel
theorem dX5_meetMissing_13 : decode cX5_meetMissing 13 = .ok (.iconst 1, 1) := by decide +kernel
theorem dX5_meetMissing_14 : decode cX5_meetMissing 14 = .ok (.iadd, 1) := by decide +kernel
theorem dX5_meetMissing_15 : decode cX5_meetMissing 15 = .ok (.putfield 66, 3) := by decide +kernel
theorem dX5_meetMissing_18 : decode cX5_meetMissing 18 = .ok (.aload_n 1, 1) := by decide +kernel
theorem dX5_meetMissing_19 : decode cX5_meetMissing 19 = .ok (.invokevirtual 59, 3) := by decide +kernel
theorem dX5_meetMissing_22 : decode cX5_meetMissing 22 = .ok (.goto 8, 3) := by decide +kernel
theorem dX5_meetMissing_25 : decode cX5_meetMissing 25 = .ok (.aload_n 1, 1) := by decide +kernel
theorem dX5_meetMissing_26 : decode cX5_meetMissing 26 = .ok (.iconst 1, 1) := by decide +kernel
theorem dX5_meetMissing_27 : decode cX5_meetMissing 27 = .ok (.invokevirtual 25, 3) := by decide +kernel
theorem dX5_meetMissing_30 : decode cX5_meetMissing 30 = .ok (.return_, 1) := by decide +kernel
theorem dX5_foundBy_0 : decode cX5_foundBy 0 = .ok (.aload_n 1, 1) := by decide +kernel
theorem dX5_foundBy_1 : decode cX5_foundBy 1 = .ok (.getfield 69, 3) := by decide +kernel
theorem dX5_foundBy_4 : decode cX5_foundBy 4 = .ok (.lreturn, 1) := by decide +kernel
theorem dX6_init_0 : decode cX6_init 0 = .ok (.aload_n 0, 1) := by decide +kernel
theorem dX6_init_1 : decode cX6_init 1 = .ok (.invokespecial 1, 3) := by decide +kernel
theorem dX6_init_4 : decode cX6_init 4 = .ok (.aload_n 0, 1) := by decide +kernel
theorem dX6_init_5 : decode cX6_init 5 = .ok (.aload_n 1, 1) := by decide +kernel
theorem dX6_init_6 : decode cX6_init 6 = .ok (.putfield 7, 3) := by decide +kernel
theorem dX6_init_9 : decode cX6_init 9 = .ok (.aload_n 0, 1) := by decide +kernel
theorem dX6_init_10 : decode cX6_init 10 = .ok (.iload_n 2, 1) := by decide +kernel
theorem dX6_init_11 : decode cX6_init 11 = .ok (.putfield 13, 3) := by decide +kernel
theorem dX6_init_14 : decode cX6_init 14 = .ok (.aload_n 0, 1) := by decide +kernel
theorem dX6_init_15 : decode cX6_init 15 = .ok (.iload_n 3, 1) := by decide +kernel
theorem dX6_init_16 : decode cX6_init 16 = .ok (.putfield 17, 3) := by decide +kernel
theorem dX6_init_19 : decode cX6_init 19 = .ok (.aload_n 0, 1) := by decide +kernel
theorem dX6_init_20 : decode cX6_init 20 = .ok (.lload 4, 2) := by decide +kernel
theorem dX6_init_22 : decode cX6_init 22 = .ok (.putfield 20, 3) := by decide +kernel
theorem dX6_init_25 : decode cX6_init 25 = .ok (.return_, 1) := by decide +kernel
theorem dX7_init_0 : decode cX7_init 0 = .ok (.aload_n 0, 1) := by decide +kernel
theorem dX7_init_1 : decode cX7_init 1 = .ok (.iconst 4, 1) := by decide +kernel
theorem dX7_init_2 : decode cX7_init 2 = .ok (.iload 5, 2) := by decide +kernel
theorem dX7_init_4 : decode cX7_init 4 = .ok (.iload 6, 2) := by decide +kernel
theorem dX7_init_6 : decode cX7_init 6 = .ok (.invokespecial 3, 3) := by decide +kernel
theorem dX7_init_9 : decode cX7_init 9 = .ok (.aload_n 0, 1) := by decide +kernel
theorem dX7_init_10 : decode cX7_init 10 = .ok (.aload_n 1, 1) := by decide +kernel
theorem dX7_init_11 : decode cX7_init 11 = .ok (.putfield 9, 3) := by decide +kernel
theorem dX7_init_14 : decode cX7_init 14 = .ok (.aload_n 0, 1) := by decide +kernel
theorem dX7_init_15 : decode cX7_init 15 = .ok (.iload_n 2, 1) := by decide +kernel
theorem dX7_init_16 : decode cX7_init 16 = .ok (.putfield 15, 3) := by decide +kernel
theorem dX7_init_19 : decode cX7_init 19 = .ok (.aload_n 0, 1) := by decide +kernel
theorem dX7_init_20 : decode cX7_init 20 = .ok (.iload_n 3, 1) := by decide +kernel
theorem dX7_init_21 : decode cX7_init 21 = .ok (.putfield 19, 3) := by decide +kernel
theorem dX7_init_24 : decode cX7_init 24 = .ok (.aload_n 0, 1) := by decide +kernel
theorem dX7_init_25 : decode cX7_init 25 = .ok (.iload 4, 2) := by decide +kernel
theorem dX7_init_27 : decode cX7_init 27 = .ok (.putfield 22, 3) := by decide +kernel
theorem dX7_init_30 : decode cX7_init 30 = .ok (.return_, 1) := by decide +kernel
theorem dX7_rank_0 : decode cX7_rank 0 = .ok (.bipush 30, 2) := by decide +kernel
theorem dX7_rank_2 : decode cX7_rank 2 = .ok (.ireturn, 1) := by decide +kernel
theorem dX7_step_0 : decode cX7_step 0 = .ok (.aload_n 0, 1) := by decide +kernel
theorem dX7_step_1 : decode cX7_step 1 = .ok (.getfield 19, 3) := by decide +kernel
theorem dX7_step_4 : decode cX7_step 4 = .ok (.aload_n 0, 1) := by decide +kernel
theorem dX7_step_5 : decode cX7_step 5 = .ok (.getfield 22, 3) := by decide +kernel
theorem dX7_step_8 : decode cX7_step 8 = .ok (.if_icmp .lt 9, 3) := by decide +kernel
theorem dX7_step_11 : decode cX7_step 11 = .ok (.aload_n 1, 1) := by decide +kernel
theorem dX7_step_12 : decode cX7_step 12 = .ok (.iconst 2, 1) := by decide +kernel
theorem dX7_step_13 : decode cX7_step 13 = .ok (.putfield 25, 3) := by decide +kernel
theorem dX7_step_16 : decode cX7_step 16 = .ok (.return_, 1) := by decide +kernel
theorem dX7_step_17 : decode cX7_step 17 = .ok (.aload_n 0, 1) := by decide +kernel
theorem dX7_step_18 : decode cX7_step 18 = .ok (.aload_n 1, 1) := by decide +kernel
theorem dX7_step_19 : decode cX7_step 19 = .ok (.aload_n 2, 1) := by decide +kernel
theorem dX7_step_20 : decode cX7_step 20 = .ok (.aload_n 0, 1) := by decide +kernel
theorem dX7_step_21 : decode cX7_step 21 = .ok (.getfield 15, 3) := by decide +kernel
theorem dX7_step_24 : decode cX7_step 24 = .ok (.aaload, 1) := by decide +kernel
theorem dX7_step_25 : decode cX7_step 25 = .ok (.invokevirtual 30, 3) := by decide +kernel
theorem dX7_step_28 : decode cX7_step 28 = .ok (.istore_n 3, 1) := by decide +kernel
theorem dX7_step_29 : decode cX7_step 29 = .ok (.iload_n 3, 1) := by decide +kernel
theorem dX7_step_30 : decode cX7_step 30 = .ok (.ifCond .le 8, 3) := by decide +kernel
theorem dX7_step_33 : decode cX7_step 33 = .ok (.aload_n 1, 1) := by decide +kernel
theorem dX7_step_34 : decode cX7_step 34 = .ok (.iload_n 3, 1) := by decide +kernel
theorem dX7_step_35 : decode cX7_step 35 = .ok (.invokevirtual 34, 3) := by decide +kernel
theorem dX7_step_38 : decode cX7_step 38 = .ok (.iload_n 3, 1) := by decide +kernel
theorem dX7_step_39 : decode cX7_step 39 = .ok (.iconst (-1), 1) := by decide +kernel
theorem dX7_step_40 : decode cX7_step 40 = .ok (.if_icmp .eq 4, 3) := by decide +kernel
theorem dX7_step_43 : decode cX7_step 43 = .ok (.return_, 1) := by decide +kernel
theorem dX7_step_44 : decode cX7_step 44 = .ok (.aload_n 1, 1) := by decide +kernel
theorem dX7_step_45 : decode cX7_step 45 = .ok (.invokevirtual 38, 3) := by decide +kernel
theorem dX7_step_48 : decode cX7_step 48 = .ok (.aload_n 0, 1) := by decide +kernel
theorem dX7_step_49 : decode cX7_step 49 = .ok (.getfield 19, 3) := by decide +kernel
theorem dX7_step_52 : decode cX7_step 52 = .ok (.aload_n 1, 1) := by decide +kernel
theorem dX7_step_53 : decode cX7_step 53 = .ok (.getfield 42, 3) := by decide +kernel
theorem dX7_step_56 : decode cX7_step 56 = .ok (.iadd, 1) := by decide +kernel
theorem dX7_step_57 : decode cX7_step 57 = .ok (.aload_n 0, 1) := by decide +kernel
theorem dX7_step_58 : decode cX7_step 58 = .ok (.getfield 22, 3) := by decide +kernel
theorem dX7_step_61 : decode cX7_step 61 = .ok (.if_icmp .lt 8, 3) := by decide +kernel
theorem dX7_step_64 : decode cX7_step 64 = .ok (.aload_n 1, 1) := by decide +kernel
theorem dX7_step_65 : decode cX7_step 65 = .ok (.iconst 2, 1) := by decide +kernel
theorem dX7_step_66 : decode cX7_step 66 = .ok (.putfield 25, 3) := by decide +kernel
theorem dX7_step_69 : decode cX7_step 69 = .ok (.return_, 1) := by decide +kernel
theorem dX7_stepInLine_0 : decode cX7_stepInLine 0 = .ok (.aload_n 0, 1) := by decide +kernel
theorem dX7_stepInLine_1 : decode cX7_stepInLine 1 = .ok (.getfield 19, 3) := by decide +kernel
theorem dX7_stepInLine_4 : decode cX7_stepInLine 4 = .ok (.aload_n 1, 1) := by decide +kernel
theorem dX7_stepInLine_5 : decode cX7_stepInLine 5 = .ok (.getfield 42, 3) := by decide +kernel
theorem dX7_stepInLine_8 : decode cX7_stepInLine 8 = .ok (.iadd, 1) := by decide +kernel
theorem dX7_stepInLine_9 : decode cX7_stepInLine 9 = .ok (.istore_n 3, 1) := by decide +kernel
theorem dX7_stepInLine_10 : decode cX7_stepInLine 10 = .ok (.aload_n 0, 1) := by decide +kernel
theorem dX7_stepInLine_11 : decode cX7_stepInLine 11 = .ok (.getfield 9, 3) := by decide +kernel
theorem dX7_stepInLine_14 : decode cX7_stepInLine 14 = .ok (.getfield 45, 3) := by decide +kernel
theorem dX7_stepInLine_17 : decode cX7_stepInLine 17 = .ok (.getfield 51, 3) := by decide +kernel
theorem dX7_stepInLine_20 : decode cX7_stepInLine 20 = .ok (.aload_n 0, 1) := by decide +kernel
theorem dX7_stepInLine_21 : decode cX7_stepInLine 21 = .ok (.getfield 9, 3) := by decide +kernel
theorem dX7_stepInLine_24 : decode cX7_stepInLine 24 = .ok (.getfield 56, 3) := by decide +kernel
theorem dX7_stepInLine_27 : decode cX7_stepInLine 27 = .ok (.if_icmp .eq 5, 3) := by decide +kernel
theorem dX7_stepInLine_30 : decode cX7_stepInLine 30 = .ok (.iconst 3, 1) := by decide +kernel
theorem dX7_stepInLine_31 : decode cX7_stepInLine 31 = .ok (.ireturn, 1) := by decide +kernel
theorem dX7_stepInLine_32 : decode cX7_stepInLine 32 = .ok (.aload_n 0, 1) := by decide +kernel
theorem dX7_stepInLine_33 : decode cX7_stepInLine 33 = .ok (.getfield 9, 3) := by decide +kernel
theorem dX7_stepInLine_36 : decode cX7_stepInLine 36 = .ok (.getfield 45, 3) := by decide +kernel
theorem dX7_stepInLine_39 : decode cX7_stepInLine 39 = .ok (.iload_n 3, 1) := by decide +kernel
theorem dX7_stepInLine_40 : decode cX7_stepInLine 40 = .ok (.invokevirtual 57, 3) := by decide +kernel
theorem dX7_stepInLine_43 : decode cX7_stepInLine 43 = .ok (.istore 4, 2) := by decide +kernel
theorem dX7_stepInLine_45 : decode cX7_stepInLine 45 = .ok (.iload 4, 2) := by decide +kernel
theorem dX7_stepInLine_47 : decode cX7_stepInLine 47 = .ok (.ifCond .eq 6, 3) := by decide +kernel
theorem dX7_stepInLine_50 : decode cX7_stepInLine 50 = .ok (.iload 4, 2) := by decide +kernel
theorem dX7_stepInLine_52 : decode cX7_stepInLine 52 = .ok (.ireturn, 1) := by decide +kernel
theorem dX7_stepInLine_53 : decode cX7_stepInLine 53 = .ok (.aload_n 0, 1) := by decide +kernel
theorem dX7_stepInLine_54 : decode cX7_stepInLine 54 = .ok (.getfield 9, 3) := by decide +kernel
theorem dX7_stepInLine_57 : decode cX7_stepInLine 57 = .ok (.getfield 45, 3) := by decide +kernel
theorem dX7_stepInLine_60 : decode cX7_stepInLine 60 = .ok (.getfield 61, 3) := by decide +kernel
theorem dX7_stepInLine_63 : decode cX7_stepInLine 63 = .ok (.iload_n 3, 1) := by decide +kernel
theorem dX7_stepInLine_64 : decode cX7_stepInLine 64 = .ok (.aaload, 1) := by decide +kernel
theorem dX7_stepInLine_65 : decode cX7_stepInLine 65 = .ok (.astore 5, 2) := by decide +kernel
theorem dX7_stepInLine_67 : decode cX7_stepInLine 67 = .ok (.aload 5, 2) := by decide +kernel
theorem dX7_stepInLine_69 : decode cX7_stepInLine 69 = .ok (.aload_n 1, 1) := by decide +kernel
theorem dX7_stepInLine_70 : decode cX7_stepInLine 70 = .ok (.getfield 65, 3) := by decide +kernel
theorem dX7_stepInLine_73 : decode cX7_stepInLine 73 = .ok (.invokevirtual 68, 3) := by decide +kernel
theorem dX7_stepInLine_76 : decode cX7_stepInLine 76 = .ok (.ifCond .eq 16, 3) := by decide +kernel
theorem dX7_stepInLine_79 : decode cX7_stepInLine 79 = .ok (.aload_n 1, 1) := by decide +kernel
theorem dX7_stepInLine_80 : decode cX7_stepInLine 80 = .ok (.aload 5, 2) := by decide +kernel
theorem dX7_stepInLine_82 : decode cX7_stepInLine 82 = .ok (.aload_n 1, 1) := by decide +kernel
theorem dX7_stepInLine_83 : decode cX7_stepInLine 83 = .ok (.getfield 65, 3) := by decide +kernel
theorem dX7_stepInLine_86 : decode cX7_stepInLine 86 = .ok (.invokevirtual 74, 3) := by decide +kernel
theorem dX7_stepInLine_89 : decode cX7_stepInLine 89 = .ok (.invokevirtual 78, 3) := by decide +kernel
theorem dX7_stepInLine_92 : decode cX7_stepInLine 92 = .ok (.aload_n 0, 1) := by decide +kernel
theorem dX7_stepInLine_93 : decode cX7_stepInLine 93 = .ok (.getfield 9, 3) := by decide +kernel
theorem dX7_stepInLine_96 : decode cX7_stepInLine 96 = .ok (.getfield 82, 3) := by decide +kernel
theorem dX7_stepInLine_99 : decode cX7_stepInLine 99 = .ok (.ifCond .ne 6, 3) := by decide +kernel
theorem dX7_stepInLine_102 : decode cX7_stepInLine 102 = .ok (.bipush 6, 2) := by decide +kernel
theorem dX7_stepInLine_104 : decode cX7_stepInLine 104 = .ok (.ireturn, 1) := by decide +kernel
theorem dX7_stepInLine_105 : decode cX7_stepInLine 105 = .ok (.aload_n 1, 1) := by decide +kernel
theorem dX7_stepInLine_106 : decode cX7_stepInLine 106 = .ok (.getfield 85, 3) := by decide +kernel
theorem dX7_stepInLine_109 : decode cX7_stepInLine 109 = .ok (.aload_n 0, 1) := by decide +kernel
theorem dX7_stepInLine_110 : decode cX7_stepInLine 110 = .ok (.getfield 9, 3) := by decide +kernel
theorem dX7_stepInLine_113 : decode cX7_stepInLine 113 = .ok (.getfield 82, 3) := by decide +kernel
theorem dX7_stepInLine_116 : decode cX7_stepInLine 116 = .ok (.i2l, 1) := by decide +kernel
theorem dX7_stepInLine_117 : decode cX7_stepInLine 117 = .ok (.ldiv, 1) := by decide +kernel
theorem dX7_stepInLine_118 : decode cX7_stepInLine 118 = .ok (.lstore 6, 2) := by decide +kernel
theorem dX7_stepInLine_120 : decode cX7_stepInLine 120 = .ok (.lload 6, 2) := by decide +kernel
theorem dX7_stepInLine_122 : decode cX7_stepInLine 122 = .ok (.aload_n 2, 1) := by decide +kernel
theorem dX7_stepInLine_123 : decode cX7_stepInLine 123 = .ok (.getfield 89, 3) := by decide +kernel
theorem dX7_stepInLine_126 : decode cX7_stepInLine 126 = .ok (.lcmp, 1) := by decide +kernel
theorem dX7_stepInLine_127 : decode cX7_stepInLine 127 = .ok (.ifCond .le 5, 3) := by decide +kernel
theorem dX7_stepInLine_130 : decode cX7_stepInLine 130 = .ok (.iconst (-1), 1) := by decide +kernel
theorem dX7_stepInLine_131 : decode cX7_stepInLine 131 = .ok (.ireturn, 1) := by decide +kernel
theorem dX7_stepInLine_132 : decode cX7_stepInLine 132 = .ok (.aload 5, 2) := by decide +kernel
theorem dX7_stepInLine_134 : decode cX7_stepInLine 134 = .ok (.aload_n 1, 1) := by decide +kernel
theorem dX7_stepInLine_135 : decode cX7_stepInLine 135 = .ok (.getfield 65, 3) := by decide +kernel
theorem dX7_stepInLine_138 : decode cX7_stepInLine 138 = .ok (.invokevirtual 68, 3) := by decide +kernel
theorem dX7_stepInLine_141 : decode cX7_stepInLine 141 = .ok (.ifCond .eq 5, 3) := by decide +kernel
theorem dX7_stepInLine_144 : decode cX7_stepInLine 144 = .ok (.iconst 0, 1) := by decide +kernel
theorem dX7_stepInLine_145 : decode cX7_stepInLine 145 = .ok (.ireturn, 1) := by decide +kernel
theorem dX7_stepInLine_146 : decode cX7_stepInLine 146 = .ok (.aload_n 2, 1) := by decide +kernel
theorem dX7_stepInLine_147 : decode cX7_stepInLine 147 = .ok (.lload 6, 2) := by decide +kernel
theorem dX7_stepInLine_149 : decode cX7_stepInLine 149 = .ok (.iload_n 3, 1) := by decide +kernel
theorem dX7_stepInLine_150 : decode cX7_stepInLine 150 = .ok (.invokevirtual 94, 3) := by decide +kernel
theorem dX7_stepInLine_153 : decode cX7_stepInLine 153 = .ok (.iconst (-1), 1) := by decide +kernel
theorem dX7_stepInLine_154 : decode cX7_stepInLine 154 = .ok (.ireturn, 1) := by decide +kernel
theorem dX7_doAgain_0 : decode cX7_doAgain 0 = .ok (.iconst 0, 1) := by decide +kernel
theorem dX7_doAgain_1 : decode cX7_doAgain 1 = .ok (.istore_n 3, 1) := by decide +kernel
theorem dX7_doAgain_2 : decode cX7_doAgain 2 = .ok (.aload_n 1, 1) := by decide +kernel
theorem dX7_doAgain_3 : decode cX7_doAgain 3 = .ok (.invokevirtual 98, 3) := by decide +kernel
theorem dX7_doAgain_6 : decode cX7_doAgain 6 = .ok (.aload_n 0, 1) := by decide +kernel
theorem dX7_doAgain_7 : decode cX7_doAgain 7 = .ok (.getfield 19, 3) := by decide +kernel
theorem dX7_doAgain_10 : decode cX7_doAgain 10 = .ok (.istore 4, 2) := by decide +kernel
theorem dX7_doAgain_12 : decode cX7_doAgain 12 = .ok (.iload 4, 2) := by decide +kernel
theorem dX7_doAgain_14 : decode cX7_doAgain 14 = .ok (.aload_n 0, 1) := by decide +kernel
theorem dX7_doAgain_15 : decode cX7_doAgain 15 = .ok (.getfield 22, 3) := by decide +kernel
theorem dX7_doAgain_18 : decode cX7_doAgain 18 = .ok (.if_icmp .ge 53, 3) := by decide +kernel
theorem dX7_doAgain_21 : decode cX7_doAgain 21 = .ok (.iconst 0, 1) := by decide +kernel
theorem dX7_doAgain_22 : decode cX7_doAgain 22 = .ok (.istore 5, 2) := by decide +kernel
theorem dX7_doAgain_24 : decode cX7_doAgain 24 = .ok (.iconst 0, 1) := by decide +kernel
theorem dX7_doAgain_25 : decode cX7_doAgain 25 = .ok (.istore 6, 2) := by decide +kernel
theorem dX7_doAgain_27 : decode cX7_doAgain 27 = .ok (.iload 6, 2) := by decide +kernel
theorem dX7_doAgain_29 : decode cX7_doAgain 29 = .ok (.bipush 12, 2) := by decide +kernel
theorem dX7_doAgain_31 : decode cX7_doAgain 31 = .ok (.if_icmp .gt 22, 3) := by decide +kernel
theorem dX7_doAgain_34 : decode cX7_doAgain 34 = .ok (.iload 5, 2) := by decide +kernel
theorem dX7_doAgain_36 : decode cX7_doAgain 36 = .ok (.ifCond .ne 17, 3) := by decide +kernel
theorem dX7_doAgain_39 : decode cX7_doAgain 39 = .ok (.aload_n 0, 1) := by decide +kernel
theorem dX7_doAgain_40 : decode cX7_doAgain 40 = .ok (.aload_n 1, 1) := by decide +kernel
theorem dX7_doAgain_41 : decode cX7_doAgain 41 = .ok (.aload_n 2, 1) := by decide +kernel
theorem dX7_doAgain_42 : decode cX7_doAgain 42 = .ok (.invokevirtual 30, 3) := by decide +kernel
theorem dX7_doAgain_45 : decode cX7_doAgain 45 = .ok (.istore 5, 2) := by decide +kernel
theorem dX7_doAgain_47 : decode cX7_doAgain 47 = .ok (.iinc 6 1, 3) := by decide +kernel
theorem dX7_doAgain_50 : decode cX7_doAgain 50 = .ok (.goto (-23), 3) := by decide +kernel
theorem dX7_doAgain_53 : decode cX7_doAgain 53 = .ok (.iload 5, 2) := by decide +kernel
theorem dX7_doAgain_55 : decode cX7_doAgain 55 = .ok (.ifCond .le 6, 3) := by decide +kernel
theorem dX7_doAgain_58 : decode cX7_doAgain 58 = .ok (.iinc 3 1, 3) := by decide +kernel
theorem dX7_doAgain_61 : decode cX7_doAgain 61 = .ok (.aload_n 1, 1) := by decide +kernel
theorem dX7_doAgain_62 : decode cX7_doAgain 62 = .ok (.invokevirtual 38, 3) := by decide +kernel
theorem dX7_doAgain_65 : decode cX7_doAgain 65 = .ok (.iinc 4 1, 3) := by decide +kernel
theorem dX7_doAgain_68 : decode cX7_doAgain 68 = .ok (.goto (-56), 3) := by decide +kernel
theorem dX7_doAgain_71 : decode cX7_doAgain 71 = .ok (.iload_n 3, 1) := by decide +kernel
theorem dX7_doAgain_72 : decode cX7_doAgain 72 = .ok (.ireturn, 1) := by decide +kernel
theorem dX7_foundBy_0 : decode cX7_foundBy 0 = .ok (.ldc2_w 101, 3) := by decide +kernel
theorem dX7_foundBy_3 : decode cX7_foundBy 3 = .ok (.lreturn, 1) := by decide +kernel
theorem dX7_usedBy_0 : decode cX7_usedBy 0 = .ok (.aload_n 1, 1) := by decide +kernel
theorem dX7_usedBy_1 : decode cX7_usedBy 1 = .ok (.getfield 42, 3) := by decide +kernel
theorem dX7_usedBy_4 : decode cX7_usedBy 4 = .ok (.ireturn, 1) := by decide +kernel
theorem dX8_init_0 : decode cX8_init 0 = .ok (.aload_n 0, 1) := by decide +kernel
theorem dX8_init_1 : decode cX8_init 1 = .ok (.invokespecial 3, 3) := by decide +kernel
theorem dX8_init_4 : decode cX8_init 4 = .ok (.aload_n 0, 1) := by decide +kernel
theorem dX8_init_5 : decode cX8_init 5 = .ok (.iload_n 1, 1) := by decide +kernel
theorem dX8_init_6 : decode cX8_init 6 = .ok (.putfield 9, 3) := by decide +kernel
theorem dX8_init_9 : decode cX8_init 9 = .ok (.aload_n 0, 1) := by decide +kernel
theorem dX8_init_10 : decode cX8_init 10 = .ok (.iload_n 2, 1) := by decide +kernel
theorem dX8_init_11 : decode cX8_init 11 = .ok (.putfield 15, 3) := by decide +kernel
theorem dX8_init_14 : decode cX8_init 14 = .ok (.aload_n 0, 1) := by decide +kernel
theorem dX8_init_15 : decode cX8_init 15 = .ok (.iload_n 3, 1) := by decide +kernel
theorem dX8_init_16 : decode cX8_init 16 = .ok (.putfield 18, 3) := by decide +kernel
theorem dX8_init_19 : decode cX8_init 19 = .ok (.return_, 1) := by decide +kernel
theorem dX8_isWay_0 : decode cX8_isWay 0 = .ok (.aload_n 0, 1) := by decide +kernel
theorem dX8_isWay_1 : decode cX8_isWay 1 = .ok (.getfield 9, 3) := by decide +kernel
theorem dX8_isWay_4 : decode cX8_isWay 4 = .ok (.iconst 4, 1) := by decide +kernel
theorem dX8_isWay_5 : decode cX8_isWay 5 = .ok (.if_icmp .eq 7, 3) := by decide +kernel
theorem dX8_isWay_8 : decode cX8_isWay 8 = .ok (.iconst 1, 1) := by decide +kernel
theorem dX8_isWay_9 : decode cX8_isWay 9 = .ok (.goto 4, 3) := by decide +kernel
theorem dX8_isWay_12 : decode cX8_isWay 12 = .ok (.iconst 0, 1) := by decide +kernel
theorem dX8_isWay_13 : decode cX8_isWay 13 = .ok (.ireturn, 1) := by decide +kernel
theorem dX8_usedBy_0 : decode cX8_usedBy 0 = .ok (.aload_n 1, 1) := by decide +kernel
theorem dX8_usedBy_1 : decode cX8_usedBy 1 = .ok (.getfield 21, 3) := by decide +kernel
theorem dX8_usedBy_4 : decode cX8_usedBy 4 = .ok (.ireturn, 1) := by decide +kernel
theorem dX9_init_0 : decode cX9_init 0 = .ok (.aload_n 0, 1) := by decide +kernel
theorem dX9_init_1 : decode cX9_init 1 = .ok (.iload_n 1, 1) := by decide +kernel
theorem dX9_init_2 : decode cX9_init 2 = .ok (.ifCond .eq 7, 3) := by decide +kernel
theorem dX9_init_5 : decode cX9_init 5 = .ok (.iconst 1, 1) := by decide +kernel
theorem dX9_init_6 : decode cX9_init 6 = .ok (.goto 4, 3) := by decide +kernel
theorem dX9_init_9 : decode cX9_init 9 = .ok (.iconst 0, 1) := by decide +kernel
theorem dX9_init_10 : decode cX9_init 10 = .ok (.iload 6, 2) := by decide +kernel
theorem dX9_init_12 : decode cX9_init 12 = .ok (.iload 7, 2) := by decide +kernel
theorem dX9_init_14 : decode cX9_init 14 = .ok (.invokespecial 3, 3) := by decide +kernel
theorem dX9_init_17 : decode cX9_init 17 = .ok (.aload_n 0, 1) := by decide +kernel
theorem dX9_init_18 : decode cX9_init 18 = .ok (.iload_n 2, 1) := by decide +kernel
theorem dX9_init_19 : decode cX9_init 19 = .ok (.putfield 9, 3) := by decide +kernel
theorem dX9_init_22 : decode cX9_init 22 = .ok (.aload_n 0, 1) := by decide +kernel
theorem dX9_init_23 : decode cX9_init 23 = .ok (.lload_n 3, 1) := by decide +kernel
theorem dX9_init_24 : decode cX9_init 24 = .ok (.putfield 15, 3) := by decide +kernel
theorem dX9_init_27 : decode cX9_init 27 = .ok (.aload_n 0, 1) := by decide +kernel
theorem dX9_init_28 : decode cX9_init 28 = .ok (.iload 5, 2) := by decide +kernel
theorem dX9_init_30 : decode cX9_init 30 = .ok (.putfield 19, 3) := by decide +kernel
theorem dX9_init_33 : decode cX9_init 33 = .ok (.return_, 1) := by decide +kernel
theorem dX9_rank_0 : decode cX9_rank 0 = .ok (.aload_n 0, 1) := by decide +kernel
theorem dX9_rank_1 : decode cX9_rank 1 = .ok (.getfield 22, 3) := by decide +kernel
theorem dX9_rank_4 : decode cX9_rank 4 = .ok (.iconst 1, 1) := by decide +kernel
theorem dX9_rank_5 : decode cX9_rank 5 = .ok (.if_icmp .ne 8, 3) := by decide +kernel
theorem dX9_rank_8 : decode cX9_rank 8 = .ok (.bipush 11, 2) := by decide +kernel
theorem dX9_rank_10 : decode cX9_rank 10 = .ok (.goto 5, 3) := by decide +kernel
theorem dX9_rank_13 : decode cX9_rank 13 = .ok (.bipush 10, 2) := by decide +kernel
theorem dX9_rank_15 : decode cX9_rank 15 = .ok (.ireturn, 1) := by decide +kernel
theorem dX9_step_0 : decode cX9_step 0 = .ok (.aload_n 0, 1) := by decide +kernel
theorem dX9_step_1 : decode cX9_step 1 = .ok (.getfield 22, 3) := by decide +kernel
theorem dX9_step_4 : decode cX9_step 4 = .ok (.iconst 1, 1) := by decide +kernel
theorem dX9_step_5 : decode cX9_step 5 = .ok (.if_icmp .ne 12, 3) := by decide +kernel
theorem dX9_step_8 : decode cX9_step 8 = .ok (.aload_n 1, 1) := by decide +kernel
theorem dX9_step_9 : decode cX9_step 9 = .ok (.getfield 25, 3) := by decide +kernel
theorem dX9_step_12 : decode cX9_step 12 = .ok (.iconst 1, 1) := by decide +kernel
theorem dX9_step_13 : decode cX9_step 13 = .ok (.iadd, 1) := by decide +kernel
theorem dX9_step_14 : decode cX9_step 14 = .ok (.goto 4, 3) := by decide +kernel
theorem dX9_step_17 : decode cX9_step 17 = .ok (.iconst 1, 1) := by decide +kernel
theorem dX9_step_18 : decode cX9_step 18 = .ok (.istore_n 3, 1) := by decide +kernel
theorem dX9_step_19 : decode cX9_step 19 = .ok (.aload_n 0, 1) := by decide +kernel
theorem dX9_step_20 : decode cX9_step 20 = .ok (.getfield 9, 3) := by decide +kernel
theorem dX9_step_23 : decode cX9_step 23 = .ok (.aload_n 1, 1) := by decide +kernel
theorem dX9_step_24 : decode cX9_step 24 = .ok (.getfield 25, 3) := by decide +kernel
theorem dX9_step_27 : decode cX9_step 27 = .ok (.iload_n 3, 1) := by decide +kernel
theorem dX9_step_28 : decode cX9_step 28 = .ok (.iadd, 1) := by decide +kernel
theorem dX9_step_29 : decode cX9_step 29 = .ok (.invokestatic 28, 3) := by decide +kernel
theorem dX9_step_32 : decode cX9_step 32 = .ok (.istore 4, 2) := by decide +kernel
theorem dX9_step_34 : decode cX9_step 34 = .ok (.aload_n 0, 1) := by decide +kernel
theorem dX9_step_35 : decode cX9_step 35 = .ok (.getfield 19, 3) := by decide +kernel
theorem dX9_step_38 : decode cX9_step 38 = .ok (.aload_n 1, 1) := by decide +kernel
theorem dX9_step_39 : decode cX9_step 39 = .ok (.getfield 25, 3) := by decide +kernel
theorem dX9_step_42 : decode cX9_step 42 = .ok (.if_icmp .le 27, 3) := by decide +kernel
theorem dX9_step_45 : decode cX9_step 45 = .ok (.aload_n 0, 1) := by decide +kernel
theorem dX9_step_46 : decode cX9_step 46 = .ok (.getfield 19, 3) := by decide +kernel
theorem dX9_step_49 : decode cX9_step 49 = .ok (.iload 4, 2) := by decide +kernel
theorem dX9_step_51 : decode cX9_step 51 = .ok (.if_icmp .gt 18, 3) := by decide +kernel
theorem dX9_step_54 : decode cX9_step 54 = .ok (.aload_n 1, 1) := by decide +kernel
theorem dX9_step_55 : decode cX9_step 55 = .ok (.aload_n 0, 1) := by decide +kernel
theorem dX9_step_56 : decode cX9_step 56 = .ok (.getfield 19, 3) := by decide +kernel
theorem dX9_step_59 : decode cX9_step 59 = .ok (.putfield 25, 3) := by decide +kernel
theorem dX9_step_62 : decode cX9_step 62 = .ok (.aload_n 1, 1) := by decide +kernel
theorem dX9_step_63 : decode cX9_step 63 = .ok (.bipush 7, 2) := by decide +kernel
theorem dX9_step_65 : decode cX9_step 65 = .ok (.invokevirtual 34, 3) := by decide +kernel
theorem dX9_step_68 : decode cX9_step 68 = .ok (.return_, 1) := by decide +kernel
theorem dX9_step_69 : decode cX9_step 69 = .ok (.aload_n 1, 1) := by decide +kernel
theorem dX9_step_70 : decode cX9_step 70 = .ok (.iload 4, 2) := by decide +kernel
theorem dX9_step_72 : decode cX9_step 72 = .ok (.putfield 25, 3) := by decide +kernel
theorem dX9_step_75 : decode cX9_step 75 = .ok (.iload 4, 2) := by decide +kernel
theorem dX9_step_77 : decode cX9_step 77 = .ok (.aload_n 0, 1) := by decide +kernel
theorem dX9_step_78 : decode cX9_step 78 = .ok (.getfield 9, 3) := by decide +kernel
theorem dX9_step_81 : decode cX9_step 81 = .ok (.if_icmp .ne 8, 3) := by decide +kernel
theorem dX9_step_84 : decode cX9_step 84 = .ok (.aload_n 1, 1) := by decide +kernel
theorem dX9_step_85 : decode cX9_step 85 = .ok (.iconst 2, 1) := by decide +kernel
theorem dX9_step_86 : decode cX9_step 86 = .ok (.putfield 38, 3) := by decide +kernel
theorem dX9_step_89 : decode cX9_step 89 = .ok (.return_, 1) := by decide +kernel
theorem dX9_foundBy_0 : decode cX9_foundBy 0 = .ok (.aload_n 0, 1) := by decide +kernel
theorem dX9_foundBy_1 : decode cX9_foundBy 1 = .ok (.getfield 15, 3) := by decide +kernel
theorem dX9_foundBy_4 : decode cX9_foundBy 4 = .ok (.lreturn, 1) := by decide +kernel
theorem dX10_init_0 : decode cX10_init 0 = .ok (.aload_n 0, 1) := by decide +kernel
theorem dX10_init_1 : decode cX10_init 1 = .ok (.invokespecial 3, 3) := by decide +kernel
theorem dX10_init_4 : decode cX10_init 4 = .ok (.return_, 1) := by decide +kernel
theorem dX10_begin_0 : decode cX10_begin 0 = .ok (.aload_n 0, 1) := by decide +kernel
theorem dX10_begin_1 : decode cX10_begin 1 = .ok (.iconst 0, 1) := by decide +kernel
theorem dX10_begin_2 : decode cX10_begin 2 = .ok (.putfield 9, 3) := by decide +kernel
theorem dX10_begin_5 : decode cX10_begin 5 = .ok (.aload_n 0, 1) := by decide +kernel
theorem dX10_begin_6 : decode cX10_begin 6 = .ok (.iconst 0, 1) := by decide +kernel
theorem dX10_begin_7 : decode cX10_begin 7 = .ok (.putfield 15, 3) := by decide +kernel
theorem dX10_begin_10 : decode cX10_begin 10 = .ok (.aload_n 0, 1) := by decide +kernel
theorem dX10_begin_11 : decode cX10_begin 11 = .ok (.iconst 0, 1) := by decide +kernel
theorem dX10_begin_12 : decode cX10_begin 12 = .ok (.putfield 18, 3) := by decide +kernel
theorem dX10_begin_15 : decode cX10_begin 15 = .ok (.aload_n 0, 1) := by decide +kernel
theorem dX10_begin_16 : decode cX10_begin 16 = .ok (.iconst 0, 1) := by decide +kernel
theorem dX10_begin_17 : decode cX10_begin 17 = .ok (.putfield 21, 3) := by decide +kernel
theorem dX10_begin_20 : decode cX10_begin 20 = .ok (.aload_n 0, 1) := by decide +kernel
theorem dX10_begin_21 : decode cX10_begin 21 = .ok (.iconst 0, 1) := by decide +kernel
theorem dX10_begin_22 : decode cX10_begin 22 = .ok (.putfield 24, 3) := by decide +kernel
theorem dX10_begin_25 : decode cX10_begin 25 = .ok (.aload_n 0, 1) := by decide +kernel
theorem dX10_begin_26 : decode cX10_begin 26 = .ok (.bipush (-9), 2) := by decide +kernel
theorem dX10_begin_28 : decode cX10_begin 28 = .ok (.putfield 27, 3) := by decide +kernel
theorem dX10_begin_31 : decode cX10_begin 31 = .ok (.aload_n 0, 1) := by decide +kernel
theorem dX10_begin_32 : decode cX10_begin 32 = .ok (.iconst 0, 1) := by decide +kernel
theorem dX10_begin_33 : decode cX10_begin 33 = .ok (.putfield 30, 3) := by decide +kernel
theorem dX10_begin_36 : decode cX10_begin 36 = .ok (.aload_n 0, 1) := by decide +kernel
theorem dX10_begin_37 : decode cX10_begin 37 = .ok (.iconst 0, 1) := by decide +kernel
theorem dX10_begin_38 : decode cX10_begin 38 = .ok (.putfield 33, 3) := by decide +kernel
theorem dX10_begin_41 : decode cX10_begin 41 = .ok (.aload_n 0, 1) := by decide +kernel
theorem dX10_begin_42 : decode cX10_begin 42 = .ok (.iconst 0, 1) := by decide +kernel
theorem dX10_begin_43 : decode cX10_begin 43 = .ok (.putfield 36, 3) := by decide +kernel
theorem dX10_begin_46 : decode cX10_begin 46 = .ok (.aload_n 0, 1) := by decide +kernel
theorem dX10_begin_47 : decode cX10_begin 47 = .ok (.lconst 0, 1) := by decide +kernel
theorem dX10_begin_48 : decode cX10_begin 48 = .ok (.putfield 39, 3) := by decide +kernel
theorem dX10_begin_51 : decode cX10_begin 51 = .ok (.aload_n 0, 1) := by decide +kernel
theorem dX10_begin_52 : decode cX10_begin 52 = .ok (.lconst 0, 1) := by decide +kernel
theorem dX10_begin_53 : decode cX10_begin 53 = .ok (.putfield 43, 3) := by decide +kernel
theorem dX10_begin_56 : decode cX10_begin 56 = .ok (.aload_n 0, 1) := by decide +kernel
theorem dX10_begin_57 : decode cX10_begin 57 = .ok (.iconst 0, 1) := by decide +kernel
theorem dX10_begin_58 : decode cX10_begin 58 = .ok (.putfield 46, 3) := by decide +kernel
theorem dX10_begin_61 : decode cX10_begin 61 = .ok (.aload_n 0, 1) := by decide +kernel
theorem dX10_begin_62 : decode cX10_begin 62 = .ok (.iconst 0, 1) := by decide +kernel
theorem dX10_begin_63 : decode cX10_begin 63 = .ok (.putfield 50, 3) := by decide +kernel
theorem dX10_begin_66 : decode cX10_begin 66 = .ok (.return_, 1) := by decide +kernel
theorem dX10_isLeft_0 : decode cX10_isLeft 0 = .ok (.aload_n 0, 1) := by decide +kernel
theorem dX10_isLeft_1 : decode cX10_isLeft 1 = .ok (.getfield 9, 3) := by decide +kernel
theorem dX10_isLeft_4 : decode cX10_isLeft 4 = .ok (.ifCond .eq 11, 3) := by decide +kernel
theorem dX10_isLeft_7 : decode cX10_isLeft 7 = .ok (.aload_n 0, 1) := by decide +kernel
theorem dX10_isLeft_8 : decode cX10_isLeft 8 = .ok (.getfield 9, 3) := by decide +kernel
theorem dX10_isLeft_11 : decode cX10_isLeft 11 = .ok (.iconst 1, 1) := by decide +kernel
theorem dX10_isLeft_12 : decode cX10_isLeft 12 = .ok (.if_icmp .ne 7, 3) := by decide +kernel
theorem dX10_isLeft_15 : decode cX10_isLeft 15 = .ok (.iconst 1, 1) := by decide +kernel
theorem dX10_isLeft_16 : decode cX10_isLeft 16 = .ok (.goto 4, 3) := by decide +kernel
theorem dX10_isLeft_19 : decode cX10_isLeft 19 = .ok (.iconst 0, 1) := by decide +kernel
theorem dX10_isLeft_20 : decode cX10_isLeft 20 = .ok (.ireturn, 1) := by decide +kernel
theorem dX10_fail_0 : decode cX10_fail 0 = .ok (.aload_n 0, 1) := by decide +kernel
theorem dX10_fail_1 : decode cX10_fail 1 = .ok (.iconst 3, 1) := by decide +kernel
theorem dX10_fail_2 : decode cX10_fail 2 = .ok (.putfield 9, 3) := by decide +kernel
theorem dX10_fail_5 : decode cX10_fail 5 = .ok (.aload_n 0, 1) := by decide +kernel
theorem dX10_fail_6 : decode cX10_fail 6 = .ok (.iload_n 1, 1) := by decide +kernel
theorem dX10_fail_7 : decode cX10_fail 7 = .ok (.putfield 15, 3) := by decide +kernel
theorem dX10_fail_10 : decode cX10_fail 10 = .ok (.return_, 1) := by decide +kernel
theorem dX10_read_0 : decode cX10_read 0 = .ok (.aload_n 0, 1) := by decide +kernel
theorem dX10_read_1 : decode cX10_read 1 = .ok (.dup, 1) := by decide +kernel
theorem dX10_read_2 : decode cX10_read 2 = .ok (.getfield 39, 3) := by decide +kernel
theorem dX10_read_5 : decode cX10_read 5 = .ok (.lload_n 1, 1) := by decide +kernel
theorem dX10_read_6 : decode cX10_read 6 = .ok (.ladd, 1) := by decide +kernel
theorem dX10_read_7 : decode cX10_read 7 = .ok (.putfield 39, 3) := by decide +kernel
theorem dX10_read_10 : decode cX10_read 10 = .ok (.aload_n 0, 1) := by decide +kernel
theorem dX10_read_11 : decode cX10_read 11 = .ok (.dup, 1) := by decide +kernel
theorem dX10_read_12 : decode cX10_read 12 = .ok (.getfield 43, 3) := by decide +kernel
theorem dX10_read_15 : decode cX10_read 15 = .ok (.lload_n 1, 1) := by decide +kernel
theorem dX10_read_16 : decode cX10_read 16 = .ok (.ladd, 1) := by decide +kernel
theorem dX10_read_17 : decode cX10_read 17 = .ok (.putfield 43, 3) := by decide +kernel
theorem dX10_read_20 : decode cX10_read 20 = .ok (.aload_n 0, 1) := by decide +kernel
theorem dX10_read_21 : decode cX10_read 21 = .ok (.dup, 1) := by decide +kernel
theorem dX10_read_22 : decode cX10_read 22 = .ok (.getfield 36, 3) := by decide +kernel
theorem dX10_read_25 : decode cX10_read 25 = .ok (.iconst 1, 1) := by decide +kernel
theorem dX10_read_26 : decode cX10_read 26 = .ok (.iadd, 1) := by decide +kernel
theorem dX10_read_27 : decode cX10_read 27 = .ok (.putfield 36, 3) := by decide +kernel
theorem dX10_read_30 : decode cX10_read 30 = .ok (.aload_n 0, 1) := by decide +kernel
theorem dX10_read_31 : decode cX10_read 31 = .ok (.dup, 1) := by decide +kernel
theorem dX10_read_32 : decode cX10_read 32 = .ok (.getfield 24, 3) := by decide +kernel
theorem dX10_read_35 : decode cX10_read 35 = .ok (.iconst 1, 1) := by decide +kernel
theorem dX10_read_36 : decode cX10_read 36 = .ok (.iadd, 1) := by decide +kernel
theorem dX10_read_37 : decode cX10_read 37 = .ok (.putfield 24, 3) := by decide +kernel
theorem dX10_read_40 : decode cX10_read 40 = .ok (.return_, 1) := by decide +kernel
theorem dX10_nextLine_0 : decode cX10_nextLine 0 = .ok (.aload_n 0, 1) := by decide +kernel
theorem dX10_nextLine_1 : decode cX10_nextLine 1 = .ok (.dup, 1) := by decide +kernel
theorem dX10_nextLine_2 : decode cX10_nextLine 2 = .ok (.getfield 33, 3) := by decide +kernel
theorem dX10_nextLine_5 : decode cX10_nextLine 5 = .ok (.iconst 1, 1) := by decide +kernel
theorem dX10_nextLine_6 : decode cX10_nextLine 6 = .ok (.iadd, 1) := by decide +kernel
theorem dX10_nextLine_7 : decode cX10_nextLine 7 = .ok (.putfield 33, 3) := by decide +kernel
theorem dX10_nextLine_10 : decode cX10_nextLine 10 = .ok (.aload_n 0, 1) := by decide +kernel
theorem dX10_nextLine_11 : decode cX10_nextLine 11 = .ok (.iconst 0, 1) := by decide +kernel
theorem dX10_nextLine_12 : decode cX10_nextLine 12 = .ok (.putfield 36, 3) := by decide +kernel
theorem dX10_nextLine_15 : decode cX10_nextLine 15 = .ok (.aload_n 0, 1) := by decide +kernel
theorem dX10_nextLine_16 : decode cX10_nextLine 16 = .ok (.lconst 0, 1) := by decide +kernel
theorem dX10_nextLine_17 : decode cX10_nextLine 17 = .ok (.putfield 39, 3) := by decide +kernel
theorem dX10_nextLine_20 : decode cX10_nextLine 20 = .ok (.return_, 1) := by decide +kernel
theorem dX11_init_0 : decode cX11_init 0 = .ok (.aload_n 0, 1) := by decide +kernel
theorem dX11_init_1 : decode cX11_init 1 = .ok (.invokespecial 3, 3) := by decide +kernel
theorem dX11_init_4 : decode cX11_init 4 = .ok (.aload_n 0, 1) := by decide +kernel
theorem dX11_init_5 : decode cX11_init 5 = .ok (.iconst 1, 1) := by decide +kernel
theorem dX11_init_6 : decode cX11_init 6 = .ok (.bipush 6, 2) := by decide +kernel
theorem dX11_init_8 : decode cX11_init 8 = .ok (.iload_n 1, 1) := by decide +kernel
theorem dX11_init_9 : decode cX11_init 9 = .ok (.invokestatic 11, 3) := by decide +kernel
theorem dX11_init_12 : decode cX11_init 12 = .ok (.invokestatic 17, 3) := by decide +kernel
theorem dX11_init_15 : decode cX11_init 15 = .ok (.putfield 20, 3) := by decide +kernel
theorem dX11_init_18 : decode cX11_init 18 = .ok (.aload_n 0, 1) := by decide +kernel
theorem dX11_init_19 : decode cX11_init 19 = .ok (.iconst 0, 1) := by decide +kernel
theorem dX11_init_20 : decode cX11_init 20 = .ok (.sipush 1000, 3) := by decide +kernel
theorem dX11_init_23 : decode cX11_init 23 = .ok (.iload_n 2, 1) := by decide +kernel
theorem dX11_init_24 : decode cX11_init 24 = .ok (.invokestatic 11, 3) := by decide +kernel
theorem dX11_init_27 : decode cX11_init 27 = .ok (.invokestatic 17, 3) := by decide +kernel
theorem dX11_init_30 : decode cX11_init 30 = .ok (.putfield 24, 3) := by decide +kernel
theorem dX11_init_33 : decode cX11_init 33 = .ok (.aload_n 0, 1) := by decide +kernel
theorem dX11_init_34 : decode cX11_init 34 = .ok (.new 27, 3) := by decide +kernel
theorem dX11_init_37 : decode cX11_init 37 = .ok (.dup, 1) := by decide +kernel
theorem dX11_init_38 : decode cX11_init 38 = .ok (.invokespecial 29, 3) := by decide +kernel
theorem dX11_init_41 : decode cX11_init 41 = .ok (.putfield 30, 3) := by decide +kernel
theorem dX11_init_44 : decode cX11_init 44 = .ok (.aload_n 0, 1) := by decide +kernel
theorem dX11_init_45 : decode cX11_init 45 = .ok (.new 34, 3) := by decide +kernel
theorem dX11_init_48 : decode cX11_init 48 = .ok (.dup, 1) := by decide +kernel
theorem dX11_init_49 : decode cX11_init 49 = .ok (.aload_n 0, 1) := by decide +kernel
theorem dX11_init_50 : decode cX11_init 50 = .ok (.getfield 30, 3) := by decide +kernel
theorem dX11_init_53 : decode cX11_init 53 = .ok (.aload_n 0, 1) := by decide +kernel
theorem dX11_init_54 : decode cX11_init 54 = .ok (.getfield 24, 3) := by decide +kernel
theorem dX11_init_57 : decode cX11_init 57 = .ok (.iconst 1, 1) := by decide +kernel
theorem dX11_init_58 : decode cX11_init 58 = .ok (.invokespecial 36, 3) := by decide +kernel
theorem dX11_init_61 : decode cX11_init 61 = .ok (.putfield 39, 3) := by decide +kernel
theorem dX11_init_64 : decode cX11_init 64 = .ok (.aload_n 0, 1) := by decide +kernel
theorem dX11_init_65 : decode cX11_init 65 = .ok (.new 34, 3) := by decide +kernel
