theorem dX5_init_0 : decode cX5_init 0 = .ok (.aload_n 0, 1) := by decide +kernel
theorem dX5_init_1 : decode cX5_init 1 = .ok (.invokespecial 1, 3) := by decide +kernel
theorem dX5_init_4 : decode cX5_init 4 = .ok (.aload_n 0, 1) := by decide +kernel
theorem dX5_init_5 : decode cX5_init 5 = .ok (.sipush 700, 3) := by decide +kernel
theorem dX5_init_8 : decode cX5_init 8 = .ok (.newarray .int, 2) := by decide +kernel
theorem dX5_init_10 : decode cX5_init 10 = .ok (.putfield 9, 3) := by decide +kernel
theorem dX5_init_13 : decode cX5_init 13 = .ok (.aload_n 0, 1) := by decide +kernel
theorem dX5_init_14 : decode cX5_init 14 = .ok (.iconst (-1), 1) := by decide +kernel
theorem dX5_init_15 : decode cX5_init 15 = .ok (.putfield 13, 3) := by decide +kernel
theorem dX5_init_18 : decode cX5_init 18 = .ok (.aload_n 0, 1) := by decide +kernel
theorem dX5_init_19 : decode cX5_init 19 = .ok (.new 17, 3) := by decide +kernel
theorem dX5_init_22 : decode cX5_init 22 = .ok (.dup, 1) := by decide +kernel
theorem dX5_init_23 : decode cX5_init 23 = .ok (.invokespecial 19, 3) := by decide +kernel
theorem dX5_init_26 : decode cX5_init 26 = .ok (.putfield 20, 3) := by decide +kernel
theorem dX5_init_29 : decode cX5_init 29 = .ok (.aload_n 0, 1) := by decide +kernel
theorem dX5_init_30 : decode cX5_init 30 = .ok (.new 24, 3) := by decide +kernel
theorem dX5_init_33 : decode cX5_init 33 = .ok (.dup, 1) := by decide +kernel
theorem dX5_init_34 : decode cX5_init 34 = .ok (.invokespecial 26, 3) := by decide +kernel
theorem dX5_init_37 : decode cX5_init 37 = .ok (.putfield 27, 3) := by decide +kernel
theorem dX5_init_40 : decode cX5_init 40 = .ok (.aload_n 0, 1) := by decide +kernel
theorem dX5_init_41 : decode cX5_init 41 = .ok (.new 31, 3) := by decide +kernel
theorem dX5_init_44 : decode cX5_init 44 = .ok (.dup, 1) := by decide +kernel
theorem dX5_init_45 : decode cX5_init 45 = .ok (.invokespecial 33, 3) := by decide +kernel
theorem dX5_init_48 : decode cX5_init 48 = .ok (.putfield 34, 3) := by decide +kernel
theorem dX5_init_51 : decode cX5_init 51 = .ok (.aload_n 0, 1) := by decide +kernel
theorem dX5_init_52 : decode cX5_init 52 = .ok (.new 38, 3) := by decide +kernel
theorem dX5_init_55 : decode cX5_init 55 = .ok (.dup, 1) := by decide +kernel
theorem dX5_init_56 : decode cX5_init 56 = .ok (.invokespecial 40, 3) := by decide +kernel
theorem dX5_init_59 : decode cX5_init 59 = .ok (.putfield 41, 3) := by decide +kernel
theorem dX5_init_62 : decode cX5_init 62 = .ok (.aload_n 0, 1) := by decide +kernel
theorem dX5_init_63 : decode cX5_init 63 = .ok (.new 38, 3) := by decide +kernel
theorem dX5_init_66 : decode cX5_init 66 = .ok (.dup, 1) := by decide +kernel
theorem dX5_init_67 : decode cX5_init 67 = .ok (.invokespecial 40, 3) := by decide +kernel
theorem dX5_init_70 : decode cX5_init 70 = .ok (.putfield 45, 3) := by decide +kernel
theorem dX5_init_73 : decode cX5_init 73 = .ok (.aload_n 0, 1) := by decide +kernel
theorem dX5_init_74 : decode cX5_init 74 = .ok (.new 48, 3) := by decide +kernel
theorem dX5_init_77 : decode cX5_init 77 = .ok (.dup, 1) := by decide +kernel
theorem dX5_init_78 : decode cX5_init 78 = .ok (.invokespecial 50, 3) := by decide +kernel
theorem dX5_init_81 : decode cX5_init 81 = .ok (.putfield 51, 3) := by decide +kernel
theorem dX5_init_84 : decode cX5_init 84 = .ok (.aload_n 0, 1) := by decide +kernel
theorem dX5_init_85 : decode cX5_init 85 = .ok (.bipush 8, 2) := by decide +kernel
theorem dX5_init_87 : decode cX5_init 87 = .ok (.newarray .int, 2) := by decide +kernel
theorem dX5_init_89 : decode cX5_init 89 = .ok (.putfield 55, 3) := by decide +kernel
theorem dX5_init_92 : decode cX5_init 92 = .ok (.aload_n 0, 1) := by decide +kernel
theorem dX5_init_93 : decode cX5_init 93 = .ok (.bipush 8, 2) := by decide +kernel
theorem dX5_init_95 : decode cX5_init 95 = .ok (.newarray .int, 2) := by decide +kernel
theorem dX5_init_97 : decode cX5_init 97 = .ok (.putfield 58, 3) := by decide +kernel
theorem dX5_init_100 : decode cX5_init 100 = .ok (.aload_n 0, 1) := by decide +kernel
theorem dX5_init_101 : decode cX5_init 101 = .ok (.bipush 20, 2) := by decide +kernel
theorem dX5_init_103 : decode cX5_init 103 = .ok (.newarray .int, 2) := by decide +kernel
theorem dX5_init_105 : decode cX5_init 105 = .ok (.putfield 61, 3) := by decide +kernel
theorem dX5_init_108 : decode cX5_init 108 = .ok (.aload_n 0, 1) := by decide +kernel
theorem dX5_init_109 : decode cX5_init 109 = .ok (.bipush 20, 2) := by decide +kernel
theorem dX5_init_111 : decode cX5_init 111 = .ok (.newarray .int, 2) := by decide +kernel
theorem dX5_init_113 : decode cX5_init 113 = .ok (.putfield 64, 3) := by decide +kernel
theorem dX5_init_116 : decode cX5_init 116 = .ok (.aload_n 0, 1) := by decide +kernel
theorem dX5_init_117 : decode cX5_init 117 = .ok (.iconst 4, 1) := by decide +kernel
theorem dX5_init_118 : decode cX5_init 118 = .ok (.newarray .int, 2) := by decide +kernel
theorem dX5_init_120 : decode cX5_init 120 = .ok (.putfield 67, 3) := by decide +kernel
theorem dX5_init_123 : decode cX5_init 123 = .ok (.return_, 1) := by decide +kernel
theorem dX5_feed_0 : decode cX5_feed 0 = .ok (.aload_n 0, 1) := by decide +kernel
theorem dX5_feed_1 : decode cX5_feed 1 = .ok (.getfield 70, 3) := by decide +kernel
theorem dX5_feed_4 : decode cX5_feed 4 = .ok (.bipush 20, 2) := by decide +kernel
theorem dX5_feed_6 : decode cX5_feed 6 = .ok (.iadd, 1) := by decide +kernel
theorem dX5_feed_7 : decode cX5_feed 7 = .ok (.sipush 700, 3) := by decide +kernel
theorem dX5_feed_10 : decode cX5_feed 10 = .ok (.if_icmp .le 5, 3) := by decide +kernel
theorem dX5_feed_13 : decode cX5_feed 13 = .ok (.iconst (-1), 1) := by decide +kernel
theorem dX5_feed_14 : decode cX5_feed 14 = .ok (.ireturn, 1) := by decide +kernel
theorem dX5_feed_15 : decode cX5_feed 15 = .ok (.aload_n 0, 1) := by decide +kernel
theorem dX5_feed_16 : decode cX5_feed 16 = .ok (.iload_n 1, 1) := by decide +kernel
theorem dX5_feed_17 : decode cX5_feed 17 = .ok (.invokevirtual 73, 3) := by decide +kernel
theorem dX5_feed_20 : decode cX5_feed 20 = .ok (.aload_n 0, 1) := by decide +kernel
theorem dX5_feed_21 : decode cX5_feed 21 = .ok (.iload_n 2, 1) := by decide +kernel
theorem dX5_feed_22 : decode cX5_feed 22 = .ok (.invokevirtual 73, 3) := by decide +kernel
theorem dX5_feed_25 : decode cX5_feed 25 = .ok (.aload_n 0, 1) := by decide +kernel
theorem dX5_feed_26 : decode cX5_feed 26 = .ok (.iload_n 3, 1) := by decide +kernel
theorem dX5_feed_27 : decode cX5_feed 27 = .ok (.invokevirtual 73, 3) := by decide +kernel
theorem dX5_feed_30 : decode cX5_feed 30 = .ok (.aload_n 0, 1) := by decide +kernel
theorem dX5_feed_31 : decode cX5_feed 31 = .ok (.iload 4, 2) := by decide +kernel
theorem dX5_feed_33 : decode cX5_feed 33 = .ok (.invokevirtual 73, 3) := by decide +kernel
theorem dX5_feed_36 : decode cX5_feed 36 = .ok (.aload_n 0, 1) := by decide +kernel
theorem dX5_feed_37 : decode cX5_feed 37 = .ok (.iload 5, 2) := by decide +kernel
theorem dX5_feed_39 : decode cX5_feed 39 = .ok (.invokevirtual 73, 3) := by decide +kernel
theorem dX5_feed_42 : decode cX5_feed 42 = .ok (.aload_n 0, 1) := by decide +kernel
theorem dX5_feed_43 : decode cX5_feed 43 = .ok (.getfield 70, 3) := by decide +kernel
theorem dX5_feed_46 : decode cX5_feed 46 = .ok (.ireturn, 1) := by decide +kernel
theorem dX5_append_0 : decode cX5_append 0 = .ok (.bipush 24, 2) := by decide +kernel
theorem dX5_append_2 : decode cX5_append 2 = .ok (.istore_n 2, 1) := by decide +kernel
theorem dX5_append_3 : decode cX5_append 3 = .ok (.iload_n 2, 1) := by decide +kernel
theorem dX5_append_4 : decode cX5_append 4 = .ok (.ifCond .lt 47, 3) := by decide +kernel
theorem dX5_append_7 : decode cX5_append 7 = .ok (.aload_n 0, 1) := by decide +kernel
theorem dX5_append_8 : decode cX5_append 8 = .ok (.getfield 70, 3) := by decide +kernel
theorem dX5_append_11 : decode cX5_append 11 = .ok (.aload_n 0, 1) := by decide +kernel
theorem dX5_append_12 : decode cX5_append 12 = .ok (.getfield 9, 3) := by decide +kernel
theorem dX5_append_15 : decode cX5_append 15 = .ok (.arraylength, 1) := by decide +kernel
theorem dX5_append_16 : decode cX5_append 16 = .ok (.if_icmp .ge 29, 3) := by decide +kernel
theorem dX5_append_19 : decode cX5_append 19 = .ok (.aload_n 0, 1) := by decide +kernel
theorem dX5_append_20 : decode cX5_append 20 = .ok (.getfield 9, 3) := by decide +kernel
theorem dX5_append_23 : decode cX5_append 23 = .ok (.aload_n 0, 1) := by decide +kernel
theorem dX5_append_24 : decode cX5_append 24 = .ok (.getfield 70, 3) := by decide +kernel
theorem dX5_append_27 : decode cX5_append 27 = .ok (.iload_n 1, 1) := by decide +kernel
theorem dX5_append_28 : decode cX5_append 28 = .ok (.iload_n 2, 1) := by decide +kernel
theorem dX5_append_29 : decode cX5_append 29 = .ok (.iushr, 1) := by decide +kernel
theorem dX5_append_30 : decode cX5_append 30 = .ok (.sipush 255, 3) := by decide +kernel
theorem dX5_append_33 : decode cX5_append 33 = .ok (.iand, 1) := by decide +kernel
theorem dX5_append_34 : decode cX5_append 34 = .ok (.iastore, 1) := by decide +kernel
theorem dX5_append_35 : decode cX5_append 35 = .ok (.aload_n 0, 1) := by decide +kernel
theorem dX5_append_36 : decode cX5_append 36 = .ok (.dup, 1) := by decide +kernel
theorem dX5_append_37 : decode cX5_append 37 = .ok (.getfield 70, 3) := by decide +kernel
theorem dX5_append_40 : decode cX5_append 40 = .ok (.iconst 1, 1) := by decide +kernel
theorem dX5_append_41 : decode cX5_append 41 = .ok (.iadd, 1) := by decide +kernel
theorem dX5_append_42 : decode cX5_append 42 = .ok (.putfield 70, 3) := by decide +kernel
theorem dX5_append_45 : decode cX5_append 45 = .ok (.iinc 2 (-8), 3) := by decide +kernel
theorem dX5_append_48 : decode cX5_append 48 = .ok (.goto (-45), 3) := by decide +kernel
theorem dX5_append_51 : decode cX5_append 51 = .ok (.return_, 1) := by decide +kernel
theorem dX5_court_0 : decode cX5_court 0 = .ok (.iload_n 1, 1) := by decide +kernel
theorem dX5_court_1 : decode cX5_court 1 = .ok (.ifCond .lt 11, 3) := by decide +kernel
theorem dX5_court_4 : decode cX5_court 4 = .ok (.iload_n 1, 1) := by decide +kernel
theorem dX5_court_5 : decode cX5_court 5 = .ok (.aload_n 0, 1) := by decide +kernel
theorem dX5_court_6 : decode cX5_court 6 = .ok (.getfield 70, 3) := by decide +kernel
theorem dX5_court_9 : decode cX5_court 9 = .ok (.if_icmp .le 13, 3) := by decide +kernel
theorem dX5_court_12 : decode cX5_court 12 = .ok (.new 77, 3) := by decide +kernel
theorem dX5_court_15 : decode cX5_court 15 = .ok (.dup, 1) := by decide +kernel
theorem dX5_court_16 : decode cX5_court 16 = .ok (.ldc 79, 2) := by decide +kernel
theorem dX5_court_18 : decode cX5_court 18 = .ok (.invokespecial 81, 3) := by decide +kernel
theorem dX5_court_21 : decode cX5_court 21 = .ok (.athrow, 1) := by decide +kernel
theorem dX5_court_22 : decode cX5_court 22 = .ok (.aload_n 0, 1) := by decide +kernel
theorem dX5_court_23 : decode cX5_court 23 = .ok (.iconst 0, 1) := by decide +kernel
theorem dX5_court_24 : decode cX5_court 24 = .ok (.putfield 70, 3) := by decide +kernel
theorem dX5_court_27 : decode cX5_court 27 = .ok (.aload_n 0, 1) := by decide +kernel
theorem dX5_court_28 : decode cX5_court 28 = .ok (.getfield 27, 3) := by decide +kernel
theorem dX5_court_31 : decode cX5_court 31 = .ok (.aload_n 0, 1) := by decide +kernel
theorem dX5_court_32 : decode cX5_court 32 = .ok (.getfield 9, 3) := by decide +kernel
theorem dX5_court_35 : decode cX5_court 35 = .ok (.iload_n 1, 1) := by decide +kernel
theorem dX5_court_36 : decode cX5_court 36 = .ok (.invokevirtual 84, 3) := by decide +kernel
theorem dX5_court_39 : decode cX5_court 39 = .ok (.istore_n 2, 1) := by decide +kernel
theorem dX5_court_40 : decode cX5_court 40 = .ok (.iload_n 2, 1) := by decide +kernel
theorem dX5_court_41 : decode cX5_court 41 = .ok (.ifCond .eq 29, 3) := by decide +kernel
theorem dX5_court_44 : decode cX5_court 44 = .ok (.aload_n 0, 1) := by decide +kernel
theorem dX5_court_45 : decode cX5_court 45 = .ok (.aload_n 0, 1) := by decide +kernel
theorem dX5_court_46 : decode cX5_court 46 = .ok (.getfield 27, 3) := by decide +kernel
theorem dX5_court_49 : decode cX5_court 49 = .ok (.getfield 88, 3) := by decide +kernel
theorem dX5_court_52 : decode cX5_court 52 = .ok (.putfield 13, 3) := by decide +kernel
theorem dX5_court_55 : decode cX5_court 55 = .ok (.aload_n 0, 1) := by decide +kernel
theorem dX5_court_56 : decode cX5_court 56 = .ok (.getfield 41, 3) := by decide +kernel
theorem dX5_court_59 : decode cX5_court 59 = .ok (.getfield 91, 3) := by decide +kernel
theorem dX5_court_62 : decode cX5_court 62 = .ok (.iconst 0, 1) := by decide +kernel
theorem dX5_court_63 : decode cX5_court 63 = .ok (.dup2, 1) := by decide +kernel
theorem dX5_court_64 : decode cX5_court 64 = .ok (.iaload, 1) := by decide +kernel
theorem dX5_court_65 : decode cX5_court 65 = .ok (.iconst 1, 1) := by decide +kernel
theorem dX5_court_66 : decode cX5_court 66 = .ok (.iadd, 1) := by decide +kernel
theorem dX5_court_67 : decode cX5_court 67 = .ok (.iastore, 1) := by decide +kernel
theorem dX5_court_68 : decode cX5_court 68 = .ok (.iload_n 2, 1) := by decide +kernel
theorem dX5_court_69 : decode cX5_court 69 = .ok (.ireturn, 1) := by decide +kernel
theorem dX5_court_70 : decode cX5_court 70 = .ok (.aload_n 0, 1) := by decide +kernel
theorem dX5_court_71 : decode cX5_court 71 = .ok (.aload_n 0, 1) := by decide +kernel
theorem dX5_court_72 : decode cX5_court 72 = .ok (.getfield 27, 3) := by decide +kernel
theorem dX5_court_75 : decode cX5_court 75 = .ok (.aload_n 0, 1) := by decide +kernel
theorem dX5_court_76 : decode cX5_court 76 = .ok (.getfield 20, 3) := by decide +kernel
theorem dX5_court_79 : decode cX5_court 79 = .ok (.invokevirtual 94, 3) := by decide +kernel
theorem dX5_court_82 : decode cX5_court 82 = .ok (.putfield 20, 3) := by decide +kernel
theorem dX5_court_85 : decode cX5_court 85 = .ok (.aload_n 0, 1) := by decide +kernel
theorem dX5_court_86 : decode cX5_court 86 = .ok (.iconst (-1), 1) := by decide +kernel
theorem dX5_court_87 : decode cX5_court 87 = .ok (.putfield 13, 3) := by decide +kernel
theorem dX5_court_90 : decode cX5_court 90 = .ok (.aload_n 0, 1) := by decide +kernel
theorem dX5_court_91 : decode cX5_court 91 = .ok (.iconst 0, 1) := by decide +kernel
theorem dX5_court_92 : decode cX5_court 92 = .ok (.putfield 98, 3) := by decide +kernel
theorem dX5_court_95 : decode cX5_court 95 = .ok (.aload_n 0, 1) := by decide +kernel
theorem dX5_court_96 : decode cX5_court 96 = .ok (.getfield 41, 3) := by decide +kernel
theorem dX5_court_99 : decode cX5_court 99 = .ok (.aload_n 0, 1) := by decide +kernel
theorem dX5_court_100 : decode cX5_court 100 = .ok (.getfield 20, 3) := by decide +kernel
theorem dX5_court_103 : decode cX5_court 103 = .ok (.invokevirtual 102, 3) := by decide +kernel
theorem dX5_court_106 : decode cX5_court 106 = .ok (.iconst 0, 1) := by decide +kernel
theorem dX5_court_107 : decode cX5_court 107 = .ok (.ireturn, 1) := by decide +kernel
theorem dX5_fault_0 : decode cX5_fault 0 = .ok (.aload_n 0, 1) := by decide +kernel
theorem dX5_fault_1 : decode cX5_fault 1 = .ok (.getfield 13, 3) := by decide +kernel
theorem dX5_fault_4 : decode cX5_fault 4 = .ok (.ireturn, 1) := by decide +kernel
theorem dX5_count_0 : decode cX5_count 0 = .ok (.iload_n 1, 1) := by decide +kernel
theorem dX5_count_1 : decode cX5_count 1 = .ok (.tableswitch 181 0 14 #[75, 83, 91, 102, 113, 124, 124, 124, 124, 130, 138, 146, 151, 161, 171], 75) := by decide +kernel
theorem dX5_count_76 : decode cX5_count 76 = .ok (.aload_n 0, 1) := by decide +kernel
theorem dX5_count_77 : decode cX5_count 77 = .ok (.getfield 20, 3) := by decide +kernel
theorem dX5_count_80 : decode cX5_count 80 = .ok (.getfield 106, 3) := by decide +kernel
theorem dX5_count_83 : decode cX5_count 83 = .ok (.ireturn, 1) := by decide +kernel
theorem dX5_count_84 : decode cX5_count 84 = .ok (.aload_n 0, 1) := by decide +kernel
theorem dX5_count_85 : decode cX5_count 85 = .ok (.getfield 20, 3) := by decide +kernel
theorem dX5_count_88 : decode cX5_count 88 = .ok (.getfield 109, 3) := by decide +kernel
theorem dX5_count_91 : decode cX5_count 91 = .ok (.ireturn, 1) := by decide +kernel
theorem dX5_count_92 : decode cX5_count 92 = .ok (.aload_n 0, 1) := by decide +kernel
theorem dX5_count_93 : decode cX5_count 93 = .ok (.getfield 41, 3) := by decide +kernel
theorem dX5_count_96 : decode cX5_count 96 = .ok (.getfield 112, 3) := by decide +kernel
theorem dX5_count_99 : decode cX5_count 99 = .ok (.getfield 115, 3) := by decide +kernel
theorem dX5_count_102 : decode cX5_count 102 = .ok (.ireturn, 1) := by decide +kernel
theorem dX5_count_103 : decode cX5_count 103 = .ok (.aload_n 0, 1) := by decide +kernel
theorem dX5_count_104 : decode cX5_count 104 = .ok (.getfield 41, 3) := by decide +kernel
theorem dX5_count_107 : decode cX5_count 107 = .ok (.getfield 112, 3) := by decide +kernel
theorem dX5_count_110 : decode cX5_count 110 = .ok (.getfield 118, 3) := by decide +kernel
theorem dX5_count_113 : decode cX5_count 113 = .ok (.ireturn, 1) := by decide +kernel
theorem dX5_count_114 : decode cX5_count 114 = .ok (.aload_n 0, 1) := by decide +kernel
theorem dX5_count_115 : decode cX5_count 115 = .ok (.getfield 41, 3) := by decide +kernel
theorem dX5_count_118 : decode cX5_count 118 = .ok (.getfield 112, 3) := by decide +kernel
theorem dX5_count_121 : decode cX5_count 121 = .ok (.getfield 121, 3) := by decide +kernel
theorem dX5_count_124 : decode cX5_count 124 = .ok (.ireturn, 1) := by decide +kernel
theorem dX5_count_125 : decode cX5_count 125 = .ok (.aload_n 0, 1) := by decide +kernel
theorem dX5_count_126 : decode cX5_count 126 = .ok (.iload_n 1, 1) := by decide +kernel
theorem dX5_count_127 : decode cX5_count 127 = .ok (.invokevirtual 124, 3) := by decide +kernel
theorem dX5_count_130 : decode cX5_count 130 = .ok (.ireturn, 1) := by decide +kernel
theorem dX5_count_131 : decode cX5_count 131 = .ok (.aload_n 0, 1) := by decide +kernel
theorem dX5_count_132 : decode cX5_count 132 = .ok (.getfield 41, 3) := by decide +kernel
theorem dX5_count_135 : decode cX5_count 135 = .ok (.getfield 128, 3) := by decide +kernel
theorem dX5_count_138 : decode cX5_count 138 = .ok (.ireturn, 1) := by decide +kernel
theorem dX5_count_139 : decode cX5_count 139 = .ok (.aload_n 0, 1) := by decide +kernel
theorem dX5_count_140 : decode cX5_count 140 = .ok (.getfield 41, 3) := by decide +kernel
theorem dX5_count_143 : decode cX5_count 143 = .ok (.getfield 131, 3) := by decide +kernel
theorem dX5_count_146 : decode cX5_count 146 = .ok (.ireturn, 1) := by decide +kernel
theorem dX5_count_147 : decode cX5_count 147 = .ok (.aload_n 0, 1) := by decide +kernel
theorem dX5_count_148 : decode cX5_count 148 = .ok (.getfield 70, 3) := by decide +kernel
theorem dX5_count_151 : decode cX5_count 151 = .ok (.ireturn, 1) := by decide +kernel
theorem dX5_count_152 : decode cX5_count 152 = .ok (.aload_n 0, 1) := by decide +kernel
theorem dX5_count_153 : decode cX5_count 153 = .ok (.getfield 41, 3) := by decide +kernel
theorem dX5_count_156 : decode cX5_count 156 = .ok (.getfield 91, 3) := by decide +kernel
theorem dX5_count_159 : decode cX5_count 159 = .ok (.iconst 0, 1) := by decide +kernel
theorem dX5_count_160 : decode cX5_count 160 = .ok (.iaload, 1) := by decide +kernel
theorem dX5_count_161 : decode cX5_count 161 = .ok (.ireturn, 1) := by decide +kernel
theorem dX5_count_162 : decode cX5_count 162 = .ok (.aload_n 0, 1) := by decide +kernel
theorem dX5_count_163 : decode cX5_count 163 = .ok (.getfield 41, 3) := by decide +kernel
theorem dX5_count_166 : decode cX5_count 166 = .ok (.getfield 91, 3) := by decide +kernel
theorem dX5_count_169 : decode cX5_count 169 = .ok (.iconst 1, 1) := by decide +kernel
theorem dX5_count_170 : decode cX5_count 170 = .ok (.iaload, 1) := by decide +kernel
theorem dX5_count_171 : decode cX5_count 171 = .ok (.ireturn, 1) := by decide +kernel
theorem dX5_count_172 : decode cX5_count 172 = .ok (.aload_n 0, 1) := by decide +kernel
theorem dX5_count_173 : decode cX5_count 173 = .ok (.getfield 41, 3) := by decide +kernel
theorem dX5_count_176 : decode cX5_count 176 = .ok (.getfield 91, 3) := by decide +kernel
theorem dX5_count_179 : decode cX5_count 179 = .ok (.iconst 2, 1) := by decide +kernel
theorem dX5_count_180 : decode cX5_count 180 = .ok (.iaload, 1) := by decide +kernel
theorem dX5_count_181 : decode cX5_count 181 = .ok (.ireturn, 1) := by decide +kernel
theorem dX5_count_182 : decode cX5_count 182 = .ok (.new 134, 3) := by decide +kernel
theorem dX5_count_185 : decode cX5_count 185 = .ok (.dup, 1) := by decide +kernel
theorem dX5_count_186 : decode cX5_count 186 = .ok (.ldc 136, 2) := by decide +kernel
theorem dX5_count_188 : decode cX5_count 188 = .ok (.invokespecial 138, 3) := by decide +kernel
theorem dX5_count_191 : decode cX5_count 191 = .ok (.athrow, 1) := by decide +kernel
theorem dX5_surveyed_0 : decode cX5_surveyed 0 = .ok (.aload_n 0, 1) := by decide +kernel
theorem dX5_surveyed_1 : decode cX5_surveyed 1 = .ok (.getfield 34, 3) := by decide +kernel
theorem dX5_surveyed_4 : decode cX5_surveyed 4 = .ok (.aload_n 0, 1) := by decide +kernel
theorem dX5_surveyed_5 : decode cX5_surveyed 5 = .ok (.getfield 20, 3) := by decide +kernel
theorem dX5_surveyed_8 : decode cX5_surveyed 8 = .ok (.aload_n 0, 1) := by decide +kernel
theorem dX5_surveyed_9 : decode cX5_surveyed 9 = .ok (.getfield 41, 3) := by decide +kernel
theorem dX5_surveyed_12 : decode cX5_surveyed 12 = .ok (.getfield 112, 3) := by decide +kernel
theorem dX5_surveyed_15 : decode cX5_surveyed 15 = .ok (.invokevirtual 139, 3) := by decide +kernel
theorem dX5_surveyed_18 : decode cX5_surveyed 18 = .ok (.iload_n 1, 1) := by decide +kernel
theorem dX5_surveyed_19 : decode cX5_surveyed 19 = .ok (.tableswitch 49 5 7 #[25, 33, 41], 25) := by decide +kernel
theorem dX5_surveyed_44 : decode cX5_surveyed 44 = .ok (.aload_n 0, 1) := by decide +kernel
theorem dX5_surveyed_45 : decode cX5_surveyed 45 = .ok (.getfield 34, 3) := by decide +kernel
theorem dX5_surveyed_48 : decode cX5_surveyed 48 = .ok (.getfield 143, 3) := by decide +kernel
theorem dX5_surveyed_51 : decode cX5_surveyed 51 = .ok (.ireturn, 1) := by decide +kernel
theorem dX5_surveyed_52 : decode cX5_surveyed 52 = .ok (.aload_n 0, 1) := by decide +kernel
theorem dX5_surveyed_53 : decode cX5_surveyed 53 = .ok (.getfield 34, 3) := by decide +kernel
theorem dX5_surveyed_56 : decode cX5_surveyed 56 = .ok (.getfield 146, 3) := by decide +kernel
theorem dX5_surveyed_59 : decode cX5_surveyed 59 = .ok (.ireturn, 1) := by decide +kernel
theorem dX5_surveyed_60 : decode cX5_surveyed 60 = .ok (.aload_n 0, 1) := by decide +kernel
theorem dX5_surveyed_61 : decode cX5_surveyed 61 = .ok (.getfield 34, 3) := by decide +kernel
theorem dX5_surveyed_64 : decode cX5_surveyed 64 = .ok (.getfield 149, 3) := by decide +kernel
theorem dX5_surveyed_67 : decode cX5_surveyed 67 = .ok (.ireturn, 1) := by decide +kernel
theorem dX5_surveyed_68 : decode cX5_surveyed 68 = .ok (.aload_n 0, 1) := by decide +kernel
theorem dX5_surveyed_69 : decode cX5_surveyed 69 = .ok (.getfield 34, 3) := by decide +kernel
theorem dX5_surveyed_72 : decode cX5_surveyed 72 = .ok (.invokevirtual 152, 3) := by decide +kernel
theorem dX5_surveyed_75 : decode cX5_surveyed 75 = .ok (.ireturn, 1) := by decide +kernel
theorem dX5_leaf_0 : decode cX5_leaf 0 = .ok (.aload_n 0, 1) := by decide +kernel
theorem dX5_leaf_1 : decode cX5_leaf 1 = .ok (.iload_n 1, 1) := by decide +kernel
theorem dX5_leaf_2 : decode cX5_leaf 2 = .ok (.invokevirtual 156, 3) := by decide +kernel
theorem dX5_leaf_5 : decode cX5_leaf 5 = .ok (.iload_n 2, 1) := by decide +kernel
theorem dX5_leaf_6 : decode cX5_leaf 6 = .ok (.lookupswitch 49 #[(0, 26), (1, 39)], 26) := by decide +kernel
theorem dX5_leaf_32 : decode cX5_leaf 32 = .ok (.aload_n 0, 1) := by decide +kernel
theorem dX5_leaf_33 : decode cX5_leaf 33 = .ok (.getfield 41, 3) := by decide +kernel
theorem dX5_leaf_36 : decode cX5_leaf 36 = .ok (.getfield 112, 3) := by decide +kernel
theorem dX5_leaf_39 : decode cX5_leaf 39 = .ok (.getfield 159, 3) := by decide +kernel
theorem dX5_leaf_42 : decode cX5_leaf 42 = .ok (.iload_n 1, 1) := by decide +kernel
theorem dX5_leaf_43 : decode cX5_leaf 43 = .ok (.iaload, 1) := by decide +kernel
theorem dX5_leaf_44 : decode cX5_leaf 44 = .ok (.ireturn, 1) := by decide +kernel
theorem dX5_leaf_45 : decode cX5_leaf 45 = .ok (.aload_n 0, 1) := by decide +kernel
theorem dX5_leaf_46 : decode cX5_leaf 46 = .ok (.getfield 20, 3) := by decide +kernel
theorem dX5_leaf_49 : decode cX5_leaf 49 = .ok (.getfield 162, 3) := by decide +kernel
theorem dX5_leaf_52 : decode cX5_leaf 52 = .ok (.iload_n 1, 1) := by decide +kernel
theorem dX5_leaf_53 : decode cX5_leaf 53 = .ok (.iaload, 1) := by decide +kernel
theorem dX5_leaf_54 : decode cX5_leaf 54 = .ok (.ireturn, 1) := by decide +kernel
theorem dX5_leaf_55 : decode cX5_leaf 55 = .ok (.new 134, 3) := by decide +kernel
theorem dX5_leaf_58 : decode cX5_leaf 58 = .ok (.dup, 1) := by decide +kernel
theorem dX5_leaf_59 : decode cX5_leaf 59 = .ok (.ldc 165, 2) := by decide +kernel
theorem dX5_leaf_61 : decode cX5_leaf 61 = .ok (.invokespecial 138, 3) := by decide +kernel
theorem dX5_leaf_64 : decode cX5_leaf 64 = .ok (.athrow, 1) := by decide +kernel
theorem dX5_judge_0 : decode cX5_judge 0 = .ok (.aload_n 0, 1) := by decide +kernel
theorem dX5_judge_1 : decode cX5_judge 1 = .ok (.iload_n 1, 1) := by decide +kernel
theorem dX5_judge_2 : decode cX5_judge 2 = .ok (.invokevirtual 167, 3) := by decide +kernel
theorem dX5_judge_5 : decode cX5_judge 5 = .ok (.iload_n 2, 1) := by decide +kernel
theorem dX5_judge_6 : decode cX5_judge 6 = .ok (.tableswitch 122 0 5 #[38, 48, 61, 71, 90, 108], 38) := by decide +kernel
theorem dX5_judge_44 : decode cX5_judge 44 = .ok (.aload_n 0, 1) := by decide +kernel
theorem dX5_judge_45 : decode cX5_judge 45 = .ok (.getfield 20, 3) := by decide +kernel
theorem dX5_judge_48 : decode cX5_judge 48 = .ok (.getfield 170, 3) := by decide +kernel
theorem dX5_judge_51 : decode cX5_judge 51 = .ok (.iload_n 1, 1) := by decide +kernel
theorem dX5_judge_52 : decode cX5_judge 52 = .ok (.iaload, 1) := by decide +kernel
theorem dX5_judge_53 : decode cX5_judge 53 = .ok (.ireturn, 1) := by decide +kernel
theorem dX5_judge_54 : decode cX5_judge 54 = .ok (.aload_n 0, 1) := by decide +kernel
theorem dX5_judge_55 : decode cX5_judge 55 = .ok (.getfield 41, 3) := by decide +kernel
theorem dX5_judge_58 : decode cX5_judge 58 = .ok (.getfield 112, 3) := by decide +kernel
theorem dX5_judge_61 : decode cX5_judge 61 = .ok (.getfield 173, 3) := by decide +kernel
theorem dX5_judge_64 : decode cX5_judge 64 = .ok (.iload_n 1, 1) := by decide +kernel
theorem dX5_judge_65 : decode cX5_judge 65 = .ok (.iaload, 1) := by decide +kernel
theorem dX5_judge_66 : decode cX5_judge 66 = .ok (.ireturn, 1) := by decide +kernel
theorem dX5_judge_67 : decode cX5_judge 67 = .ok (.aload_n 0, 1) := by decide +kernel
theorem dX5_judge_68 : decode cX5_judge 68 = .ok (.getfield 20, 3) := by decide +kernel
theorem dX5_judge_71 : decode cX5_judge 71 = .ok (.getfield 176, 3) := by decide +kernel
theorem dX5_judge_74 : decode cX5_judge 74 = .ok (.iload_n 1, 1) := by decide +kernel
theorem dX5_judge_75 : decode cX5_judge 75 = .ok (.iaload, 1) := by decide +kernel
theorem dX5_judge_76 : decode cX5_judge 76 = .ok (.ireturn, 1) := by decide +kernel
theorem dX5_judge_77 : decode cX5_judge 77 = .ok (.aload_n 0, 1) := by decide +kernel
theorem dX5_judge_78 : decode cX5_judge 78 = .ok (.getfield 41, 3) := by decide +kernel
theorem dX5_judge_81 : decode cX5_judge 81 = .ok (.getfield 112, 3) := by decide +kernel
theorem dX5_judge_84 : decode cX5_judge 84 = .ok (.iload_n 1, 1) := by decide +kernel
theorem dX5_judge_85 : decode cX5_judge 85 = .ok (.aload_n 0, 1) := by decide +kernel
theorem dX5_judge_86 : decode cX5_judge 86 = .ok (.getfield 20, 3) := by decide +kernel
theorem dX5_judge_89 : decode cX5_judge 89 = .ok (.getfield 109, 3) := by decide +kernel
theorem dX5_judge_92 : decode cX5_judge 92 = .ok (.invokevirtual 179, 3) := by decide +kernel
theorem dX5_judge_95 : decode cX5_judge 95 = .ok (.ireturn, 1) := by decide +kernel
theorem dX5_judge_96 : decode cX5_judge 96 = .ok (.aload_n 0, 1) := by decide +kernel
theorem dX5_judge_97 : decode cX5_judge 97 = .ok (.getfield 20, 3) := by decide +kernel
theorem dX5_judge_100 : decode cX5_judge 100 = .ok (.getfield 183, 3) := by decide +kernel
theorem dX5_judge_103 : decode cX5_judge 103 = .ok (.iload_n 1, 1) := by decide +kernel
theorem dX5_judge_104 : decode cX5_judge 104 = .ok (.baload, 1) := by decide +kernel
theorem dX5_judge_105 : decode cX5_judge 105 = .ok (.ifCond .eq 7, 3) := by decide +kernel
theorem dX5_judge_108 : decode cX5_judge 108 = .ok (.iconst 1, 1) := by decide +kernel
theorem dX5_judge_109 : decode cX5_judge 109 = .ok (.goto 4, 3) := by decide +kernel
theorem dX5_judge_112 : decode cX5_judge 112 = .ok (.iconst 0, 1) := by decide +kernel
theorem dX5_judge_113 : decode cX5_judge 113 = .ok (.ireturn, 1) := by decide +kernel
theorem dX5_judge_114 : decode cX5_judge 114 = .ok (.aload_n 0, 1) := by decide +kernel
theorem dX5_judge_115 : decode cX5_judge 115 = .ok (.aload_n 0, 1) := by decide +kernel
theorem dX5_judge_116 : decode cX5_judge 116 = .ok (.getfield 20, 3) := by decide +kernel
theorem dX5_judge_119 : decode cX5_judge 119 = .ok (.getfield 176, 3) := by decide +kernel
theorem dX5_judge_122 : decode cX5_judge 122 = .ok (.iload_n 1, 1) := by decide +kernel
theorem dX5_judge_123 : decode cX5_judge 123 = .ok (.iaload, 1) := by decide +kernel
theorem dX5_judge_124 : decode cX5_judge 124 = .ok (.invokevirtual 187, 3) := by decide +kernel
theorem dX5_judge_127 : decode cX5_judge 127 = .ok (.ireturn, 1) := by decide +kernel
theorem dX5_judge_128 : decode cX5_judge 128 = .ok (.new 134, 3) := by decide +kernel
theorem dX5_judge_131 : decode cX5_judge 131 = .ok (.dup, 1) := by decide +kernel
theorem dX5_judge_132 : decode cX5_judge 132 = .ok (.ldc 190, 2) := by decide +kernel
theorem dX5_judge_134 : decode cX5_judge 134 = .ok (.invokespecial 138, 3) := by decide +kernel
theorem dX5_judge_137 : decode cX5_judge 137 = .ok (.athrow, 1) := by decide +kernel
theorem dX5_partyOf_0 : decode cX5_partyOf 0 = .ok (.iconst 0, 1) := by decide +kernel
theorem dX5_partyOf_1 : decode cX5_partyOf 1 = .ok (.istore_n 2, 1) := by decide +kernel
theorem dX5_partyOf_2 : decode cX5_partyOf 2 = .ok (.iconst 0, 1) := by decide +kernel
theorem dX5_partyOf_3 : decode cX5_partyOf 3 = .ok (.istore_n 3, 1) := by decide +kernel
theorem dX5_partyOf_4 : decode cX5_partyOf 4 = .ok (.iload_n 3, 1) := by decide +kernel
theorem dX5_partyOf_5 : decode cX5_partyOf 5 = .ok (.aload_n 0, 1) := by decide +kernel
theorem dX5_partyOf_6 : decode cX5_partyOf 6 = .ok (.getfield 20, 3) := by decide +kernel
theorem dX5_partyOf_9 : decode cX5_partyOf 9 = .ok (.getfield 109, 3) := by decide +kernel
theorem dX5_partyOf_12 : decode cX5_partyOf 12 = .ok (.if_icmp .ge 28, 3) := by decide +kernel
theorem dX5_partyOf_15 : decode cX5_partyOf 15 = .ok (.aload_n 0, 1) := by decide +kernel
theorem dX5_partyOf_16 : decode cX5_partyOf 16 = .ok (.getfield 20, 3) := by decide +kernel
theorem dX5_partyOf_19 : decode cX5_partyOf 19 = .ok (.getfield 176, 3) := by decide +kernel
theorem dX5_partyOf_22 : decode cX5_partyOf 22 = .ok (.iload_n 3, 1) := by decide +kernel
theorem dX5_partyOf_23 : decode cX5_partyOf 23 = .ok (.iaload, 1) := by decide +kernel
theorem dX5_partyOf_24 : decode cX5_partyOf 24 = .ok (.iload_n 1, 1) := by decide +kernel
theorem dX5_partyOf_25 : decode cX5_partyOf 25 = .ok (.if_icmp .ne 9, 3) := by decide +kernel
theorem dX5_partyOf_28 : decode cX5_partyOf 28 = .ok (.iload_n 2, 1) := by decide +kernel
theorem dX5_partyOf_29 : decode cX5_partyOf 29 = .ok (.iconst 1, 1) := by decide +kernel
theorem dX5_partyOf_30 : decode cX5_partyOf 30 = .ok (.iload_n 3, 1) := by decide +kernel
theorem dX5_partyOf_31 : decode cX5_partyOf 31 = .ok (.ishl, 1) := by decide +kernel
theorem dX5_partyOf_32 : decode cX5_partyOf 32 = .ok (.ior, 1) := by decide +kernel
theorem dX5_partyOf_33 : decode cX5_partyOf 33 = .ok (.istore_n 2, 1) := by decide +kernel
theorem dX5_partyOf_34 : decode cX5_partyOf 34 = .ok (.iinc 3 1, 3) := by decide +kernel
theorem dX5_partyOf_37 : decode cX5_partyOf 37 = .ok (.goto (-33), 3) := by decide +kernel
theorem dX5_partyOf_40 : decode cX5_partyOf 40 = .ok (.iload_n 2, 1) := by decide +kernel
theorem dX5_partyOf_41 : decode cX5_partyOf 41 = .ok (.ireturn, 1) := by decide +kernel
theorem dX5_seat_0 : decode cX5_seat 0 = .ok (.iload_n 1, 1) := by decide +kernel
theorem dX5_seat_1 : decode cX5_seat 1 = .ok (.ifCond .lt 14, 3) := by decide +kernel
theorem dX5_seat_4 : decode cX5_seat 4 = .ok (.iload_n 1, 1) := by decide +kernel
theorem dX5_seat_5 : decode cX5_seat 5 = .ok (.aload_n 0, 1) := by decide +kernel
theorem dX5_seat_6 : decode cX5_seat 6 = .ok (.getfield 20, 3) := by decide +kernel
theorem dX5_seat_9 : decode cX5_seat 9 = .ok (.getfield 109, 3) := by decide +kernel
theorem dX5_seat_12 : decode cX5_seat 12 = .ok (.if_icmp .lt 13, 3) := by decide +kernel
theorem dX5_seat_15 : decode cX5_seat 15 = .ok (.new 134, 3) := by decide +kernel
theorem dX5_seat_18 : decode cX5_seat 18 = .ok (.dup, 1) := by decide +kernel
theorem dX5_seat_19 : decode cX5_seat 19 = .ok (.ldc 192, 2) := by decide +kernel
theorem dX5_seat_21 : decode cX5_seat 21 = .ok (.invokespecial 138, 3) := by decide +kernel
theorem dX5_seat_24 : decode cX5_seat 24 = .ok (.athrow, 1) := by decide +kernel
theorem dX5_seat_25 : decode cX5_seat 25 = .ok (.aload_n 0, 1) := by decide +kernel
theorem dX5_seat_26 : decode cX5_seat 26 = .ok (.getfield 41, 3) := by decide +kernel
theorem dX5_seat_29 : decode cX5_seat 29 = .ok (.getfield 112, 3) := by decide +kernel
theorem dX5_seat_32 : decode cX5_seat 32 = .ok (.getfield 194, 3) := by decide +kernel
theorem dX5_seat_35 : decode cX5_seat 35 = .ok (.iload_n 1, 1) := by decide +kernel
theorem dX5_seat_36 : decode cX5_seat 36 = .ok (.iaload, 1) := by decide +kernel
theorem dX5_seat_37 : decode cX5_seat 37 = .ok (.ireturn, 1) := by decide +kernel
theorem dX5_heap_0 : decode cX5_heap 0 = .ok (.iload_n 1, 1) := by decide +kernel
theorem dX5_heap_1 : decode cX5_heap 1 = .ok (.invokestatic 197, 3) := by decide +kernel
theorem dX5_heap_4 : decode cX5_heap 4 = .ok (.iconst 0, 1) := by decide +kernel
theorem dX5_heap_5 : decode cX5_heap 5 = .ok (.istore_n 2, 1) := by decide +kernel
theorem dX5_heap_6 : decode cX5_heap 6 = .ok (.iconst 0, 1) := by decide +kernel
theorem dX5_heap_7 : decode cX5_heap 7 = .ok (.istore_n 3, 1) := by decide +kernel
theorem dX5_heap_8 : decode cX5_heap 8 = .ok (.iload_n 3, 1) := by decide +kernel
theorem dX5_heap_9 : decode cX5_heap 9 = .ok (.aload_n 0, 1) := by decide +kernel
theorem dX5_heap_10 : decode cX5_heap 10 = .ok (.getfield 20, 3) := by decide +kernel
theorem dX5_heap_13 : decode cX5_heap 13 = .ok (.getfield 106, 3) := by decide +kernel
theorem dX5_heap_16 : decode cX5_heap 16 = .ok (.if_icmp .ge 31, 3) := by decide +kernel
theorem dX5_heap_19 : decode cX5_heap 19 = .ok (.aload_n 0, 1) := by decide +kernel
theorem dX5_heap_20 : decode cX5_heap 20 = .ok (.getfield 41, 3) := by decide +kernel
theorem dX5_heap_23 : decode cX5_heap 23 = .ok (.getfield 112, 3) := by decide +kernel
theorem dX5_heap_26 : decode cX5_heap 26 = .ok (.getfield 159, 3) := by decide +kernel
theorem dX5_heap_29 : decode cX5_heap 29 = .ok (.iload_n 3, 1) := by decide +kernel
theorem dX5_heap_30 : decode cX5_heap 30 = .ok (.iaload, 1) := by decide +kernel
theorem dX5_heap_31 : decode cX5_heap 31 = .ok (.iload_n 1, 1) := by decide +kernel
theorem dX5_heap_32 : decode cX5_heap 32 = .ok (.if_icmp .ne 9, 3) := by decide +kernel
theorem dX5_heap_35 : decode cX5_heap 35 = .ok (.iload_n 2, 1) := by decide +kernel
theorem dX5_heap_36 : decode cX5_heap 36 = .ok (.iconst 1, 1) := by decide +kernel
theorem dX5_heap_37 : decode cX5_heap 37 = .ok (.iload_n 3, 1) := by decide +kernel
theorem dX5_heap_38 : decode cX5_heap 38 = .ok (.ishl, 1) := by decide +kernel
theorem dX5_heap_39 : decode cX5_heap 39 = .ok (.ior, 1) := by decide +kernel
theorem dX5_heap_40 : decode cX5_heap 40 = .ok (.istore_n 2, 1) := by decide +kernel
theorem dX5_heap_41 : decode cX5_heap 41 = .ok (.iinc 3 1, 3) := by decide +kernel
theorem dX5_heap_44 : decode cX5_heap 44 = .ok (.goto (-36), 3) := by decide +kernel
theorem dX5_heap_47 : decode cX5_heap 47 = .ok (.iload_n 2, 1) := by decide +kernel
theorem dX5_heap_48 : decode cX5_heap 48 = .ok (.ireturn, 1) := by decide +kernel
theorem dX5_weight_0 : decode cX5_weight 0 = .ok (.iload_n 1, 1) := by decide +kernel
theorem dX5_weight_1 : decode cX5_weight 1 = .ok (.invokestatic 197, 3) := by decide +kernel
theorem dX5_weight_4 : decode cX5_weight 4 = .ok (.iconst 0, 1) := by decide +kernel
theorem dX5_weight_5 : decode cX5_weight 5 = .ok (.istore_n 2, 1) := by decide +kernel
theorem dX5_weight_6 : decode cX5_weight 6 = .ok (.iconst 0, 1) := by decide +kernel
theorem dX5_weight_7 : decode cX5_weight 7 = .ok (.istore_n 3, 1) := by decide +kernel
theorem dX5_weight_8 : decode cX5_weight 8 = .ok (.iload_n 3, 1) := by decide +kernel
theorem dX5_weight_9 : decode cX5_weight 9 = .ok (.aload_n 0, 1) := by decide +kernel
theorem dX5_weight_10 : decode cX5_weight 10 = .ok (.getfield 20, 3) := by decide +kernel
theorem dX5_weight_13 : decode cX5_weight 13 = .ok (.getfield 106, 3) := by decide +kernel
theorem dX5_weight_16 : decode cX5_weight 16 = .ok (.if_icmp .ge 37, 3) := by decide +kernel
theorem dX5_weight_19 : decode cX5_weight 19 = .ok (.aload_n 0, 1) := by decide +kernel
theorem dX5_weight_20 : decode cX5_weight 20 = .ok (.getfield 41, 3) := by decide +kernel
theorem dX5_weight_23 : decode cX5_weight 23 = .ok (.getfield 112, 3) := by decide +kernel
theorem dX5_weight_26 : decode cX5_weight 26 = .ok (.getfield 159, 3) := by decide +kernel
theorem dX5_weight_29 : decode cX5_weight 29 = .ok (.iload_n 3, 1) := by decide +kernel
theorem dX5_weight_30 : decode cX5_weight 30 = .ok (.iaload, 1) := by decide +kernel
theorem dX5_weight_31 : decode cX5_weight 31 = .ok (.iload_n 1, 1) := by decide +kernel
theorem dX5_weight_32 : decode cX5_weight 32 = .ok (.if_icmp .ne 15, 3) := by decide +kernel
theorem dX5_weight_35 : decode cX5_weight 35 = .ok (.iload_n 2, 1) := by decide +kernel
theorem dX5_weight_36 : decode cX5_weight 36 = .ok (.aload_n 0, 1) := by decide +kernel
theorem dX5_weight_37 : decode cX5_weight 37 = .ok (.getfield 20, 3) := by decide +kernel
theorem dX5_weight_40 : decode cX5_weight 40 = .ok (.getfield 162, 3) := by decide +kernel
theorem dX5_weight_43 : decode cX5_weight 43 = .ok (.iload_n 3, 1) := by decide +kernel
theorem dX5_weight_44 : decode cX5_weight 44 = .ok (.iaload, 1) := by decide +kernel
theorem dX5_weight_45 : decode cX5_weight 45 = .ok (.iadd, 1) := by decide +kernel
theorem dX5_weight_46 : decode cX5_weight 46 = .ok (.istore_n 2, 1) := by decide +kernel
theorem dX5_weight_47 : decode cX5_weight 47 = .ok (.iinc 3 1, 3) := by decide +kernel
theorem dX5_weight_50 : decode cX5_weight 50 = .ok (.goto (-42), 3) := by decide +kernel
theorem dX5_weight_53 : decode cX5_weight 53 = .ok (.iload_n 2, 1) := by decide +kernel
theorem dX5_weight_54 : decode cX5_weight 54 = .ok (.ireturn, 1) := by decide +kernel
theorem dX5_apart_0 : decode cX5_apart 0 = .ok (.aload_n 0, 1) := by decide +kernel
theorem dX5_apart_1 : decode cX5_apart 1 = .ok (.iload_n 1, 1) := by decide +kernel
theorem dX5_apart_2 : decode cX5_apart 2 = .ok (.invokevirtual 156, 3) := by decide +kernel
theorem dX5_apart_5 : decode cX5_apart 5 = .ok (.aload_n 0, 1) := by decide +kernel
theorem dX5_apart_6 : decode cX5_apart 6 = .ok (.iload_n 2, 1) := by decide +kernel
theorem dX5_apart_7 : decode cX5_apart 7 = .ok (.invokevirtual 156, 3) := by decide +kernel
theorem dX5_apart_10 : decode cX5_apart 10 = .ok (.aload_n 0, 1) := by decide +kernel
theorem dX5_apart_11 : decode cX5_apart 11 = .ok (.getfield 41, 3) := by decide +kernel
theorem dX5_apart_14 : decode cX5_apart 14 = .ok (.getfield 112, 3) := by decide +kernel
theorem dX5_apart_17 : decode cX5_apart 17 = .ok (.getfield 159, 3) := by decide +kernel
theorem dX5_apart_20 : decode cX5_apart 20 = .ok (.iload_n 1, 1) := by decide +kernel
theorem dX5_apart_21 : decode cX5_apart 21 = .ok (.iaload, 1) := by decide +kernel
theorem dX5_apart_22 : decode cX5_apart 22 = .ok (.aload_n 0, 1) := by decide +kernel
theorem dX5_apart_23 : decode cX5_apart 23 = .ok (.getfield 41, 3) := by decide +kernel
theorem dX5_apart_26 : decode cX5_apart 26 = .ok (.getfield 112, 3) := by decide +kernel
theorem dX5_apart_29 : decode cX5_apart 29 = .ok (.getfield 159, 3) := by decide +kernel
theorem dX5_apart_32 : decode cX5_apart 32 = .ok (.iload_n 2, 1) := by decide +kernel
theorem dX5_apart_33 : decode cX5_apart 33 = .ok (.iaload, 1) := by decide +kernel
theorem dX5_apart_34 : decode cX5_apart 34 = .ok (.isub, 1) := by decide +kernel
theorem dX5_apart_35 : decode cX5_apart 35 = .ok (.invokestatic 200, 3) := by decide +kernel
theorem dX5_apart_38 : decode cX5_apart 38 = .ok (.istore_n 3, 1) := by decide +kernel
theorem dX5_apart_39 : decode cX5_apart 39 = .ok (.iload_n 3, 1) := by decide +kernel
theorem dX5_apart_40 : decode cX5_apart 40 = .ok (.bipush 12, 2) := by decide +kernel
theorem dX5_apart_42 : decode cX5_apart 42 = .ok (.iload_n 3, 1) := by decide +kernel
theorem dX5_apart_43 : decode cX5_apart 43 = .ok (.isub, 1) := by decide +kernel
theorem dX5_apart_44 : decode cX5_apart 44 = .ok (.invokestatic 205, 3) := by decide +kernel
theorem dX5_apart_47 : decode cX5_apart 47 = .ok (.ireturn, 1) := by decide +kernel
theorem dX5_stir_0 : decode cX5_stir 0 = .ok (.aload_n 0, 1) := by decide +kernel
theorem dX5_stir_1 : decode cX5_stir 1 = .ok (.iload_n 1, 1) := by decide +kernel
theorem dX5_stir_2 : decode cX5_stir 2 = .ok (.invokevirtual 167, 3) := by decide +kernel
theorem dX5_stir_5 : decode cX5_stir 5 = .ok (.aload_n 0, 1) := by decide +kernel
theorem dX5_stir_6 : decode cX5_stir 6 = .ok (.iload_n 2, 1) := by decide +kernel
theorem dX5_stir_7 : decode cX5_stir 7 = .ok (.invokevirtual 156, 3) := by decide +kernel
theorem dX5_stir_10 : decode cX5_stir 10 = .ok (.iload_n 3, 1) := by decide +kernel
theorem dX5_stir_11 : decode cX5_stir 11 = .ok (.iconst 0, 1) := by decide +kernel
theorem dX5_stir_12 : decode cX5_stir 12 = .ok (.bipush 99, 2) := by decide +kernel
theorem dX5_stir_14 : decode cX5_stir 14 = .ok (.invokestatic 208, 3) := by decide +kernel
theorem dX5_stir_17 : decode cX5_stir 17 = .ok (.aload_n 0, 1) := by decide +kernel
theorem dX5_stir_18 : decode cX5_stir 18 = .ok (.getfield 41, 3) := by decide +kernel
theorem dX5_stir_21 : decode cX5_stir 21 = .ok (.getfield 112, 3) := by decide +kernel
theorem dX5_stir_24 : decode cX5_stir 24 = .ok (.getfield 159, 3) := by decide +kernel
theorem dX5_stir_27 : decode cX5_stir 27 = .ok (.iload_n 2, 1) := by decide +kernel
theorem dX5_stir_28 : decode cX5_stir 28 = .ok (.iaload, 1) := by decide +kernel
theorem dX5_stir_29 : decode cX5_stir 29 = .ok (.aload_n 0, 1) := by decide +kernel
theorem dX5_stir_30 : decode cX5_stir 30 = .ok (.getfield 41, 3) := by decide +kernel
theorem dX5_stir_33 : decode cX5_stir 33 = .ok (.getfield 112, 3) := by decide +kernel
theorem dX5_stir_36 : decode cX5_stir 36 = .ok (.getfield 173, 3) := by decide +kernel
theorem dX5_stir_39 : decode cX5_stir 39 = .ok (.iload_n 1, 1) := by decide +kernel
theorem dX5_stir_40 : decode cX5_stir 40 = .ok (.iaload, 1) := by decide +kernel
theorem dX5_stir_41 : decode cX5_stir 41 = .ok (.iload_n 3, 1) := by decide +kernel
theorem dX5_stir_42 : decode cX5_stir 42 = .ok (.invokestatic 212, 3) := by decide +kernel
theorem dX5_stir_45 : decode cX5_stir 45 = .ok (.aload_n 0, 1) := by decide +kernel
theorem dX5_stir_46 : decode cX5_stir 46 = .ok (.getfield 20, 3) := by decide +kernel
theorem dX5_stir_49 : decode cX5_stir 49 = .ok (.getfield 162, 3) := by decide +kernel
theorem dX5_stir_52 : decode cX5_stir 52 = .ok (.iload_n 2, 1) := by decide +kernel
theorem dX5_stir_53 : decode cX5_stir 53 = .ok (.iaload, 1) := by decide +kernel
theorem dX5_stir_54 : decode cX5_stir 54 = .ok (.invokestatic 215, 3) := by decide +kernel
theorem dX5_stir_57 : decode cX5_stir 57 = .ok (.ireturn, 1) := by decide +kernel
theorem dX5_needLeaf_0 : decode cX5_needLeaf 0 = .ok (.iload_n 1, 1) := by decide +kernel
theorem dX5_needLeaf_1 : decode cX5_needLeaf 1 = .ok (.ifCond .lt 14, 3) := by decide +kernel
theorem dX5_needLeaf_4 : decode cX5_needLeaf 4 = .ok (.iload_n 1, 1) := by decide +kernel
theorem dX5_needLeaf_5 : decode cX5_needLeaf 5 = .ok (.aload_n 0, 1) := by decide +kernel
theorem dX5_needLeaf_6 : decode cX5_needLeaf 6 = .ok (.getfield 20, 3) := by decide +kernel
theorem dX5_needLeaf_9 : decode cX5_needLeaf 9 = .ok (.getfield 106, 3) := by decide +kernel
theorem dX5_needLeaf_12 : decode cX5_needLeaf 12 = .ok (.if_icmp .lt 13, 3) := by decide +kernel
theorem dX5_needLeaf_15 : decode cX5_needLeaf 15 = .ok (.new 134, 3) := by decide +kernel
theorem dX5_needLeaf_18 : decode cX5_needLeaf 18 = .ok (.dup, 1) := by decide +kernel
theorem dX5_needLeaf_19 : decode cX5_needLeaf 19 = .ok (.ldc 219, 2) := by decide +kernel
theorem dX5_needLeaf_21 : decode cX5_needLeaf 21 = .ok (.invokespecial 138, 3) := by decide +kernel
theorem dX5_needLeaf_24 : decode cX5_needLeaf 24 = .ok (.athrow, 1) := by decide +kernel
theorem dX5_needLeaf_25 : decode cX5_needLeaf 25 = .ok (.return_, 1) := by decide +kernel
theorem dX5_needJudge_0 : decode cX5_needJudge 0 = .ok (.iload_n 1, 1) := by decide +kernel
theorem dX5_needJudge_1 : decode cX5_needJudge 1 = .ok (.ifCond .lt 14, 3) := by decide +kernel
theorem dX5_needJudge_4 : decode cX5_needJudge 4 = .ok (.iload_n 1, 1) := by decide +kernel
theorem dX5_needJudge_5 : decode cX5_needJudge 5 = .ok (.aload_n 0, 1) := by decide +kernel
theorem dX5_needJudge_6 : decode cX5_needJudge 6 = .ok (.getfield 20, 3) := by decide +kernel
theorem dX5_needJudge_9 : decode cX5_needJudge 9 = .ok (.getfield 109, 3) := by decide +kernel
theorem dX5_needJudge_12 : decode cX5_needJudge 12 = .ok (.if_icmp .lt 13, 3) := by decide +kernel
theorem dX5_needJudge_15 : decode cX5_needJudge 15 = .ok (.new 134, 3) := by decide +kernel
theorem dX5_needJudge_18 : decode cX5_needJudge 18 = .ok (.dup, 1) := by decide +kernel
theorem dX5_needJudge_19 : decode cX5_needJudge 19 = .ok (.ldc 221, 2) := by decide +kernel
theorem dX5_needJudge_21 : decode cX5_needJudge 21 = .ok (.invokespecial 138, 3) := by decide +kernel
theorem dX5_needJudge_24 : decode cX5_needJudge 24 = .ok (.athrow, 1) := by decide +kernel
theorem dX5_needJudge_25 : decode cX5_needJudge 25 = .ok (.return_, 1) := by decide +kernel
theorem dX5_needPlace_0 : decode cX5_needPlace 0 = .ok (.iload_n 0, 1) := by decide +kernel
theorem dX5_needPlace_1 : decode cX5_needPlace 1 = .ok (.ifCond .lt 9, 3) := by decide +kernel
theorem dX5_needPlace_4 : decode cX5_needPlace 4 = .ok (.iload_n 0, 1) := by decide +kernel
theorem dX5_needPlace_5 : decode cX5_needPlace 5 = .ok (.bipush 12, 2) := by decide +kernel
theorem dX5_needPlace_7 : decode cX5_needPlace 7 = .ok (.if_icmp .lt 13, 3) := by decide +kernel
theorem dX5_needPlace_10 : decode cX5_needPlace 10 = .ok (.new 134, 3) := by decide +kernel
theorem dX5_needPlace_13 : decode cX5_needPlace 13 = .ok (.dup, 1) := by decide +kernel
theorem dX5_needPlace_14 : decode cX5_needPlace 14 = .ok (.ldc 223, 2) := by decide +kernel
theorem dX5_needPlace_16 : decode cX5_needPlace 16 = .ok (.invokespecial 138, 3) := by decide +kernel
theorem dX5_needPlace_19 : decode cX5_needPlace 19 = .ok (.athrow, 1) := by decide +kernel
theorem dX5_needPlace_20 : decode cX5_needPlace 20 = .ok (.return_, 1) := by decide +kernel
theorem dX5_needVerdict_0 : decode cX5_needVerdict 0 = .ok (.iload_n 0, 1) := by decide +kernel
theorem dX5_needVerdict_1 : decode cX5_needVerdict 1 = .ok (.ifCond .lt 8, 3) := by decide +kernel
theorem dX5_needVerdict_4 : decode cX5_needVerdict 4 = .ok (.iload_n 0, 1) := by decide +kernel
theorem dX5_needVerdict_5 : decode cX5_needVerdict 5 = .ok (.iconst 5, 1) := by decide +kernel
theorem dX5_needVerdict_6 : decode cX5_needVerdict 6 = .ok (.if_icmp .lt 13, 3) := by decide +kernel
theorem dX5_needVerdict_9 : decode cX5_needVerdict 9 = .ok (.new 134, 3) := by decide +kernel
theorem dX5_needVerdict_12 : decode cX5_needVerdict 12 = .ok (.dup, 1) := by decide +kernel
theorem dX5_needVerdict_13 : decode cX5_needVerdict 13 = .ok (.ldc 225, 2) := by decide +kernel
theorem dX5_needVerdict_15 : decode cX5_needVerdict 15 = .ok (.invokespecial 138, 3) := by decide +kernel
theorem dX5_needVerdict_18 : decode cX5_needVerdict 18 = .ok (.athrow, 1) := by decide +kernel
theorem dX5_needVerdict_19 : decode cX5_needVerdict 19 = .ok (.return_, 1) := by decide +kernel
theorem dX5_needWhat_0 : decode cX5_needWhat 0 = .ok (.iload_n 0, 1) := by decide +kernel
theorem dX5_needWhat_1 : decode cX5_needWhat 1 = .ok (.ifCond .lt 8, 3) := by decide +kernel
theorem dX5_needWhat_4 : decode cX5_needWhat 4 = .ok (.iload_n 0, 1) := by decide +kernel
theorem dX5_needWhat_5 : decode cX5_needWhat 5 = .ok (.iload_n 1, 1) := by decide +kernel
theorem dX5_needWhat_6 : decode cX5_needWhat 6 = .ok (.if_icmp .le 13, 3) := by decide +kernel
theorem dX5_needWhat_9 : decode cX5_needWhat 9 = .ok (.new 134, 3) := by decide +kernel
theorem dX5_needWhat_12 : decode cX5_needWhat 12 = .ok (.dup, 1) := by decide +kernel
theorem dX5_needWhat_13 : decode cX5_needWhat 13 = .ok (.ldc 227, 2) := by decide +kernel
theorem dX5_needWhat_15 : decode cX5_needWhat 15 = .ok (.invokespecial 138, 3) := by decide +kernel
theorem dX5_needWhat_18 : decode cX5_needWhat 18 = .ok (.athrow, 1) := by decide +kernel
theorem dX5_needWhat_19 : decode cX5_needWhat 19 = .ok (.return_, 1) := by decide +kernel
theorem dX5_needWithin_0 : decode cX5_needWithin 0 = .ok (.iload_n 0, 1) := by decide +kernel
theorem dX5_needWithin_1 : decode cX5_needWithin 1 = .ok (.iload_n 1, 1) := by decide +kernel
theorem dX5_needWithin_2 : decode cX5_needWithin 2 = .ok (.if_icmp .lt 8, 3) := by decide +kernel
theorem dX5_needWithin_5 : decode cX5_needWithin 5 = .ok (.iload_n 0, 1) := by decide +kernel
theorem dX5_needWithin_6 : decode cX5_needWithin 6 = .ok (.iload_n 2, 1) := by decide +kernel
theorem dX5_needWithin_7 : decode cX5_needWithin 7 = .ok (.if_icmp .le 13, 3) := by decide +kernel
theorem dX5_needWithin_10 : decode cX5_needWithin 10 = .ok (.new 77, 3) := by decide +kernel
theorem dX5_needWithin_13 : decode cX5_needWithin 13 = .ok (.dup, 1) := by decide +kernel
theorem dX5_needWithin_14 : decode cX5_needWithin 14 = .ok (.ldc 229, 2) := by decide +kernel
theorem dX5_needWithin_16 : decode cX5_needWithin 16 = .ok (.invokespecial 81, 3) := by decide +kernel
theorem dX5_needWithin_19 : decode cX5_needWithin 19 = .ok (.athrow, 1) := by decide +kernel
theorem dX5_needWithin_20 : decode cX5_needWithin 20 = .ok (.return_, 1) := by decide +kernel
theorem dX5_cases_0 : decode cX5_cases 0 = .ok (.iload_n 1, 1) := by decide +kernel
theorem dX5_cases_1 : decode cX5_cases 1 = .ok (.iconst 1, 1) := by decide +kernel
theorem dX5_cases_2 : decode cX5_cases 2 = .ok (.if_icmp .lt 27, 3) := by decide +kernel
theorem dX5_cases_5 : decode cX5_cases 5 = .ok (.iload_n 1, 1) := by decide +kernel
theorem dX5_cases_6 : decode cX5_cases 6 = .ok (.bipush 20, 2) := by decide +kernel
theorem dX5_cases_8 : decode cX5_cases 8 = .ok (.if_icmp .gt 21, 3) := by decide +kernel
theorem dX5_cases_11 : decode cX5_cases 11 = .ok (.aload_n 0, 1) := by decide +kernel
theorem dX5_cases_12 : decode cX5_cases 12 = .ok (.getfield 41, 3) := by decide +kernel
theorem dX5_cases_15 : decode cX5_cases 15 = .ok (.getfield 112, 3) := by decide +kernel
theorem dX5_cases_18 : decode cX5_cases 18 = .ok (.getfield 115, 3) := by decide +kernel
theorem dX5_cases_21 : decode cX5_cases 21 = .ok (.iload_n 1, 1) := by decide +kernel
theorem dX5_cases_22 : decode cX5_cases 22 = .ok (.iadd, 1) := by decide +kernel
theorem dX5_cases_23 : decode cX5_cases 23 = .ok (.sipush 999, 3) := by decide +kernel
theorem dX5_cases_26 : decode cX5_cases 26 = .ok (.if_icmp .le 18, 3) := by decide +kernel
theorem dX5_cases_29 : decode cX5_cases 29 = .ok (.aload_n 0, 1) := by decide +kernel
theorem dX5_cases_30 : decode cX5_cases 30 = .ok (.getfield 41, 3) := by decide +kernel
theorem dX5_cases_33 : decode cX5_cases 33 = .ok (.getfield 91, 3) := by decide +kernel
theorem dX5_cases_36 : decode cX5_cases 36 = .ok (.iconst 1, 1) := by decide +kernel
theorem dX5_cases_37 : decode cX5_cases 37 = .ok (.dup2, 1) := by decide +kernel
theorem dX5_cases_38 : decode cX5_cases 38 = .ok (.iaload, 1) := by decide +kernel
theorem dX5_cases_39 : decode cX5_cases 39 = .ok (.iconst 1, 1) := by decide +kernel
theorem dX5_cases_40 : decode cX5_cases 40 = .ok (.iadd, 1) := by decide +kernel
theorem dX5_cases_41 : decode cX5_cases 41 = .ok (.iastore, 1) := by decide +kernel
theorem dX5_cases_42 : decode cX5_cases 42 = .ok (.iconst (-1), 1) := by decide +kernel
theorem dX5_cases_43 : decode cX5_cases 43 = .ok (.ireturn, 1) := by decide +kernel
theorem dX5_cases_44 : decode cX5_cases 44 = .ok (.aload_n 0, 1) := by decide +kernel
theorem dX5_cases_45 : decode cX5_cases 45 = .ok (.getfield 41, 3) := by decide +kernel
theorem dX5_cases_48 : decode cX5_cases 48 = .ok (.invokevirtual 231, 3) := by decide +kernel
theorem dX5_cases_51 : decode cX5_cases 51 = .ok (.iconst 0, 1) := by decide +kernel
theorem dX5_cases_52 : decode cX5_cases 52 = .ok (.istore_n 2, 1) := by decide +kernel
theorem dX5_cases_53 : decode cX5_cases 53 = .ok (.iload_n 2, 1) := by decide +kernel
theorem dX5_cases_54 : decode cX5_cases 54 = .ok (.iload_n 1, 1) := by decide +kernel
theorem dX5_cases_55 : decode cX5_cases 55 = .ok (.if_icmp .ge 27, 3) := by decide +kernel
theorem dX5_cases_58 : decode cX5_cases 58 = .ok (.aload_n 0, 1) := by decide +kernel
theorem dX5_cases_59 : decode cX5_cases 59 = .ok (.getfield 41, 3) := by decide +kernel
theorem dX5_cases_62 : decode cX5_cases 62 = .ok (.getfield 112, 3) := by decide +kernel
theorem dX5_cases_65 : decode cX5_cases 65 = .ok (.aload_n 0, 1) := by decide +kernel
theorem dX5_cases_66 : decode cX5_cases 66 = .ok (.getfield 20, 3) := by decide +kernel
theorem dX5_cases_69 : decode cX5_cases 69 = .ok (.aload_n 0, 1) := by decide +kernel
theorem dX5_cases_70 : decode cX5_cases 70 = .ok (.getfield 34, 3) := by decide +kernel
theorem dX5_cases_73 : decode cX5_cases 73 = .ok (.invokevirtual 234, 3) := by decide +kernel
theorem dX5_cases_76 : decode cX5_cases 76 = .ok (.iinc 2 1, 3) := by decide +kernel
theorem dX5_cases_79 : decode cX5_cases 79 = .ok (.goto (-26), 3) := by decide +kernel
theorem dX5_cases_82 : decode cX5_cases 82 = .ok (.aload_n 0, 1) := by decide +kernel
theorem dX5_cases_83 : decode cX5_cases 83 = .ok (.getfield 41, 3) := by decide +kernel
theorem dX5_cases_86 : decode cX5_cases 86 = .ok (.getfield 112, 3) := by decide +kernel
theorem dX5_cases_89 : decode cX5_cases 89 = .ok (.getfield 115, 3) := by decide +kernel
theorem dX5_cases_92 : decode cX5_cases 92 = .ok (.ireturn, 1) := by decide +kernel
theorem dX5_change_0 : decode cX5_change 0 = .ok (.aload_n 0, 1) := by decide +kernel
theorem dX5_change_1 : decode cX5_change 1 = .ok (.iload_n 1, 1) := by decide +kernel
theorem dX5_change_2 : decode cX5_change 2 = .ok (.invokevirtual 167, 3) := by decide +kernel
theorem dX5_change_5 : decode cX5_change 5 = .ok (.aload_n 0, 1) := by decide +kernel
theorem dX5_change_6 : decode cX5_change 6 = .ok (.iload_n 2, 1) := by decide +kernel
theorem dX5_change_7 : decode cX5_change 7 = .ok (.invokevirtual 167, 3) := by decide +kernel
theorem dX5_change_10 : decode cX5_change 10 = .ok (.iload_n 1, 1) := by decide +kernel
theorem dX5_change_11 : decode cX5_change 11 = .ok (.iload_n 2, 1) := by decide +kernel
theorem dX5_change_12 : decode cX5_change 12 = .ok (.if_icmp .ne 18, 3) := by decide +kernel
theorem dX5_change_15 : decode cX5_change 15 = .ok (.aload_n 0, 1) := by decide +kernel
theorem dX5_change_16 : decode cX5_change 16 = .ok (.getfield 41, 3) := by decide +kernel
theorem dX5_change_19 : decode cX5_change 19 = .ok (.getfield 91, 3) := by decide +kernel
theorem dX5_change_22 : decode cX5_change 22 = .ok (.iconst 1, 1) := by decide +kernel
theorem dX5_change_23 : decode cX5_change 23 = .ok (.dup2, 1) := by decide +kernel
theorem dX5_change_24 : decode cX5_change 24 = .ok (.iaload, 1) := by decide +kernel
theorem dX5_change_25 : decode cX5_change 25 = .ok (.iconst 1, 1) := by decide +kernel
theorem dX5_change_26 : decode cX5_change 26 = .ok (.iadd, 1) := by decide +kernel
theorem dX5_change_27 : decode cX5_change 27 = .ok (.iastore, 1) := by decide +kernel
theorem dX5_change_28 : decode cX5_change 28 = .ok (.iconst 0, 1) := by decide +kernel
theorem dX5_change_29 : decode cX5_change 29 = .ok (.ireturn, 1) := by decide +kernel
theorem dX5_change_30 : decode cX5_change 30 = .ok (.aload_n 0, 1) := by decide +kernel
theorem dX5_change_31 : decode cX5_change 31 = .ok (.getfield 41, 3) := by decide +kernel
theorem dX5_change_34 : decode cX5_change 34 = .ok (.invokevirtual 231, 3) := by decide +kernel
theorem dX5_change_37 : decode cX5_change 37 = .ok (.aload_n 0, 1) := by decide +kernel
theorem dX5_change_38 : decode cX5_change 38 = .ok (.getfield 41, 3) := by decide +kernel
theorem dX5_change_41 : decode cX5_change 41 = .ok (.getfield 112, 3) := by decide +kernel
theorem dX5_change_44 : decode cX5_change 44 = .ok (.iload_n 1, 1) := by decide +kernel
theorem dX5_change_45 : decode cX5_change 45 = .ok (.iload_n 2, 1) := by decide +kernel
theorem dX5_change_46 : decode cX5_change 46 = .ok (.aload_n 0, 1) := by decide +kernel
theorem dX5_change_47 : decode cX5_change 47 = .ok (.getfield 20, 3) := by decide +kernel
theorem dX5_change_50 : decode cX5_change 50 = .ok (.getfield 109, 3) := by decide +kernel
theorem dX5_change_53 : decode cX5_change 53 = .ok (.invokevirtual 238, 3) := by decide +kernel
theorem dX5_change_56 : decode cX5_change 56 = .ok (.iconst 1, 1) := by decide +kernel
theorem dX5_change_57 : decode cX5_change 57 = .ok (.ireturn, 1) := by decide +kernel
theorem dX5_hand_0 : decode cX5_hand 0 = .ok (.aload_n 0, 1) := by decide +kernel
theorem dX5_hand_1 : decode cX5_hand 1 = .ok (.iload_n 1, 1) := by decide +kernel
theorem dX5_hand_2 : decode cX5_hand 2 = .ok (.invokevirtual 167, 3) := by decide +kernel
theorem dX5_hand_5 : decode cX5_hand 5 = .ok (.iload_n 2, 1) := by decide +kernel
theorem dX5_hand_6 : decode cX5_hand 6 = .ok (.ifCond .lt 9, 3) := by decide +kernel
theorem dX5_hand_9 : decode cX5_hand 9 = .ok (.iload_n 2, 1) := by decide +kernel
theorem dX5_hand_10 : decode cX5_hand 10 = .ok (.bipush 12, 2) := by decide +kernel
theorem dX5_hand_12 : decode cX5_hand 12 = .ok (.if_icmp .le 18, 3) := by decide +kernel
theorem dX5_hand_15 : decode cX5_hand 15 = .ok (.aload_n 0, 1) := by decide +kernel
theorem dX5_hand_16 : decode cX5_hand 16 = .ok (.getfield 41, 3) := by decide +kernel
theorem dX5_hand_19 : decode cX5_hand 19 = .ok (.getfield 91, 3) := by decide +kernel
theorem dX5_hand_22 : decode cX5_hand 22 = .ok (.iconst 1, 1) := by decide +kernel
theorem dX5_hand_23 : decode cX5_hand 23 = .ok (.dup2, 1) := by decide +kernel
theorem dX5_hand_24 : decode cX5_hand 24 = .ok (.iaload, 1) := by decide +kernel
theorem dX5_hand_25 : decode cX5_hand 25 = .ok (.iconst 1, 1) := by decide +kernel
theorem dX5_hand_26 : decode cX5_hand 26 = .ok (.iadd, 1) := by decide +kernel
theorem dX5_hand_27 : decode cX5_hand 27 = .ok (.iastore, 1) := by decide +kernel
theorem dX5_hand_28 : decode cX5_hand 28 = .ok (.iconst (-1), 1) := by decide +kernel
theorem dX5_hand_29 : decode cX5_hand 29 = .ok (.ireturn, 1) := by decide +kernel
theorem dX5_hand_30 : decode cX5_hand 30 = .ok (.aload_n 0, 1) := by decide +kernel
theorem dX5_hand_31 : decode cX5_hand 31 = .ok (.getfield 41, 3) := by decide +kernel
theorem dX5_hand_34 : decode cX5_hand 34 = .ok (.invokevirtual 231, 3) := by decide +kernel
theorem dX5_hand_37 : decode cX5_hand 37 = .ok (.aload_n 0, 1) := by decide +kernel
theorem dX5_hand_38 : decode cX5_hand 38 = .ok (.getfield 41, 3) := by decide +kernel
theorem dX5_hand_41 : decode cX5_hand 41 = .ok (.getfield 112, 3) := by decide +kernel
theorem dX5_hand_44 : decode cX5_hand 44 = .ok (.getfield 173, 3) := by decide +kernel
theorem dX5_hand_47 : decode cX5_hand 47 = .ok (.iload_n 1, 1) := by decide +kernel
theorem dX5_hand_48 : decode cX5_hand 48 = .ok (.iaload, 1) := by decide +kernel
theorem dX5_hand_49 : decode cX5_hand 49 = .ok (.istore_n 3, 1) := by decide +kernel
theorem dX5_hand_50 : decode cX5_hand 50 = .ok (.aload_n 0, 1) := by decide +kernel
theorem dX5_hand_51 : decode cX5_hand 51 = .ok (.getfield 41, 3) := by decide +kernel
theorem dX5_hand_54 : decode cX5_hand 54 = .ok (.getfield 112, 3) := by decide +kernel
theorem dX5_hand_57 : decode cX5_hand 57 = .ok (.getfield 173, 3) := by decide +kernel
theorem dX5_hand_60 : decode cX5_hand 60 = .ok (.iload_n 1, 1) := by decide +kernel
theorem dX5_hand_61 : decode cX5_hand 61 = .ok (.iload_n 2, 1) := by decide +kernel
theorem dX5_hand_62 : decode cX5_hand 62 = .ok (.iastore, 1) := by decide +kernel
theorem dX5_hand_63 : decode cX5_hand 63 = .ok (.iload_n 3, 1) := by decide +kernel
theorem dX5_hand_64 : decode cX5_hand 64 = .ok (.ireturn, 1) := by decide +kernel
theorem dX5_pot_0 : decode cX5_pot 0 = .ok (.iload_n 1, 1) := by decide +kernel
theorem dX5_pot_1 : decode cX5_pot 1 = .ok (.ifCond .lt 9, 3) := by decide +kernel
theorem dX5_pot_4 : decode cX5_pot 4 = .ok (.iload_n 1, 1) := by decide +kernel
theorem dX5_pot_5 : decode cX5_pot 5 = .ok (.bipush 99, 2) := by decide +kernel
theorem dX5_pot_7 : decode cX5_pot 7 = .ok (.if_icmp .le 18, 3) := by decide +kernel
theorem dX5_pot_10 : decode cX5_pot 10 = .ok (.aload_n 0, 1) := by decide +kernel
theorem dX5_pot_11 : decode cX5_pot 11 = .ok (.getfield 41, 3) := by decide +kernel
theorem dX5_pot_14 : decode cX5_pot 14 = .ok (.getfield 91, 3) := by decide +kernel
theorem dX5_pot_17 : decode cX5_pot 17 = .ok (.iconst 1, 1) := by decide +kernel
theorem dX5_pot_18 : decode cX5_pot 18 = .ok (.dup2, 1) := by decide +kernel
theorem dX5_pot_19 : decode cX5_pot 19 = .ok (.iaload, 1) := by decide +kernel
theorem dX5_pot_20 : decode cX5_pot 20 = .ok (.iconst 1, 1) := by decide +kernel
theorem dX5_pot_21 : decode cX5_pot 21 = .ok (.iadd, 1) := by decide +kernel
theorem dX5_pot_22 : decode cX5_pot 22 = .ok (.iastore, 1) := by decide +kernel
theorem dX5_pot_23 : decode cX5_pot 23 = .ok (.iconst (-1), 1) := by decide +kernel
theorem dX5_pot_24 : decode cX5_pot 24 = .ok (.ireturn, 1) := by decide +kernel
theorem dX5_pot_25 : decode cX5_pot 25 = .ok (.aload_n 0, 1) := by decide +kernel
theorem dX5_pot_26 : decode cX5_pot 26 = .ok (.getfield 41, 3) := by decide +kernel
theorem dX5_pot_29 : decode cX5_pot 29 = .ok (.invokevirtual 231, 3) := by decide +kernel
theorem dX5_pot_32 : decode cX5_pot 32 = .ok (.aload_n 0, 1) := by decide +kernel
theorem dX5_pot_33 : decode cX5_pot 33 = .ok (.getfield 41, 3) := by decide +kernel
theorem dX5_pot_36 : decode cX5_pot 36 = .ok (.getfield 112, 3) := by decide +kernel
theorem dX5_pot_39 : decode cX5_pot 39 = .ok (.getfield 118, 3) := by decide +kernel
theorem dX5_pot_42 : decode cX5_pot 42 = .ok (.istore_n 2, 1) := by decide +kernel
theorem dX5_pot_43 : decode cX5_pot 43 = .ok (.aload_n 0, 1) := by decide +kernel
theorem dX5_pot_44 : decode cX5_pot 44 = .ok (.getfield 41, 3) := by decide +kernel
theorem dX5_pot_47 : decode cX5_pot 47 = .ok (.getfield 112, 3) := by decide +kernel
theorem dX5_pot_50 : decode cX5_pot 50 = .ok (.iload_n 1, 1) := by decide +kernel
theorem dX5_pot_51 : decode cX5_pot 51 = .ok (.putfield 118, 3) := by decide +kernel
theorem dX5_pot_54 : decode cX5_pot 54 = .ok (.iload_n 2, 1) := by decide +kernel
theorem dX5_pot_55 : decode cX5_pot 55 = .ok (.ireturn, 1) := by decide +kernel
theorem dX5_put_0 : decode cX5_put 0 = .ok (.aload_n 0, 1) := by decide +kernel
theorem dX5_put_1 : decode cX5_put 1 = .ok (.iload_n 1, 1) := by decide +kernel
theorem dX5_put_2 : decode cX5_put 2 = .ok (.invokevirtual 156, 3) := by decide +kernel
theorem dX5_put_5 : decode cX5_put 5 = .ok (.iload_n 2, 1) := by decide +kernel
theorem dX5_put_6 : decode cX5_put 6 = .ok (.invokestatic 197, 3) := by decide +kernel
theorem dX5_put_9 : decode cX5_put 9 = .ok (.aload_n 0, 1) := by decide +kernel
theorem dX5_put_10 : decode cX5_put 10 = .ok (.getfield 41, 3) := by decide +kernel
theorem dX5_put_13 : decode cX5_put 13 = .ok (.getfield 112, 3) := by decide +kernel
theorem dX5_put_16 : decode cX5_put 16 = .ok (.getfield 159, 3) := by decide +kernel
theorem dX5_put_19 : decode cX5_put 19 = .ok (.iload_n 1, 1) := by decide +kernel
theorem dX5_put_20 : decode cX5_put 20 = .ok (.iaload, 1) := by decide +kernel
theorem dX5_put_21 : decode cX5_put 21 = .ok (.istore_n 3, 1) := by decide +kernel
theorem dX5_put_22 : decode cX5_put 22 = .ok (.iload_n 3, 1) := by decide +kernel
theorem dX5_put_23 : decode cX5_put 23 = .ok (.iload_n 2, 1) := by decide +kernel
theorem dX5_put_24 : decode cX5_put 24 = .ok (.if_icmp .ne 18, 3) := by decide +kernel
theorem dX5_put_27 : decode cX5_put 27 = .ok (.aload_n 0, 1) := by decide +kernel
theorem dX5_put_28 : decode cX5_put 28 = .ok (.getfield 41, 3) := by decide +kernel
theorem dX5_put_31 : decode cX5_put 31 = .ok (.getfield 91, 3) := by decide +kernel
theorem dX5_put_34 : decode cX5_put 34 = .ok (.iconst 1, 1) := by decide +kernel
theorem dX5_put_35 : decode cX5_put 35 = .ok (.dup2, 1) := by decide +kernel
theorem dX5_put_36 : decode cX5_put 36 = .ok (.iaload, 1) := by decide +kernel
theorem dX5_put_37 : decode cX5_put 37 = .ok (.iconst 1, 1) := by decide +kernel
theorem dX5_put_38 : decode cX5_put 38 = .ok (.iadd, 1) := by decide +kernel
theorem dX5_put_39 : decode cX5_put 39 = .ok (.iastore, 1) := by decide +kernel
theorem dX5_put_40 : decode cX5_put 40 = .ok (.iconst (-1), 1) := by decide +kernel
theorem dX5_put_41 : decode cX5_put 41 = .ok (.ireturn, 1) := by decide +kernel
theorem dX5_put_42 : decode cX5_put 42 = .ok (.aload_n 0, 1) := by decide +kernel
theorem dX5_put_43 : decode cX5_put 43 = .ok (.getfield 41, 3) := by decide +kernel
theorem dX5_put_46 : decode cX5_put 46 = .ok (.invokevirtual 231, 3) := by decide +kernel
theorem dX5_put_49 : decode cX5_put 49 = .ok (.aload_n 0, 1) := by decide +kernel
theorem dX5_put_50 : decode cX5_put 50 = .ok (.getfield 41, 3) := by decide +kernel
theorem dX5_put_53 : decode cX5_put 53 = .ok (.getfield 112, 3) := by decide +kernel
theorem dX5_put_56 : decode cX5_put 56 = .ok (.getfield 159, 3) := by decide +kernel
theorem dX5_put_59 : decode cX5_put 59 = .ok (.iload_n 1, 1) := by decide +kernel
theorem dX5_put_60 : decode cX5_put 60 = .ok (.iload_n 2, 1) := by decide +kernel
theorem dX5_put_61 : decode cX5_put 61 = .ok (.iastore, 1) := by decide +kernel
theorem dX5_put_62 : decode cX5_put 62 = .ok (.iload_n 3, 1) := by decide +kernel
theorem dX5_put_63 : decode cX5_put 63 = .ok (.ireturn, 1) := by decide +kernel
theorem dX5_undo_0 : decode cX5_undo 0 = .ok (.aload_n 0, 1) := by decide +kernel
theorem dX5_undo_1 : decode cX5_undo 1 = .ok (.getfield 41, 3) := by decide +kernel
theorem dX5_undo_4 : decode cX5_undo 4 = .ok (.getfield 128, 3) := by decide +kernel
theorem dX5_undo_7 : decode cX5_undo 7 = .ok (.ifCond .ne 5, 3) := by decide +kernel
theorem dX5_undo_10 : decode cX5_undo 10 = .ok (.iconst (-1), 1) := by decide +kernel
theorem dX5_undo_11 : decode cX5_undo 11 = .ok (.ireturn, 1) := by decide +kernel
theorem dX5_undo_12 : decode cX5_undo 12 = .ok (.aload_n 0, 1) := by decide +kernel
theorem dX5_undo_13 : decode cX5_undo 13 = .ok (.getfield 41, 3) := by decide +kernel
theorem dX5_undo_16 : decode cX5_undo 16 = .ok (.invokevirtual 241, 3) := by decide +kernel
theorem dX5_undo_19 : decode cX5_undo 19 = .ok (.aload_n 0, 1) := by decide +kernel
theorem dX5_undo_20 : decode cX5_undo 20 = .ok (.getfield 41, 3) := by decide +kernel
theorem dX5_undo_23 : decode cX5_undo 23 = .ok (.getfield 128, 3) := by decide +kernel
theorem dX5_undo_26 : decode cX5_undo 26 = .ok (.ireturn, 1) := by decide +kernel
theorem dX5_startTrial_0 : decode cX5_startTrial 0 = .ok (.aload_n 0, 1) := by decide +kernel
theorem dX5_startTrial_1 : decode cX5_startTrial 1 = .ok (.getfield 51, 3) := by decide +kernel
theorem dX5_startTrial_4 : decode cX5_startTrial 4 = .ok (.aload_n 0, 1) := by decide +kernel
theorem dX5_startTrial_5 : decode cX5_startTrial 5 = .ok (.getfield 41, 3) := by decide +kernel
theorem dX5_startTrial_8 : decode cX5_startTrial 8 = .ok (.getfield 112, 3) := by decide +kernel
theorem dX5_startTrial_11 : decode cX5_startTrial 11 = .ok (.invokevirtual 244, 3) := by decide +kernel
theorem dX5_startTrial_14 : decode cX5_startTrial 14 = .ok (.return_, 1) := by decide +kernel
theorem dX5_goAhead_0 : decode cX5_goAhead 0 = .ok (.aload_n 0, 1) := by decide +kernel
theorem dX5_goAhead_1 : decode cX5_goAhead 1 = .ok (.invokevirtual 248, 3) := by decide +kernel
theorem dX5_goAhead_4 : decode cX5_goAhead 4 = .ok (.iconst 0, 1) := by decide +kernel
theorem dX5_goAhead_5 : decode cX5_goAhead 5 = .ok (.istore_n 2, 1) := by decide +kernel
theorem dX5_goAhead_6 : decode cX5_goAhead 6 = .ok (.iload_n 2, 1) := by decide +kernel
theorem dX5_goAhead_7 : decode cX5_goAhead 7 = .ok (.iload_n 1, 1) := by decide +kernel
theorem dX5_goAhead_8 : decode cX5_goAhead 8 = .ok (.if_icmp .ge 30, 3) := by decide +kernel
theorem dX5_goAhead_11 : decode cX5_goAhead 11 = .ok (.iload_n 2, 1) := by decide +kernel
theorem dX5_goAhead_12 : decode cX5_goAhead 12 = .ok (.bipush 60, 2) := by decide +kernel
theorem dX5_goAhead_14 : decode cX5_goAhead 14 = .ok (.if_icmp .ge 24, 3) := by decide +kernel
theorem dX5_goAhead_17 : decode cX5_goAhead 17 = .ok (.aload_n 0, 1) := by decide +kernel
theorem dX5_goAhead_18 : decode cX5_goAhead 18 = .ok (.getfield 51, 3) := by decide +kernel
theorem dX5_goAhead_21 : decode cX5_goAhead 21 = .ok (.aload_n 0, 1) := by decide +kernel
theorem dX5_goAhead_22 : decode cX5_goAhead 22 = .ok (.getfield 20, 3) := by decide +kernel
theorem dX5_goAhead_25 : decode cX5_goAhead 25 = .ok (.aload_n 0, 1) := by decide +kernel
theorem dX5_goAhead_26 : decode cX5_goAhead 26 = .ok (.getfield 34, 3) := by decide +kernel
theorem dX5_goAhead_29 : decode cX5_goAhead 29 = .ok (.invokevirtual 234, 3) := by decide +kernel
theorem dX5_goAhead_32 : decode cX5_goAhead 32 = .ok (.iinc 2 1, 3) := by decide +kernel
theorem dX5_goAhead_35 : decode cX5_goAhead 35 = .ok (.goto (-29), 3) := by decide +kernel
theorem dX5_goAhead_38 : decode cX5_goAhead 38 = .ok (.return_, 1) := by decide +kernel
theorem dX5_verdict_0 : decode cX5_verdict 0 = .ok (.iload_n 2, 1) := by decide +kernel
theorem dX5_verdict_1 : decode cX5_verdict 1 = .ok (.iconst 1, 1) := by decide +kernel
theorem dX5_verdict_2 : decode cX5_verdict 2 = .ok (.invokestatic 251, 3) := by decide +kernel
theorem dX5_verdict_5 : decode cX5_verdict 5 = .ok (.iload_n 1, 1) := by decide +kernel
theorem dX5_verdict_6 : decode cX5_verdict 6 = .ok (.iconst 1, 1) := by decide +kernel
theorem dX5_verdict_7 : decode cX5_verdict 7 = .ok (.bipush 60, 2) := by decide +kernel
theorem dX5_verdict_9 : decode cX5_verdict 9 = .ok (.invokestatic 208, 3) := by decide +kernel
theorem dX5_verdict_12 : decode cX5_verdict 12 = .ok (.aload_n 0, 1) := by decide +kernel
theorem dX5_verdict_13 : decode cX5_verdict 13 = .ok (.iload_n 1, 1) := by decide +kernel
theorem dX5_verdict_14 : decode cX5_verdict 14 = .ok (.invokevirtual 255, 3) := by decide +kernel
theorem dX5_verdict_17 : decode cX5_verdict 17 = .ok (.iload_n 2, 1) := by decide +kernel
theorem dX5_verdict_18 : decode cX5_verdict 18 = .ok (.ifCond .ne 13, 3) := by decide +kernel
theorem dX5_verdict_21 : decode cX5_verdict 21 = .ok (.aload_n 0, 1) := by decide +kernel
theorem dX5_verdict_22 : decode cX5_verdict 22 = .ok (.getfield 51, 3) := by decide +kernel
theorem dX5_verdict_25 : decode cX5_verdict 25 = .ok (.getfield 121, 3) := by decide +kernel
theorem dX5_verdict_28 : decode cX5_verdict 28 = .ok (.goto 10, 3) := by decide +kernel
theorem dX5_verdict_31 : decode cX5_verdict 31 = .ok (.aload_n 0, 1) := by decide +kernel
theorem dX5_verdict_32 : decode cX5_verdict 32 = .ok (.getfield 51, 3) := by decide +kernel
theorem dX5_verdict_35 : decode cX5_verdict 35 = .ok (.getfield 258, 3) := by decide +kernel
theorem dX5_verdict_38 : decode cX5_verdict 38 = .ok (.ireturn, 1) := by decide +kernel
theorem dX5_lies_0 : decode cX5_lies 0 = .ok (.aload_n 0, 1) := by decide +kernel
theorem dX5_lies_1 : decode cX5_lies 1 = .ok (.iload_n 1, 1) := by decide +kernel
theorem dX5_lies_2 : decode cX5_lies 2 = .ok (.invokevirtual 156, 3) := by decide +kernel
theorem dX5_lies_5 : decode cX5_lies 5 = .ok (.iload_n 2, 1) := by decide +kernel
theorem dX5_lies_6 : decode cX5_lies 6 = .ok (.iconst 0, 1) := by decide +kernel
theorem dX5_lies_7 : decode cX5_lies 7 = .ok (.bipush 60, 2) := by decide +kernel
theorem dX5_lies_9 : decode cX5_lies 9 = .ok (.invokestatic 208, 3) := by decide +kernel
theorem dX5_lies_12 : decode cX5_lies 12 = .ok (.aload_n 0, 1) := by decide +kernel
theorem dX5_lies_13 : decode cX5_lies 13 = .ok (.iload_n 2, 1) := by decide +kernel
theorem dX5_lies_14 : decode cX5_lies 14 = .ok (.invokevirtual 255, 3) := by decide +kernel
theorem dX5_lies_17 : decode cX5_lies 17 = .ok (.aload_n 0, 1) := by decide +kernel
theorem dX5_lies_18 : decode cX5_lies 18 = .ok (.getfield 51, 3) := by decide +kernel
theorem dX5_lies_21 : decode cX5_lies 21 = .ok (.getfield 159, 3) := by decide +kernel
theorem dX5_lies_24 : decode cX5_lies 24 = .ok (.iload_n 1, 1) := by decide +kernel
theorem dX5_lies_25 : decode cX5_lies 25 = .ok (.iaload, 1) := by decide +kernel
theorem dX5_lies_26 : decode cX5_lies 26 = .ok (.ireturn, 1) := by decide +kernel
theorem dX5_often_0 : decode cX5_often 0 = .ok (.iload_n 1, 1) := by decide +kernel
theorem dX5_often_1 : decode cX5_often 1 = .ok (.invokestatic 261, 3) := by decide +kernel
theorem dX5_often_4 : decode cX5_often 4 = .ok (.iload_n 2, 1) := by decide +kernel
theorem dX5_often_5 : decode cX5_often 5 = .ok (.iconst 0, 1) := by decide +kernel
theorem dX5_often_6 : decode cX5_often 6 = .ok (.bipush 60, 2) := by decide +kernel
theorem dX5_often_8 : decode cX5_often 8 = .ok (.invokestatic 208, 3) := by decide +kernel
theorem dX5_often_11 : decode cX5_often 11 = .ok (.aload_n 0, 1) := by decide +kernel
theorem dX5_often_12 : decode cX5_often 12 = .ok (.invokevirtual 248, 3) := by decide +kernel
theorem dX5_often_15 : decode cX5_often 15 = .ok (.iconst 0, 1) := by decide +kernel
theorem dX5_often_16 : decode cX5_often 16 = .ok (.istore_n 3, 1) := by decide +kernel
theorem dX5_often_17 : decode cX5_often 17 = .ok (.iconst 0, 1) := by decide +kernel
theorem dX5_often_18 : decode cX5_often 18 = .ok (.istore 4, 2) := by decide +kernel
theorem dX5_often_20 : decode cX5_often 20 = .ok (.iload 4, 2) := by decide +kernel
theorem dX5_often_22 : decode cX5_often 22 = .ok (.iload_n 2, 1) := by decide +kernel
theorem dX5_often_23 : decode cX5_often 23 = .ok (.if_icmp .ge 20, 3) := by decide +kernel
theorem dX5_often_26 : decode cX5_often 26 = .ok (.aload_n 0, 1) := by decide +kernel
theorem dX5_often_27 : decode cX5_often 27 = .ok (.invokevirtual 264, 3) := by decide +kernel
theorem dX5_often_30 : decode cX5_often 30 = .ok (.iload_n 1, 1) := by decide +kernel
theorem dX5_often_31 : decode cX5_often 31 = .ok (.if_icmp .ne 6, 3) := by decide +kernel
theorem dX5_often_34 : decode cX5_often 34 = .ok (.iinc 3 1, 3) := by decide +kernel
theorem dX5_often_37 : decode cX5_often 37 = .ok (.iinc 4 1, 3) := by decide +kernel
theorem dX5_often_40 : decode cX5_often 40 = .ok (.goto (-20), 3) := by decide +kernel
theorem dX5_often_43 : decode cX5_often 43 = .ok (.iload_n 3, 1) := by decide +kernel
theorem dX5_often_44 : decode cX5_often 44 = .ok (.ireturn, 1) := by decide +kernel
theorem dX5_nextVerdict_0 : decode cX5_nextVerdict 0 = .ok (.aload_n 0, 1) := by decide +kernel
theorem dX5_nextVerdict_1 : decode cX5_nextVerdict 1 = .ok (.getfield 51, 3) := by decide +kernel
theorem dX5_nextVerdict_4 : decode cX5_nextVerdict 4 = .ok (.aload_n 0, 1) := by decide +kernel
theorem dX5_nextVerdict_5 : decode cX5_nextVerdict 5 = .ok (.getfield 20, 3) := by decide +kernel
theorem dX5_nextVerdict_8 : decode cX5_nextVerdict 8 = .ok (.aload_n 0, 1) := by decide +kernel
theorem dX5_nextVerdict_9 : decode cX5_nextVerdict 9 = .ok (.getfield 34, 3) := by decide +kernel
theorem dX5_nextVerdict_12 : decode cX5_nextVerdict 12 = .ok (.invokevirtual 234, 3) := by decide +kernel
theorem dX5_nextVerdict_15 : decode cX5_nextVerdict 15 = .ok (.aload_n 0, 1) := by decide +kernel
theorem dX5_nextVerdict_16 : decode cX5_nextVerdict 16 = .ok (.getfield 51, 3) := by decide +kernel
theorem dX5_nextVerdict_19 : decode cX5_nextVerdict 19 = .ok (.getfield 121, 3) := by decide +kernel
theorem dX5_nextVerdict_22 : decode cX5_nextVerdict 22 = .ok (.ireturn, 1) := by decide +kernel
theorem dX5_first_0 : decode cX5_first 0 = .ok (.iload_n 1, 1) := by decide +kernel
theorem dX5_first_1 : decode cX5_first 1 = .ok (.invokestatic 261, 3) := by decide +kernel
theorem dX5_first_4 : decode cX5_first 4 = .ok (.aload_n 0, 1) := by decide +kernel
theorem dX5_first_5 : decode cX5_first 5 = .ok (.invokevirtual 248, 3) := by decide +kernel
theorem dX5_first_8 : decode cX5_first 8 = .ok (.iconst 1, 1) := by decide +kernel
theorem dX5_first_9 : decode cX5_first 9 = .ok (.istore_n 2, 1) := by decide +kernel
theorem dX5_first_10 : decode cX5_first 10 = .ok (.iload_n 2, 1) := by decide +kernel
theorem dX5_first_11 : decode cX5_first 11 = .ok (.bipush 60, 2) := by decide +kernel
theorem dX5_first_13 : decode cX5_first 13 = .ok (.if_icmp .gt 19, 3) := by decide +kernel
theorem dX5_first_16 : decode cX5_first 16 = .ok (.aload_n 0, 1) := by decide +kernel
theorem dX5_first_17 : decode cX5_first 17 = .ok (.invokevirtual 264, 3) := by decide +kernel
theorem dX5_first_20 : decode cX5_first 20 = .ok (.iload_n 1, 1) := by decide +kernel
theorem dX5_first_21 : decode cX5_first 21 = .ok (.if_icmp .ne 5, 3) := by decide +kernel
theorem dX5_first_24 : decode cX5_first 24 = .ok (.iload_n 2, 1) := by decide +kernel
theorem dX5_first_25 : decode cX5_first 25 = .ok (.ireturn, 1) := by decide +kernel
theorem dX5_first_26 : decode cX5_first 26 = .ok (.iinc 2 1, 3) := by decide +kernel
theorem dX5_first_29 : decode cX5_first 29 = .ok (.goto (-19), 3) := by decide +kernel
theorem dX5_first_32 : decode cX5_first 32 = .ok (.iconst (-1), 1) := by decide +kernel
theorem dX5_first_33 : decode cX5_first 33 = .ok (.ireturn, 1) := by decide +kernel
theorem dX5_round_0 : decode cX5_round 0 = .ok (.aload_n 0, 1) := by decide +kernel
theorem dX5_round_1 : decode cX5_round 1 = .ok (.invokevirtual 248, 3) := by decide +kernel
theorem dX5_round_4 : decode cX5_round 4 = .ok (.iconst 1, 1) := by decide +kernel
theorem dX5_round_5 : decode cX5_round 5 = .ok (.istore_n 1, 1) := by decide +kernel
theorem dX5_round_6 : decode cX5_round 6 = .ok (.iload_n 1, 1) := by decide +kernel
theorem dX5_round_7 : decode cX5_round 7 = .ok (.bipush 60, 2) := by decide +kernel
theorem dX5_round_9 : decode cX5_round 9 = .ok (.if_icmp .gt 50, 3) := by decide +kernel
theorem dX5_round_12 : decode cX5_round 12 = .ok (.aload_n 0, 1) := by decide +kernel
theorem dX5_round_13 : decode cX5_round 13 = .ok (.getfield 51, 3) := by decide +kernel
theorem dX5_round_16 : decode cX5_round 16 = .ok (.aload_n 0, 1) := by decide +kernel
theorem dX5_round_17 : decode cX5_round 17 = .ok (.getfield 20, 3) := by decide +kernel
theorem dX5_round_20 : decode cX5_round 20 = .ok (.aload_n 0, 1) := by decide +kernel
theorem dX5_round_21 : decode cX5_round 21 = .ok (.getfield 34, 3) := by decide +kernel
theorem dX5_round_24 : decode cX5_round 24 = .ok (.invokevirtual 234, 3) := by decide +kernel
theorem dX5_round_27 : decode cX5_round 27 = .ok (.aload_n 0, 1) := by decide +kernel
theorem dX5_round_28 : decode cX5_round 28 = .ok (.getfield 51, 3) := by decide +kernel
theorem dX5_round_31 : decode cX5_round 31 = .ok (.aload_n 0, 1) := by decide +kernel
theorem dX5_round_32 : decode cX5_round 32 = .ok (.getfield 41, 3) := by decide +kernel
theorem dX5_round_35 : decode cX5_round 35 = .ok (.getfield 112, 3) := by decide +kernel
theorem dX5_round_38 : decode cX5_round 38 = .ok (.aload_n 0, 1) := by decide +kernel
theorem dX5_round_39 : decode cX5_round 39 = .ok (.getfield 20, 3) := by decide +kernel
theorem dX5_round_42 : decode cX5_round 42 = .ok (.getfield 106, 3) := by decide +kernel
theorem dX5_round_45 : decode cX5_round 45 = .ok (.invokevirtual 267, 3) := by decide +kernel
theorem dX5_round_48 : decode cX5_round 48 = .ok (.ifCond .eq 5, 3) := by decide +kernel
theorem dX5_round_51 : decode cX5_round 51 = .ok (.iload_n 1, 1) := by decide +kernel
theorem dX5_round_52 : decode cX5_round 52 = .ok (.ireturn, 1) := by decide +kernel
theorem dX5_round_53 : decode cX5_round 53 = .ok (.iinc 1 1, 3) := by decide +kernel
theorem dX5_round_56 : decode cX5_round 56 = .ok (.goto (-50), 3) := by decide +kernel
theorem dX5_round_59 : decode cX5_round 59 = .ok (.iconst (-1), 1) := by decide +kernel
theorem dX5_round_60 : decode cX5_round 60 = .ok (.ireturn, 1) := by decide +kernel
theorem dX5_pleased_0 : decode cX5_pleased 0 = .ok (.iload_n 1, 1) := by decide +kernel
theorem dX5_pleased_1 : decode cX5_pleased 1 = .ok (.iconst 1, 1) := by decide +kernel
theorem dX5_pleased_2 : decode cX5_pleased 2 = .ok (.bipush 60, 2) := by decide +kernel
theorem dX5_pleased_4 : decode cX5_pleased 4 = .ok (.invokestatic 208, 3) := by decide +kernel
theorem dX5_pleased_7 : decode cX5_pleased 7 = .ok (.aload_n 0, 1) := by decide +kernel
theorem dX5_pleased_8 : decode cX5_pleased 8 = .ok (.invokevirtual 271, 3) := by decide +kernel
theorem dX5_pleased_11 : decode cX5_pleased 11 = .ok (.aload_n 0, 1) := by decide +kernel
theorem dX5_pleased_12 : decode cX5_pleased 12 = .ok (.invokevirtual 248, 3) := by decide +kernel
theorem dX5_pleased_15 : decode cX5_pleased 15 = .ok (.iconst 0, 1) := by decide +kernel
theorem dX5_pleased_16 : decode cX5_pleased 16 = .ok (.istore_n 2, 1) := by decide +kernel
theorem dX5_pleased_17 : decode cX5_pleased 17 = .ok (.iload_n 2, 1) := by decide +kernel
theorem dX5_pleased_18 : decode cX5_pleased 18 = .ok (.iload_n 1, 1) := by decide +kernel
theorem dX5_pleased_19 : decode cX5_pleased 19 = .ok (.if_icmp .ge 60, 3) := by decide +kernel
theorem dX5_pleased_22 : decode cX5_pleased 22 = .ok (.aload_n 0, 1) := by decide +kernel
theorem dX5_pleased_23 : decode cX5_pleased 23 = .ok (.invokevirtual 264, 3) := by decide +kernel
theorem dX5_pleased_26 : decode cX5_pleased 26 = .ok (.istore_n 3, 1) := by decide +kernel
theorem dX5_pleased_27 : decode cX5_pleased 27 = .ok (.iconst 0, 1) := by decide +kernel
theorem dX5_pleased_28 : decode cX5_pleased 28 = .ok (.istore 4, 2) := by decide +kernel
theorem dX5_pleased_30 : decode cX5_pleased 30 = .ok (.iload 4, 2) := by decide +kernel
theorem dX5_pleased_32 : decode cX5_pleased 32 = .ok (.aload_n 0, 1) := by decide +kernel
theorem dX5_pleased_33 : decode cX5_pleased 33 = .ok (.getfield 20, 3) := by decide +kernel
theorem dX5_pleased_36 : decode cX5_pleased 36 = .ok (.getfield 109, 3) := by decide +kernel
theorem dX5_pleased_39 : decode cX5_pleased 39 = .ok (.if_icmp .ge 34, 3) := by decide +kernel
theorem dX5_pleased_42 : decode cX5_pleased 42 = .ok (.aload_n 0, 1) := by decide +kernel
theorem dX5_pleased_43 : decode cX5_pleased 43 = .ok (.getfield 20, 3) := by decide +kernel
theorem dX5_pleased_46 : decode cX5_pleased 46 = .ok (.getfield 176, 3) := by decide +kernel
theorem dX5_pleased_49 : decode cX5_pleased 49 = .ok (.iload 4, 2) := by decide +kernel
theorem dX5_pleased_51 : decode cX5_pleased 51 = .ok (.iaload, 1) := by decide +kernel
theorem dX5_pleased_52 : decode cX5_pleased 52 = .ok (.iload_n 3, 1) := by decide +kernel
theorem dX5_pleased_53 : decode cX5_pleased 53 = .ok (.if_icmp .ne 14, 3) := by decide +kernel
theorem dX5_pleased_56 : decode cX5_pleased 56 = .ok (.aload_n 0, 1) := by decide +kernel
theorem dX5_pleased_57 : decode cX5_pleased 57 = .ok (.getfield 55, 3) := by decide +kernel
theorem dX5_pleased_60 : decode cX5_pleased 60 = .ok (.iload 4, 2) := by decide +kernel
theorem dX5_pleased_62 : decode cX5_pleased 62 = .ok (.dup2, 1) := by decide +kernel
theorem dX5_pleased_63 : decode cX5_pleased 63 = .ok (.iaload, 1) := by decide +kernel
theorem dX5_pleased_64 : decode cX5_pleased 64 = .ok (.iconst 1, 1) := by decide +kernel
theorem dX5_pleased_65 : decode cX5_pleased 65 = .ok (.iadd, 1) := by decide +kernel
theorem dX5_pleased_66 : decode cX5_pleased 66 = .ok (.iastore, 1) := by decide +kernel
theorem dX5_pleased_67 : decode cX5_pleased 67 = .ok (.iinc 4 1, 3) := by decide +kernel
theorem dX5_pleased_70 : decode cX5_pleased 70 = .ok (.goto (-40), 3) := by decide +kernel
theorem dX5_pleased_73 : decode cX5_pleased 73 = .ok (.iinc 2 1, 3) := by decide +kernel
theorem dX5_pleased_76 : decode cX5_pleased 76 = .ok (.goto (-59), 3) := by decide +kernel
theorem dX5_pleased_79 : decode cX5_pleased 79 = .ok (.aload_n 0, 1) := by decide +kernel
theorem dX5_pleased_80 : decode cX5_pleased 80 = .ok (.aload_n 0, 1) := by decide +kernel
theorem dX5_pleased_81 : decode cX5_pleased 81 = .ok (.getfield 20, 3) := by decide +kernel
theorem dX5_pleased_84 : decode cX5_pleased 84 = .ok (.getfield 109, 3) := by decide +kernel
theorem dX5_pleased_87 : decode cX5_pleased 87 = .ok (.invokevirtual 274, 3) := by decide +kernel
theorem dX5_pleased_90 : decode cX5_pleased 90 = .ok (.ireturn, 1) := by decide +kernel
theorem dX5_thirstiest_0 : decode cX5_thirstiest 0 = .ok (.iload_n 1, 1) := by decide +kernel
theorem dX5_thirstiest_1 : decode cX5_thirstiest 1 = .ok (.iconst 1, 1) := by decide +kernel
theorem dX5_thirstiest_2 : decode cX5_thirstiest 2 = .ok (.bipush 60, 2) := by decide +kernel
theorem dX5_thirstiest_4 : decode cX5_thirstiest 4 = .ok (.invokestatic 208, 3) := by decide +kernel
theorem dX5_thirstiest_7 : decode cX5_thirstiest 7 = .ok (.aload_n 0, 1) := by decide +kernel
theorem dX5_thirstiest_8 : decode cX5_thirstiest 8 = .ok (.invokevirtual 271, 3) := by decide +kernel
theorem dX5_thirstiest_11 : decode cX5_thirstiest 11 = .ok (.aload_n 0, 1) := by decide +kernel
theorem dX5_thirstiest_12 : decode cX5_thirstiest 12 = .ok (.invokevirtual 248, 3) := by decide +kernel
theorem dX5_thirstiest_15 : decode cX5_thirstiest 15 = .ok (.iconst 0, 1) := by decide +kernel
theorem dX5_thirstiest_16 : decode cX5_thirstiest 16 = .ok (.istore_n 2, 1) := by decide +kernel
theorem dX5_thirstiest_17 : decode cX5_thirstiest 17 = .ok (.iload_n 2, 1) := by decide +kernel
theorem dX5_thirstiest_18 : decode cX5_thirstiest 18 = .ok (.iload_n 1, 1) := by decide +kernel
theorem dX5_thirstiest_19 : decode cX5_thirstiest 19 = .ok (.if_icmp .ge 61, 3) := by decide +kernel
theorem dX5_thirstiest_22 : decode cX5_thirstiest 22 = .ok (.aload_n 0, 1) := by decide +kernel
theorem dX5_thirstiest_23 : decode cX5_thirstiest 23 = .ok (.getfield 51, 3) := by decide +kernel
theorem dX5_thirstiest_26 : decode cX5_thirstiest 26 = .ok (.aload_n 0, 1) := by decide +kernel
theorem dX5_thirstiest_27 : decode cX5_thirstiest 27 = .ok (.getfield 20, 3) := by decide +kernel
theorem dX5_thirstiest_30 : decode cX5_thirstiest 30 = .ok (.aload_n 0, 1) := by decide +kernel
theorem dX5_thirstiest_31 : decode cX5_thirstiest 31 = .ok (.getfield 34, 3) := by decide +kernel
theorem dX5_thirstiest_34 : decode cX5_thirstiest 34 = .ok (.invokevirtual 234, 3) := by decide +kernel
theorem dX5_thirstiest_37 : decode cX5_thirstiest 37 = .ok (.iconst 0, 1) := by decide +kernel
theorem dX5_thirstiest_38 : decode cX5_thirstiest 38 = .ok (.istore_n 3, 1) := by decide +kernel
theorem dX5_thirstiest_39 : decode cX5_thirstiest 39 = .ok (.iload_n 3, 1) := by decide +kernel
theorem dX5_thirstiest_40 : decode cX5_thirstiest 40 = .ok (.aload_n 0, 1) := by decide +kernel
theorem dX5_thirstiest_41 : decode cX5_thirstiest 41 = .ok (.getfield 20, 3) := by decide +kernel
theorem dX5_thirstiest_44 : decode cX5_thirstiest 44 = .ok (.getfield 109, 3) := by decide +kernel
theorem dX5_thirstiest_47 : decode cX5_thirstiest 47 = .ok (.if_icmp .ge 27, 3) := by decide +kernel
theorem dX5_thirstiest_50 : decode cX5_thirstiest 50 = .ok (.aload_n 0, 1) := by decide +kernel
theorem dX5_thirstiest_51 : decode cX5_thirstiest 51 = .ok (.getfield 55, 3) := by decide +kernel
theorem dX5_thirstiest_54 : decode cX5_thirstiest 54 = .ok (.iload_n 3, 1) := by decide +kernel
theorem dX5_thirstiest_55 : decode cX5_thirstiest 55 = .ok (.dup2, 1) := by decide +kernel
theorem dX5_thirstiest_56 : decode cX5_thirstiest 56 = .ok (.iaload, 1) := by decide +kernel
theorem dX5_thirstiest_57 : decode cX5_thirstiest 57 = .ok (.aload_n 0, 1) := by decide +kernel
theorem dX5_thirstiest_58 : decode cX5_thirstiest 58 = .ok (.getfield 51, 3) := by decide +kernel
theorem dX5_thirstiest_61 : decode cX5_thirstiest 61 = .ok (.getfield 277, 3) := by decide +kernel
theorem dX5_thirstiest_64 : decode cX5_thirstiest 64 = .ok (.iload_n 3, 1) := by decide +kernel
theorem dX5_thirstiest_65 : decode cX5_thirstiest 65 = .ok (.iaload, 1) := by decide +kernel
theorem dX5_thirstiest_66 : decode cX5_thirstiest 66 = .ok (.iadd, 1) := by decide +kernel
theorem dX5_thirstiest_67 : decode cX5_thirstiest 67 = .ok (.iastore, 1) := by decide +kernel
theorem dX5_thirstiest_68 : decode cX5_thirstiest 68 = .ok (.iinc 3 1, 3) := by decide +kernel
theorem dX5_thirstiest_71 : decode cX5_thirstiest 71 = .ok (.goto (-32), 3) := by decide +kernel
theorem dX5_thirstiest_74 : decode cX5_thirstiest 74 = .ok (.iinc 2 1, 3) := by decide +kernel
theorem dX5_thirstiest_77 : decode cX5_thirstiest 77 = .ok (.goto (-60), 3) := by decide +kernel
theorem dX5_thirstiest_80 : decode cX5_thirstiest 80 = .ok (.aload_n 0, 1) := by decide +kernel
theorem dX5_thirstiest_81 : decode cX5_thirstiest 81 = .ok (.aload_n 0, 1) := by decide +kernel
theorem dX5_thirstiest_82 : decode cX5_thirstiest 82 = .ok (.getfield 20, 3) := by decide +kernel
theorem dX5_thirstiest_85 : decode cX5_thirstiest 85 = .ok (.getfield 109, 3) := by decide +kernel
theorem dX5_thirstiest_88 : decode cX5_thirstiest 88 = .ok (.invokevirtual 274, 3) := by decide +kernel
theorem dX5_thirstiest_91 : decode cX5_thirstiest 91 = .ok (.ireturn, 1) := by decide +kernel
theorem dX5_clearTally_0 : decode cX5_clearTally 0 = .ok (.iconst 0, 1) := by decide +kernel
theorem dX5_clearTally_1 : decode cX5_clearTally 1 = .ok (.istore_n 1, 1) := by decide +kernel
theorem dX5_clearTally_2 : decode cX5_clearTally 2 = .ok (.iload_n 1, 1) := by decide +kernel
theorem dX5_clearTally_3 : decode cX5_clearTally 3 = .ok (.aload_n 0, 1) := by decide +kernel
theorem dX5_clearTally_4 : decode cX5_clearTally 4 = .ok (.getfield 55, 3) := by decide +kernel
theorem dX5_clearTally_7 : decode cX5_clearTally 7 = .ok (.arraylength, 1) := by decide +kernel
theorem dX5_clearTally_8 : decode cX5_clearTally 8 = .ok (.if_icmp .ge 16, 3) := by decide +kernel
theorem dX5_clearTally_11 : decode cX5_clearTally 11 = .ok (.aload_n 0, 1) := by decide +kernel
theorem dX5_clearTally_12 : decode cX5_clearTally 12 = .ok (.getfield 55, 3) := by decide +kernel
theorem dX5_clearTally_15 : decode cX5_clearTally 15 = .ok (.iload_n 1, 1) := by decide +kernel
theorem dX5_clearTally_16 : decode cX5_clearTally 16 = .ok (.iconst 0, 1) := by decide +kernel
theorem dX5_clearTally_17 : decode cX5_clearTally 17 = .ok (.iastore, 1) := by decide +kernel
theorem dX5_clearTally_18 : decode cX5_clearTally 18 = .ok (.iinc 1 1, 3) := by decide +kernel
theorem dX5_clearTally_21 : decode cX5_clearTally 21 = .ok (.goto (-19), 3) := by decide +kernel
theorem dX5_clearTally_24 : decode cX5_clearTally 24 = .ok (.return_, 1) := by decide +kernel
theorem dX5_mostInTally_0 : decode cX5_mostInTally 0 = .ok (.iconst (-1), 1) := by decide +kernel
theorem dX5_mostInTally_1 : decode cX5_mostInTally 1 = .ok (.istore_n 2, 1) := by decide +kernel
theorem dX5_mostInTally_2 : decode cX5_mostInTally 2 = .ok (.iconst 0, 1) := by decide +kernel
theorem dX5_mostInTally_3 : decode cX5_mostInTally 3 = .ok (.istore_n 3, 1) := by decide +kernel
theorem dX5_mostInTally_4 : decode cX5_mostInTally 4 = .ok (.iload_n 3, 1) := by decide +kernel
theorem dX5_mostInTally_5 : decode cX5_mostInTally 5 = .ok (.iload_n 1, 1) := by decide +kernel
theorem dX5_mostInTally_6 : decode cX5_mostInTally 6 = .ok (.if_icmp .ge 40, 3) := by decide +kernel
theorem dX5_mostInTally_9 : decode cX5_mostInTally 9 = .ok (.iload_n 3, 1) := by decide +kernel
theorem dX5_mostInTally_10 : decode cX5_mostInTally 10 = .ok (.aload_n 0, 1) := by decide +kernel
theorem dX5_mostInTally_11 : decode cX5_mostInTally 11 = .ok (.getfield 55, 3) := by decide +kernel
theorem dX5_mostInTally_14 : decode cX5_mostInTally 14 = .ok (.arraylength, 1) := by decide +kernel
theorem dX5_mostInTally_15 : decode cX5_mostInTally 15 = .ok (.if_icmp .ge 31, 3) := by decide +kernel
theorem dX5_mostInTally_18 : decode cX5_mostInTally 18 = .ok (.iload_n 2, 1) := by decide +kernel
theorem dX5_mostInTally_19 : decode cX5_mostInTally 19 = .ok (.iconst (-1), 1) := by decide +kernel
theorem dX5_mostInTally_20 : decode cX5_mostInTally 20 = .ok (.if_icmp .eq 18, 3) := by decide +kernel
theorem dX5_mostInTally_23 : decode cX5_mostInTally 23 = .ok (.aload_n 0, 1) := by decide +kernel
theorem dX5_mostInTally_24 : decode cX5_mostInTally 24 = .ok (.getfield 55, 3) := by decide +kernel
theorem dX5_mostInTally_27 : decode cX5_mostInTally 27 = .ok (.iload_n 3, 1) := by decide +kernel
theorem dX5_mostInTally_28 : decode cX5_mostInTally 28 = .ok (.iaload, 1) := by decide +kernel
theorem dX5_mostInTally_29 : decode cX5_mostInTally 29 = .ok (.aload_n 0, 1) := by decide +kernel
theorem dX5_mostInTally_30 : decode cX5_mostInTally 30 = .ok (.getfield 55, 3) := by decide +kernel
theorem dX5_mostInTally_33 : decode cX5_mostInTally 33 = .ok (.iload_n 2, 1) := by decide +kernel
theorem dX5_mostInTally_34 : decode cX5_mostInTally 34 = .ok (.iaload, 1) := by decide +kernel
theorem dX5_mostInTally_35 : decode cX5_mostInTally 35 = .ok (.if_icmp .le 5, 3) := by decide +kernel
theorem dX5_mostInTally_38 : decode cX5_mostInTally 38 = .ok (.iload_n 3, 1) := by decide +kernel
theorem dX5_mostInTally_39 : decode cX5_mostInTally 39 = .ok (.istore_n 2, 1) := by decide +kernel
theorem dX5_mostInTally_40 : decode cX5_mostInTally 40 = .ok (.iinc 3 1, 3) := by decide +kernel
theorem dX5_mostInTally_43 : decode cX5_mostInTally 43 = .ok (.goto (-39), 3) := by decide +kernel
theorem dX5_mostInTally_46 : decode cX5_mostInTally 46 = .ok (.iload_n 2, 1) := by decide +kernel
theorem dX5_mostInTally_47 : decode cX5_mostInTally 47 = .ok (.ireturn, 1) := by decide +kernel
theorem dX5_swept_0 : decode cX5_swept 0 = .ok (.iload_n 1, 1) := by decide +kernel
theorem dX5_swept_1 : decode cX5_swept 1 = .ok (.iconst 0, 1) := by decide +kernel
theorem dX5_swept_2 : decode cX5_swept 2 = .ok (.bipush 60, 2) := by decide +kernel
theorem dX5_swept_4 : decode cX5_swept 4 = .ok (.invokestatic 208, 3) := by decide +kernel
theorem dX5_swept_7 : decode cX5_swept 7 = .ok (.aload_n 0, 1) := by decide +kernel
theorem dX5_swept_8 : decode cX5_swept 8 = .ok (.invokevirtual 248, 3) := by decide +kernel
theorem dX5_swept_11 : decode cX5_swept 11 = .ok (.aload_n 0, 1) := by decide +kernel
theorem dX5_swept_12 : decode cX5_swept 12 = .ok (.getfield 51, 3) := by decide +kernel
theorem dX5_swept_15 : decode cX5_swept 15 = .ok (.aload_n 0, 1) := by decide +kernel
theorem dX5_swept_16 : decode cX5_swept 16 = .ok (.getfield 20, 3) := by decide +kernel
theorem dX5_swept_19 : decode cX5_swept 19 = .ok (.getfield 106, 3) := by decide +kernel
theorem dX5_swept_22 : decode cX5_swept 22 = .ok (.invokevirtual 280, 3) := by decide +kernel
theorem dX5_swept_25 : decode cX5_swept 25 = .ok (.istore_n 2, 1) := by decide +kernel
theorem dX5_swept_26 : decode cX5_swept 26 = .ok (.iconst 0, 1) := by decide +kernel
theorem dX5_swept_27 : decode cX5_swept 27 = .ok (.istore_n 3, 1) := by decide +kernel
theorem dX5_swept_28 : decode cX5_swept 28 = .ok (.iload_n 3, 1) := by decide +kernel
theorem dX5_swept_29 : decode cX5_swept 29 = .ok (.iload_n 1, 1) := by decide +kernel
theorem dX5_swept_30 : decode cX5_swept 30 = .ok (.if_icmp .ge 41, 3) := by decide +kernel
theorem dX5_swept_33 : decode cX5_swept 33 = .ok (.aload_n 0, 1) := by decide +kernel
theorem dX5_swept_34 : decode cX5_swept 34 = .ok (.getfield 51, 3) := by decide +kernel
theorem dX5_swept_37 : decode cX5_swept 37 = .ok (.aload_n 0, 1) := by decide +kernel
theorem dX5_swept_38 : decode cX5_swept 38 = .ok (.getfield 20, 3) := by decide +kernel
theorem dX5_swept_41 : decode cX5_swept 41 = .ok (.aload_n 0, 1) := by decide +kernel
theorem dX5_swept_42 : decode cX5_swept 42 = .ok (.getfield 34, 3) := by decide +kernel
theorem dX5_swept_45 : decode cX5_swept 45 = .ok (.invokevirtual 234, 3) := by decide +kernel
theorem dX5_swept_48 : decode cX5_swept 48 = .ok (.iload_n 2, 1) := by decide +kernel
theorem dX5_swept_49 : decode cX5_swept 49 = .ok (.aload_n 0, 1) := by decide +kernel
theorem dX5_swept_50 : decode cX5_swept 50 = .ok (.getfield 51, 3) := by decide +kernel
theorem dX5_swept_53 : decode cX5_swept 53 = .ok (.aload_n 0, 1) := by decide +kernel
theorem dX5_swept_54 : decode cX5_swept 54 = .ok (.getfield 20, 3) := by decide +kernel
theorem dX5_swept_57 : decode cX5_swept 57 = .ok (.getfield 106, 3) := by decide +kernel
theorem dX5_swept_60 : decode cX5_swept 60 = .ok (.invokevirtual 280, 3) := by decide +kernel
theorem dX5_swept_63 : decode cX5_swept 63 = .ok (.ior, 1) := by decide +kernel
theorem dX5_swept_64 : decode cX5_swept 64 = .ok (.istore_n 2, 1) := by decide +kernel
theorem dX5_swept_65 : decode cX5_swept 65 = .ok (.iinc 3 1, 3) := by decide +kernel
theorem dX5_swept_68 : decode cX5_swept 68 = .ok (.goto (-40), 3) := by decide +kernel
theorem dX5_swept_71 : decode cX5_swept 71 = .ok (.iload_n 2, 1) := by decide +kernel
theorem dX5_swept_72 : decode cX5_swept 72 = .ok (.ireturn, 1) := by decide +kernel
theorem dX5_drunk_0 : decode cX5_drunk 0 = .ok (.aload_n 0, 1) := by decide +kernel
theorem dX5_drunk_1 : decode cX5_drunk 1 = .ok (.iload_n 1, 1) := by decide +kernel
theorem dX5_drunk_2 : decode cX5_drunk 2 = .ok (.invokevirtual 167, 3) := by decide +kernel
theorem dX5_drunk_5 : decode cX5_drunk 5 = .ok (.iload_n 2, 1) := by decide +kernel
theorem dX5_drunk_6 : decode cX5_drunk 6 = .ok (.iconst 1, 1) := by decide +kernel
theorem dX5_drunk_7 : decode cX5_drunk 7 = .ok (.bipush 60, 2) := by decide +kernel
theorem dX5_drunk_9 : decode cX5_drunk 9 = .ok (.invokestatic 208, 3) := by decide +kernel
theorem dX5_drunk_12 : decode cX5_drunk 12 = .ok (.aload_n 0, 1) := by decide +kernel
theorem dX5_drunk_13 : decode cX5_drunk 13 = .ok (.iload_n 2, 1) := by decide +kernel
theorem dX5_drunk_14 : decode cX5_drunk 14 = .ok (.invokevirtual 255, 3) := by decide +kernel
theorem dX5_drunk_17 : decode cX5_drunk 17 = .ok (.aload_n 0, 1) := by decide +kernel
theorem dX5_drunk_18 : decode cX5_drunk 18 = .ok (.getfield 51, 3) := by decide +kernel
theorem dX5_drunk_21 : decode cX5_drunk 21 = .ok (.getfield 277, 3) := by decide +kernel
theorem dX5_drunk_24 : decode cX5_drunk 24 = .ok (.iload_n 1, 1) := by decide +kernel
theorem dX5_drunk_25 : decode cX5_drunk 25 = .ok (.iaload, 1) := by decide +kernel
theorem dX5_drunk_26 : decode cX5_drunk 26 = .ok (.ireturn, 1) := by decide +kernel
theorem dX5_streak_0 : decode cX5_streak 0 = .ok (.iload_n 1, 1) := by decide +kernel
theorem dX5_streak_1 : decode cX5_streak 1 = .ok (.iconst 1, 1) := by decide +kernel
theorem dX5_streak_2 : decode cX5_streak 2 = .ok (.bipush 60, 2) := by decide +kernel
theorem dX5_streak_4 : decode cX5_streak 4 = .ok (.invokestatic 208, 3) := by decide +kernel
theorem dX5_streak_7 : decode cX5_streak 7 = .ok (.aload_n 0, 1) := by decide +kernel
theorem dX5_streak_8 : decode cX5_streak 8 = .ok (.invokevirtual 248, 3) := by decide +kernel
theorem dX5_streak_11 : decode cX5_streak 11 = .ok (.iconst 0, 1) := by decide +kernel
theorem dX5_streak_12 : decode cX5_streak 12 = .ok (.istore_n 2, 1) := by decide +kernel
theorem dX5_streak_13 : decode cX5_streak 13 = .ok (.iconst 0, 1) := by decide +kernel
theorem dX5_streak_14 : decode cX5_streak 14 = .ok (.istore_n 3, 1) := by decide +kernel
theorem dX5_streak_15 : decode cX5_streak 15 = .ok (.iconst (-1), 1) := by decide +kernel
theorem dX5_streak_16 : decode cX5_streak 16 = .ok (.istore 4, 2) := by decide +kernel
theorem dX5_streak_18 : decode cX5_streak 18 = .ok (.iconst 0, 1) := by decide +kernel
theorem dX5_streak_19 : decode cX5_streak 19 = .ok (.istore 5, 2) := by decide +kernel
theorem dX5_streak_21 : decode cX5_streak 21 = .ok (.iload 5, 2) := by decide +kernel
theorem dX5_streak_23 : decode cX5_streak 23 = .ok (.iload_n 1, 1) := by decide +kernel
theorem dX5_streak_24 : decode cX5_streak 24 = .ok (.if_icmp .ge 40, 3) := by decide +kernel
theorem dX5_streak_27 : decode cX5_streak 27 = .ok (.aload_n 0, 1) := by decide +kernel
theorem dX5_streak_28 : decode cX5_streak 28 = .ok (.invokevirtual 264, 3) := by decide +kernel
theorem dX5_streak_31 : decode cX5_streak 31 = .ok (.istore 6, 2) := by decide +kernel
theorem dX5_streak_33 : decode cX5_streak 33 = .ok (.iload 6, 2) := by decide +kernel
theorem dX5_streak_35 : decode cX5_streak 35 = .ok (.iload 4, 2) := by decide +kernel
theorem dX5_streak_37 : decode cX5_streak 37 = .ok (.if_icmp .ne 9, 3) := by decide +kernel
theorem dX5_streak_40 : decode cX5_streak 40 = .ok (.iload_n 3, 1) := by decide +kernel
theorem dX5_streak_41 : decode cX5_streak 41 = .ok (.iconst 1, 1) := by decide +kernel
theorem dX5_streak_42 : decode cX5_streak 42 = .ok (.iadd, 1) := by decide +kernel
theorem dX5_streak_43 : decode cX5_streak 43 = .ok (.goto 4, 3) := by decide +kernel
theorem dX5_streak_46 : decode cX5_streak 46 = .ok (.iconst 1, 1) := by decide +kernel
theorem dX5_streak_47 : decode cX5_streak 47 = .ok (.istore_n 3, 1) := by decide +kernel
theorem dX5_streak_48 : decode cX5_streak 48 = .ok (.iload 6, 2) := by decide +kernel
theorem dX5_streak_50 : decode cX5_streak 50 = .ok (.istore 4, 2) := by decide +kernel
theorem dX5_streak_52 : decode cX5_streak 52 = .ok (.iload_n 2, 1) := by decide +kernel
theorem dX5_streak_53 : decode cX5_streak 53 = .ok (.iload_n 3, 1) := by decide +kernel
theorem dX5_streak_54 : decode cX5_streak 54 = .ok (.invokestatic 283, 3) := by decide +kernel
theorem dX5_streak_57 : decode cX5_streak 57 = .ok (.istore_n 2, 1) := by decide +kernel
theorem dX5_streak_58 : decode cX5_streak 58 = .ok (.iinc 5 1, 3) := by decide +kernel
theorem dX5_streak_61 : decode cX5_streak 61 = .ok (.goto (-40), 3) := by decide +kernel
theorem dX5_streak_64 : decode cX5_streak 64 = .ok (.iload_n 2, 1) := by decide +kernel
theorem dX5_streak_65 : decode cX5_streak 65 = .ok (.ireturn, 1) := by decide +kernel
theorem dX5_come_0 : decode cX5_come 0 = .ok (.iload_n 1, 1) := by decide +kernel
theorem dX5_come_1 : decode cX5_come 1 = .ok (.iconst 0, 1) := by decide +kernel
theorem dX5_come_2 : decode cX5_come 2 = .ok (.bipush 60, 2) := by decide +kernel
theorem dX5_come_4 : decode cX5_come 4 = .ok (.invokestatic 208, 3) := by decide +kernel
theorem dX5_come_7 : decode cX5_come 7 = .ok (.aload_n 0, 1) := by decide +kernel
theorem dX5_come_8 : decode cX5_come 8 = .ok (.invokevirtual 248, 3) := by decide +kernel
theorem dX5_come_11 : decode cX5_come 11 = .ok (.iconst 0, 1) := by decide +kernel
theorem dX5_come_12 : decode cX5_come 12 = .ok (.istore_n 2, 1) := by decide +kernel
theorem dX5_come_13 : decode cX5_come 13 = .ok (.iconst 0, 1) := by decide +kernel
theorem dX5_come_14 : decode cX5_come 14 = .ok (.istore_n 3, 1) := by decide +kernel
theorem dX5_come_15 : decode cX5_come 15 = .ok (.iload_n 3, 1) := by decide +kernel
theorem dX5_come_16 : decode cX5_come 16 = .ok (.iload_n 1, 1) := by decide +kernel
theorem dX5_come_17 : decode cX5_come 17 = .ok (.if_icmp .ge 18, 3) := by decide +kernel
theorem dX5_come_20 : decode cX5_come 20 = .ok (.iload_n 2, 1) := by decide +kernel
theorem dX5_come_21 : decode cX5_come 21 = .ok (.iconst 1, 1) := by decide +kernel
theorem dX5_come_22 : decode cX5_come 22 = .ok (.aload_n 0, 1) := by decide +kernel
theorem dX5_come_23 : decode cX5_come 23 = .ok (.invokevirtual 264, 3) := by decide +kernel
theorem dX5_come_26 : decode cX5_come 26 = .ok (.ishl, 1) := by decide +kernel
theorem dX5_come_27 : decode cX5_come 27 = .ok (.ior, 1) := by decide +kernel
theorem dX5_come_28 : decode cX5_come 28 = .ok (.istore_n 2, 1) := by decide +kernel
theorem dX5_come_29 : decode cX5_come 29 = .ok (.iinc 3 1, 3) := by decide +kernel
theorem dX5_come_32 : decode cX5_come 32 = .ok (.goto (-17), 3) := by decide +kernel
theorem dX5_come_35 : decode cX5_come 35 = .ok (.iload_n 2, 1) := by decide +kernel
theorem dX5_come_36 : decode cX5_come 36 = .ok (.ireturn, 1) := by decide +kernel
theorem dX5_orders_0 : decode cX5_orders 0 = .ok (.iload_n 1, 1) := by decide +kernel
theorem dX5_orders_1 : decode cX5_orders 1 = .ok (.invokestatic 261, 3) := by decide +kernel
theorem dX5_orders_4 : decode cX5_orders 4 = .ok (.iload_n 2, 1) := by decide +kernel
theorem dX5_orders_5 : decode cX5_orders 5 = .ok (.iconst (-1), 1) := by decide +kernel
theorem dX5_orders_6 : decode cX5_orders 6 = .ok (.if_icmp .lt 14, 3) := by decide +kernel
theorem dX5_orders_9 : decode cX5_orders 9 = .ok (.iload_n 2, 1) := by decide +kernel
theorem dX5_orders_10 : decode cX5_orders 10 = .ok (.aload_n 0, 1) := by decide +kernel
theorem dX5_orders_11 : decode cX5_orders 11 = .ok (.getfield 20, 3) := by decide +kernel
theorem dX5_orders_14 : decode cX5_orders 14 = .ok (.getfield 109, 3) := by decide +kernel
theorem dX5_orders_17 : decode cX5_orders 17 = .ok (.if_icmp .lt 13, 3) := by decide +kernel
theorem dX5_orders_20 : decode cX5_orders 20 = .ok (.new 134, 3) := by decide +kernel
theorem dX5_orders_23 : decode cX5_orders 23 = .ok (.dup, 1) := by decide +kernel
theorem dX5_orders_24 : decode cX5_orders 24 = .ok (.ldc 192, 2) := by decide +kernel
theorem dX5_orders_26 : decode cX5_orders 26 = .ok (.invokespecial 138, 3) := by decide +kernel
theorem dX5_orders_29 : decode cX5_orders 29 = .ok (.athrow, 1) := by decide +kernel
theorem dX5_orders_30 : decode cX5_orders 30 = .ok (.aload_n 0, 1) := by decide +kernel
theorem dX5_orders_31 : decode cX5_orders 31 = .ok (.getfield 20, 3) := by decide +kernel
theorem dX5_orders_34 : decode cX5_orders 34 = .ok (.getfield 109, 3) := by decide +kernel
theorem dX5_orders_37 : decode cX5_orders 37 = .ok (.bipush 6, 2) := by decide +kernel
theorem dX5_orders_39 : decode cX5_orders 39 = .ok (.if_icmp .le 6, 3) := by decide +kernel
theorem dX5_orders_42 : decode cX5_orders 42 = .ok (.bipush (-2), 2) := by decide +kernel
theorem dX5_orders_44 : decode cX5_orders 44 = .ok (.ireturn, 1) := by decide +kernel
theorem dX5_orders_45 : decode cX5_orders 45 = .ok (.aload_n 0, 1) := by decide +kernel
theorem dX5_orders_46 : decode cX5_orders 46 = .ok (.invokevirtual 286, 3) := by decide +kernel
theorem dX5_orders_49 : decode cX5_orders 49 = .ok (.iconst 0, 1) := by decide +kernel
theorem dX5_orders_50 : decode cX5_orders 50 = .ok (.istore_n 3, 1) := by decide +kernel
theorem dX5_orders_51 : decode cX5_orders 51 = .ok (.iconst 1, 1) := by decide +kernel
theorem dX5_orders_52 : decode cX5_orders 52 = .ok (.istore 4, 2) := by decide +kernel
theorem dX5_orders_54 : decode cX5_orders 54 = .ok (.iconst 0, 1) := by decide +kernel
theorem dX5_orders_55 : decode cX5_orders 55 = .ok (.istore 5, 2) := by decide +kernel
theorem dX5_orders_57 : decode cX5_orders 57 = .ok (.iload 4, 2) := by decide +kernel
theorem dX5_orders_59 : decode cX5_orders 59 = .ok (.ifCond .eq 53, 3) := by decide +kernel
theorem dX5_orders_62 : decode cX5_orders 62 = .ok (.iload 5, 2) := by decide +kernel
theorem dX5_orders_64 : decode cX5_orders 64 = .ok (.sipush 720, 3) := by decide +kernel
theorem dX5_orders_67 : decode cX5_orders 67 = .ok (.if_icmp .ge 45, 3) := by decide +kernel
theorem dX5_orders_70 : decode cX5_orders 70 = .ok (.aload_n 0, 1) := by decide +kernel
theorem dX5_orders_71 : decode cX5_orders 71 = .ok (.invokevirtual 289, 3) := by decide +kernel
theorem dX5_orders_74 : decode cX5_orders 74 = .ok (.iload_n 1, 1) := by decide +kernel
theorem dX5_orders_75 : decode cX5_orders 75 = .ok (.if_icmp .ne 18, 3) := by decide +kernel
theorem dX5_orders_78 : decode cX5_orders 78 = .ok (.iload_n 2, 1) := by decide +kernel
theorem dX5_orders_79 : decode cX5_orders 79 = .ok (.iconst (-1), 1) := by decide +kernel
theorem dX5_orders_80 : decode cX5_orders 80 = .ok (.if_icmp .eq 10, 3) := by decide +kernel
theorem dX5_orders_83 : decode cX5_orders 83 = .ok (.aload_n 0, 1) := by decide +kernel
theorem dX5_orders_84 : decode cX5_orders 84 = .ok (.getfield 58, 3) := by decide +kernel
theorem dX5_orders_87 : decode cX5_orders 87 = .ok (.iload_n 2, 1) := by decide +kernel
theorem dX5_orders_88 : decode cX5_orders 88 = .ok (.iaload, 1) := by decide +kernel
theorem dX5_orders_89 : decode cX5_orders 89 = .ok (.ireturn, 1) := by decide +kernel
theorem dX5_orders_90 : decode cX5_orders 90 = .ok (.iinc 3 1, 3) := by decide +kernel
theorem dX5_orders_93 : decode cX5_orders 93 = .ok (.aload_n 0, 1) := by decide +kernel
theorem dX5_orders_94 : decode cX5_orders 94 = .ok (.aload_n 0, 1) := by decide +kernel
theorem dX5_orders_95 : decode cX5_orders 95 = .ok (.getfield 20, 3) := by decide +kernel
theorem dX5_orders_98 : decode cX5_orders 98 = .ok (.getfield 109, 3) := by decide +kernel
theorem dX5_orders_101 : decode cX5_orders 101 = .ok (.invokevirtual 292, 3) := by decide +kernel
theorem dX5_orders_104 : decode cX5_orders 104 = .ok (.istore 4, 2) := by decide +kernel
theorem dX5_orders_106 : decode cX5_orders 106 = .ok (.iinc 5 1, 3) := by decide +kernel
theorem dX5_orders_109 : decode cX5_orders 109 = .ok (.goto (-52), 3) := by decide +kernel
theorem dX5_orders_112 : decode cX5_orders 112 = .ok (.iload_n 2, 1) := by decide +kernel
theorem dX5_orders_113 : decode cX5_orders 113 = .ok (.iconst (-1), 1) := by decide +kernel
theorem dX5_orders_114 : decode cX5_orders 114 = .ok (.if_icmp .ne 7, 3) := by decide +kernel
theorem dX5_orders_117 : decode cX5_orders 117 = .ok (.iload_n 3, 1) := by decide +kernel
theorem dX5_orders_118 : decode cX5_orders 118 = .ok (.goto 4, 3) := by decide +kernel
theorem dX5_orders_121 : decode cX5_orders 121 = .ok (.iconst (-1), 1) := by decide +kernel
theorem dX5_orders_122 : decode cX5_orders 122 = .ok (.ireturn, 1) := by decide +kernel
theorem dX5_startOrder_0 : decode cX5_startOrder 0 = .ok (.iconst 0, 1) := by decide +kernel
theorem dX5_startOrder_1 : decode cX5_startOrder 1 = .ok (.istore_n 1, 1) := by decide +kernel
theorem dX5_startOrder_2 : decode cX5_startOrder 2 = .ok (.iload_n 1, 1) := by decide +kernel
theorem dX5_startOrder_3 : decode cX5_startOrder 3 = .ok (.aload_n 0, 1) := by decide +kernel
theorem dX5_startOrder_4 : decode cX5_startOrder 4 = .ok (.getfield 58, 3) := by decide +kernel
theorem dX5_startOrder_7 : decode cX5_startOrder 7 = .ok (.arraylength, 1) := by decide +kernel
theorem dX5_startOrder_8 : decode cX5_startOrder 8 = .ok (.if_icmp .ge 16, 3) := by decide +kernel
theorem dX5_startOrder_11 : decode cX5_startOrder 11 = .ok (.aload_n 0, 1) := by decide +kernel
theorem dX5_startOrder_12 : decode cX5_startOrder 12 = .ok (.getfield 58, 3) := by decide +kernel
theorem dX5_startOrder_15 : decode cX5_startOrder 15 = .ok (.iload_n 1, 1) := by decide +kernel
theorem dX5_startOrder_16 : decode cX5_startOrder 16 = .ok (.iload_n 1, 1) := by decide +kernel
theorem dX5_startOrder_17 : decode cX5_startOrder 17 = .ok (.iastore, 1) := by decide +kernel
theorem dX5_startOrder_18 : decode cX5_startOrder 18 = .ok (.iinc 1 1, 3) := by decide +kernel
theorem dX5_startOrder_21 : decode cX5_startOrder 21 = .ok (.goto (-19), 3) := by decide +kernel
theorem dX5_startOrder_24 : decode cX5_startOrder 24 = .ok (.return_, 1) := by decide +kernel
theorem dX5_verdictByOrder_0 : decode cX5_verdictByOrder 0 = .ok (.aload_n 0, 1) := by decide +kernel
theorem dX5_verdictByOrder_1 : decode cX5_verdictByOrder 1 = .ok (.invokevirtual 248, 3) := by decide +kernel
theorem dX5_verdictByOrder_4 : decode cX5_verdictByOrder 4 = .ok (.iconst 0, 1) := by decide +kernel
theorem dX5_verdictByOrder_5 : decode cX5_verdictByOrder 5 = .ok (.istore_n 1, 1) := by decide +kernel
theorem dX5_verdictByOrder_6 : decode cX5_verdictByOrder 6 = .ok (.iload_n 1, 1) := by decide +kernel
theorem dX5_verdictByOrder_7 : decode cX5_verdictByOrder 7 = .ok (.aload_n 0, 1) := by decide +kernel
theorem dX5_verdictByOrder_8 : decode cX5_verdictByOrder 8 = .ok (.getfield 20, 3) := by decide +kernel
theorem dX5_verdictByOrder_11 : decode cX5_verdictByOrder 11 = .ok (.getfield 109, 3) := by decide +kernel
theorem dX5_verdictByOrder_14 : decode cX5_verdictByOrder 14 = .ok (.if_icmp .ge 24, 3) := by decide +kernel
theorem dX5_verdictByOrder_17 : decode cX5_verdictByOrder 17 = .ok (.aload_n 0, 1) := by decide +kernel
theorem dX5_verdictByOrder_18 : decode cX5_verdictByOrder 18 = .ok (.getfield 51, 3) := by decide +kernel
theorem dX5_verdictByOrder_21 : decode cX5_verdictByOrder 21 = .ok (.getfield 194, 3) := by decide +kernel
theorem dX5_verdictByOrder_24 : decode cX5_verdictByOrder 24 = .ok (.iload_n 1, 1) := by decide +kernel
theorem dX5_verdictByOrder_25 : decode cX5_verdictByOrder 25 = .ok (.aload_n 0, 1) := by decide +kernel
theorem dX5_verdictByOrder_26 : decode cX5_verdictByOrder 26 = .ok (.getfield 58, 3) := by decide +kernel
theorem dX5_verdictByOrder_29 : decode cX5_verdictByOrder 29 = .ok (.iload_n 1, 1) := by decide +kernel
theorem dX5_verdictByOrder_30 : decode cX5_verdictByOrder 30 = .ok (.iaload, 1) := by decide +kernel
theorem dX5_verdictByOrder_31 : decode cX5_verdictByOrder 31 = .ok (.iastore, 1) := by decide +kernel
theorem dX5_verdictByOrder_32 : decode cX5_verdictByOrder 32 = .ok (.iinc 1 1, 3) := by decide +kernel
theorem dX5_verdictByOrder_35 : decode cX5_verdictByOrder 35 = .ok (.goto (-29), 3) := by decide +kernel
theorem dX5_verdictByOrder_38 : decode cX5_verdictByOrder 38 = .ok (.aload_n 0, 1) := by decide +kernel
theorem dX5_verdictByOrder_39 : decode cX5_verdictByOrder 39 = .ok (.invokevirtual 264, 3) := by decide +kernel
theorem dX5_verdictByOrder_42 : decode cX5_verdictByOrder 42 = .ok (.ireturn, 1) := by decide +kernel
theorem dX5_nextOrder_0 : decode cX5_nextOrder 0 = .ok (.iload_n 1, 1) := by decide +kernel
theorem dX5_nextOrder_1 : decode cX5_nextOrder 1 = .ok (.iconst 2, 1) := by decide +kernel
theorem dX5_nextOrder_2 : decode cX5_nextOrder 2 = .ok (.isub, 1) := by decide +kernel
theorem dX5_nextOrder_3 : decode cX5_nextOrder 3 = .ok (.istore_n 2, 1) := by decide +kernel
theorem dX5_nextOrder_4 : decode cX5_nextOrder 4 = .ok (.iload_n 2, 1) := by decide +kernel
theorem dX5_nextOrder_5 : decode cX5_nextOrder 5 = .ok (.ifCond .lt 26, 3) := by decide +kernel
theorem dX5_nextOrder_8 : decode cX5_nextOrder 8 = .ok (.aload_n 0, 1) := by decide +kernel
theorem dX5_nextOrder_9 : decode cX5_nextOrder 9 = .ok (.getfield 58, 3) := by decide +kernel
theorem dX5_nextOrder_12 : decode cX5_nextOrder 12 = .ok (.iload_n 2, 1) := by decide +kernel
theorem dX5_nextOrder_13 : decode cX5_nextOrder 13 = .ok (.iaload, 1) := by decide +kernel
theorem dX5_nextOrder_14 : decode cX5_nextOrder 14 = .ok (.aload_n 0, 1) := by decide +kernel
theorem dX5_nextOrder_15 : decode cX5_nextOrder 15 = .ok (.getfield 58, 3) := by decide +kernel
theorem dX5_nextOrder_18 : decode cX5_nextOrder 18 = .ok (.iload_n 2, 1) := by decide +kernel
theorem dX5_nextOrder_19 : decode cX5_nextOrder 19 = .ok (.iconst 1, 1) := by decide +kernel
theorem dX5_nextOrder_20 : decode cX5_nextOrder 20 = .ok (.iadd, 1) := by decide +kernel
theorem dX5_nextOrder_21 : decode cX5_nextOrder 21 = .ok (.iaload, 1) := by decide +kernel
theorem dX5_nextOrder_22 : decode cX5_nextOrder 22 = .ok (.if_icmp .le 9, 3) := by decide +kernel
theorem dX5_nextOrder_25 : decode cX5_nextOrder 25 = .ok (.iinc 2 (-1), 3) := by decide +kernel
theorem dX5_nextOrder_28 : decode cX5_nextOrder 28 = .ok (.goto (-24), 3) := by decide +kernel
theorem dX5_nextOrder_31 : decode cX5_nextOrder 31 = .ok (.iload_n 2, 1) := by decide +kernel
theorem dX5_nextOrder_32 : decode cX5_nextOrder 32 = .ok (.ifCond .ge 5, 3) := by decide +kernel
theorem dX5_nextOrder_35 : decode cX5_nextOrder 35 = .ok (.iconst 0, 1) := by decide +kernel
theorem dX5_nextOrder_36 : decode cX5_nextOrder 36 = .ok (.ireturn, 1) := by decide +kernel
theorem dX5_nextOrder_37 : decode cX5_nextOrder 37 = .ok (.iload_n 1, 1) := by decide +kernel
theorem dX5_nextOrder_38 : decode cX5_nextOrder 38 = .ok (.iconst 1, 1) := by decide +kernel
theorem dX5_nextOrder_39 : decode cX5_nextOrder 39 = .ok (.isub, 1) := by decide +kernel
theorem dX5_nextOrder_40 : decode cX5_nextOrder 40 = .ok (.istore_n 3, 1) := by decide +kernel
theorem dX5_nextOrder_41 : decode cX5_nextOrder 41 = .ok (.iload_n 3, 1) := by decide +kernel
theorem dX5_nextOrder_42 : decode cX5_nextOrder 42 = .ok (.iload_n 2, 1) := by decide +kernel
theorem dX5_nextOrder_43 : decode cX5_nextOrder 43 = .ok (.if_icmp .le 24, 3) := by decide +kernel
theorem dX5_nextOrder_46 : decode cX5_nextOrder 46 = .ok (.aload_n 0, 1) := by decide +kernel
theorem dX5_nextOrder_47 : decode cX5_nextOrder 47 = .ok (.getfield 58, 3) := by decide +kernel
theorem dX5_nextOrder_50 : decode cX5_nextOrder 50 = .ok (.iload_n 3, 1) := by decide +kernel
theorem dX5_nextOrder_51 : decode cX5_nextOrder 51 = .ok (.iaload, 1) := by decide +kernel
theorem dX5_nextOrder_52 : decode cX5_nextOrder 52 = .ok (.aload_n 0, 1) := by decide +kernel
theorem dX5_nextOrder_53 : decode cX5_nextOrder 53 = .ok (.getfield 58, 3) := by decide +kernel
theorem dX5_nextOrder_56 : decode cX5_nextOrder 56 = .ok (.iload_n 2, 1) := by decide +kernel
theorem dX5_nextOrder_57 : decode cX5_nextOrder 57 = .ok (.iaload, 1) := by decide +kernel
theorem dX5_nextOrder_58 : decode cX5_nextOrder 58 = .ok (.if_icmp .ge 9, 3) := by decide +kernel
theorem dX5_nextOrder_61 : decode cX5_nextOrder 61 = .ok (.iinc 3 (-1), 3) := by decide +kernel
theorem dX5_nextOrder_64 : decode cX5_nextOrder 64 = .ok (.goto (-23), 3) := by decide +kernel
theorem dX5_nextOrder_67 : decode cX5_nextOrder 67 = .ok (.aload_n 0, 1) := by decide +kernel
theorem dX5_nextOrder_68 : decode cX5_nextOrder 68 = .ok (.iload_n 2, 1) := by decide +kernel
theorem dX5_nextOrder_69 : decode cX5_nextOrder 69 = .ok (.iload_n 3, 1) := by decide +kernel
theorem dX5_nextOrder_70 : decode cX5_nextOrder 70 = .ok (.invokevirtual 296, 3) := by decide +kernel
theorem dX5_nextOrder_73 : decode cX5_nextOrder 73 = .ok (.iload_n 2, 1) := by decide +kernel
theorem dX5_nextOrder_74 : decode cX5_nextOrder 74 = .ok (.iconst 1, 1) := by decide +kernel
theorem dX5_nextOrder_75 : decode cX5_nextOrder 75 = .ok (.iadd, 1) := by decide +kernel
theorem dX5_nextOrder_76 : decode cX5_nextOrder 76 = .ok (.istore 4, 2) := by decide +kernel
theorem dX5_nextOrder_78 : decode cX5_nextOrder 78 = .ok (.iload_n 1, 1) := by decide +kernel
theorem dX5_nextOrder_79 : decode cX5_nextOrder 79 = .ok (.iconst 1, 1) := by decide +kernel
theorem dX5_nextOrder_80 : decode cX5_nextOrder 80 = .ok (.isub, 1) := by decide +kernel
theorem dX5_nextOrder_81 : decode cX5_nextOrder 81 = .ok (.istore 5, 2) := by decide +kernel
theorem dX5_nextOrder_83 : decode cX5_nextOrder 83 = .ok (.iload 4, 2) := by decide +kernel
theorem dX5_nextOrder_85 : decode cX5_nextOrder 85 = .ok (.iload 5, 2) := by decide +kernel
theorem dX5_nextOrder_87 : decode cX5_nextOrder 87 = .ok (.if_icmp .ge 20, 3) := by decide +kernel
theorem dX5_nextOrder_90 : decode cX5_nextOrder 90 = .ok (.aload_n 0, 1) := by decide +kernel
theorem dX5_nextOrder_91 : decode cX5_nextOrder 91 = .ok (.iload 4, 2) := by decide +kernel
theorem dX5_nextOrder_93 : decode cX5_nextOrder 93 = .ok (.iload 5, 2) := by decide +kernel
theorem dX5_nextOrder_95 : decode cX5_nextOrder 95 = .ok (.invokevirtual 296, 3) := by decide +kernel
theorem dX5_nextOrder_98 : decode cX5_nextOrder 98 = .ok (.iinc 4 1, 3) := by decide +kernel
theorem dX5_nextOrder_101 : decode cX5_nextOrder 101 = .ok (.iinc 5 (-1), 3) := by decide +kernel
theorem dX5_nextOrder_104 : decode cX5_nextOrder 104 = .ok (.goto (-21), 3) := by decide +kernel
theorem dX5_nextOrder_107 : decode cX5_nextOrder 107 = .ok (.iconst 1, 1) := by decide +kernel
theorem dX5_nextOrder_108 : decode cX5_nextOrder 108 = .ok (.ireturn, 1) := by decide +kernel
theorem dX5_swapInOrder_0 : decode cX5_swapInOrder 0 = .ok (.aload_n 0, 1) := by decide +kernel
theorem dX5_swapInOrder_1 : decode cX5_swapInOrder 1 = .ok (.getfield 58, 3) := by decide +kernel
theorem dX5_swapInOrder_4 : decode cX5_swapInOrder 4 = .ok (.iload_n 1, 1) := by decide +kernel
theorem dX5_swapInOrder_5 : decode cX5_swapInOrder 5 = .ok (.iaload, 1) := by decide +kernel
theorem dX5_swapInOrder_6 : decode cX5_swapInOrder 6 = .ok (.istore_n 3, 1) := by decide +kernel
theorem dX5_swapInOrder_7 : decode cX5_swapInOrder 7 = .ok (.aload_n 0, 1) := by decide +kernel
theorem dX5_swapInOrder_8 : decode cX5_swapInOrder 8 = .ok (.getfield 58, 3) := by decide +kernel
theorem dX5_swapInOrder_11 : decode cX5_swapInOrder 11 = .ok (.iload_n 1, 1) := by decide +kernel
theorem dX5_swapInOrder_12 : decode cX5_swapInOrder 12 = .ok (.aload_n 0, 1) := by decide +kernel
theorem dX5_swapInOrder_13 : decode cX5_swapInOrder 13 = .ok (.getfield 58, 3) := by decide +kernel
theorem dX5_swapInOrder_16 : decode cX5_swapInOrder 16 = .ok (.iload_n 2, 1) := by decide +kernel
theorem dX5_swapInOrder_17 : decode cX5_swapInOrder 17 = .ok (.iaload, 1) := by decide +kernel
theorem dX5_swapInOrder_18 : decode cX5_swapInOrder 18 = .ok (.iastore, 1) := by decide +kernel
theorem dX5_swapInOrder_19 : decode cX5_swapInOrder 19 = .ok (.aload_n 0, 1) := by decide +kernel
theorem dX5_swapInOrder_20 : decode cX5_swapInOrder 20 = .ok (.getfield 58, 3) := by decide +kernel
theorem dX5_swapInOrder_23 : decode cX5_swapInOrder 23 = .ok (.iload_n 2, 1) := by decide +kernel
theorem dX5_swapInOrder_24 : decode cX5_swapInOrder 24 = .ok (.iload_n 3, 1) := by decide +kernel
theorem dX5_swapInOrder_25 : decode cX5_swapInOrder 25 = .ok (.iastore, 1) := by decide +kernel
theorem dX5_swapInOrder_26 : decode cX5_swapInOrder 26 = .ok (.return_, 1) := by decide +kernel
theorem dX5_decisive_0 : decode cX5_decisive 0 = .ok (.aload_n 0, 1) := by decide +kernel
theorem dX5_decisive_1 : decode cX5_decisive 1 = .ok (.invokevirtual 248, 3) := by decide +kernel
theorem dX5_decisive_4 : decode cX5_decisive 4 = .ok (.aload_n 0, 1) := by decide +kernel
theorem dX5_decisive_5 : decode cX5_decisive 5 = .ok (.invokevirtual 264, 3) := by decide +kernel
theorem dX5_decisive_8 : decode cX5_decisive 8 = .ok (.istore_n 1, 1) := by decide +kernel
theorem dX5_decisive_9 : decode cX5_decisive 9 = .ok (.iconst 0, 1) := by decide +kernel
theorem dX5_decisive_10 : decode cX5_decisive 10 = .ok (.istore_n 2, 1) := by decide +kernel
theorem dX5_decisive_11 : decode cX5_decisive 11 = .ok (.iconst 0, 1) := by decide +kernel
theorem dX5_decisive_12 : decode cX5_decisive 12 = .ok (.istore_n 3, 1) := by decide +kernel
theorem dX5_decisive_13 : decode cX5_decisive 13 = .ok (.iload_n 3, 1) := by decide +kernel
theorem dX5_decisive_14 : decode cX5_decisive 14 = .ok (.aload_n 0, 1) := by decide +kernel
theorem dX5_decisive_15 : decode cX5_decisive 15 = .ok (.getfield 20, 3) := by decide +kernel
theorem dX5_decisive_18 : decode cX5_decisive 18 = .ok (.getfield 109, 3) := by decide +kernel
theorem dX5_decisive_21 : decode cX5_decisive 21 = .ok (.if_icmp .ge 26, 3) := by decide +kernel
theorem dX5_decisive_24 : decode cX5_decisive 24 = .ok (.aload_n 0, 1) := by decide +kernel
theorem dX5_decisive_25 : decode cX5_decisive 25 = .ok (.iconst 1, 1) := by decide +kernel
theorem dX5_decisive_26 : decode cX5_decisive 26 = .ok (.iload_n 3, 1) := by decide +kernel
theorem dX5_decisive_27 : decode cX5_decisive 27 = .ok (.ishl, 1) := by decide +kernel
theorem dX5_decisive_28 : decode cX5_decisive 28 = .ok (.invokevirtual 299, 3) := by decide +kernel
theorem dX5_decisive_31 : decode cX5_decisive 31 = .ok (.iload_n 1, 1) := by decide +kernel
theorem dX5_decisive_32 : decode cX5_decisive 32 = .ok (.if_icmp .eq 9, 3) := by decide +kernel
theorem dX5_decisive_35 : decode cX5_decisive 35 = .ok (.iload_n 2, 1) := by decide +kernel
theorem dX5_decisive_36 : decode cX5_decisive 36 = .ok (.iconst 1, 1) := by decide +kernel
theorem dX5_decisive_37 : decode cX5_decisive 37 = .ok (.iload_n 3, 1) := by decide +kernel
theorem dX5_decisive_38 : decode cX5_decisive 38 = .ok (.ishl, 1) := by decide +kernel
theorem dX5_decisive_39 : decode cX5_decisive 39 = .ok (.ior, 1) := by decide +kernel
theorem dX5_decisive_40 : decode cX5_decisive 40 = .ok (.istore_n 2, 1) := by decide +kernel
theorem dX5_decisive_41 : decode cX5_decisive 41 = .ok (.iinc 3 1, 3) := by decide +kernel
theorem dX5_decisive_44 : decode cX5_decisive 44 = .ok (.goto (-31), 3) := by decide +kernel
theorem dX5_decisive_47 : decode cX5_decisive 47 = .ok (.iload_n 2, 1) := by decide +kernel
theorem dX5_decisive_48 : decode cX5_decisive 48 = .ok (.ireturn, 1) := by decide +kernel
theorem dX5_verdictIfTurned_0 : decode cX5_verdictIfTurned 0 = .ok (.aload_n 0, 1) := by decide +kernel
theorem dX5_verdictIfTurned_1 : decode cX5_verdictIfTurned 1 = .ok (.invokevirtual 248, 3) := by decide +kernel
theorem dX5_verdictIfTurned_4 : decode cX5_verdictIfTurned 4 = .ok (.iconst 0, 1) := by decide +kernel
theorem dX5_verdictIfTurned_5 : decode cX5_verdictIfTurned 5 = .ok (.istore_n 2, 1) := by decide +kernel
theorem dX5_verdictIfTurned_6 : decode cX5_verdictIfTurned 6 = .ok (.iload_n 2, 1) := by decide +kernel
theorem dX5_verdictIfTurned_7 : decode cX5_verdictIfTurned 7 = .ok (.aload_n 0, 1) := by decide +kernel
theorem dX5_verdictIfTurned_8 : decode cX5_verdictIfTurned 8 = .ok (.getfield 20, 3) := by decide +kernel
theorem dX5_verdictIfTurned_11 : decode cX5_verdictIfTurned 11 = .ok (.getfield 109, 3) := by decide +kernel
theorem dX5_verdictIfTurned_14 : decode cX5_verdictIfTurned 14 = .ok (.if_icmp .ge 39, 3) := by decide +kernel
theorem dX5_verdictIfTurned_17 : decode cX5_verdictIfTurned 17 = .ok (.iload_n 1, 1) := by decide +kernel
theorem dX5_verdictIfTurned_18 : decode cX5_verdictIfTurned 18 = .ok (.iload_n 2, 1) := by decide +kernel
theorem dX5_verdictIfTurned_19 : decode cX5_verdictIfTurned 19 = .ok (.ishr, 1) := by decide +kernel
theorem dX5_verdictIfTurned_20 : decode cX5_verdictIfTurned 20 = .ok (.iconst 1, 1) := by decide +kernel
theorem dX5_verdictIfTurned_21 : decode cX5_verdictIfTurned 21 = .ok (.iand, 1) := by decide +kernel
theorem dX5_verdictIfTurned_22 : decode cX5_verdictIfTurned 22 = .ok (.iconst 1, 1) := by decide +kernel
theorem dX5_verdictIfTurned_23 : decode cX5_verdictIfTurned 23 = .ok (.if_icmp .ne 24, 3) := by decide +kernel
theorem dX5_verdictIfTurned_26 : decode cX5_verdictIfTurned 26 = .ok (.aload_n 0, 1) := by decide +kernel
theorem dX5_verdictIfTurned_27 : decode cX5_verdictIfTurned 27 = .ok (.getfield 51, 3) := by decide +kernel
theorem dX5_verdictIfTurned_30 : decode cX5_verdictIfTurned 30 = .ok (.getfield 173, 3) := by decide +kernel
theorem dX5_verdictIfTurned_33 : decode cX5_verdictIfTurned 33 = .ok (.iload_n 2, 1) := by decide +kernel
theorem dX5_verdictIfTurned_34 : decode cX5_verdictIfTurned 34 = .ok (.bipush 12, 2) := by decide +kernel
theorem dX5_verdictIfTurned_36 : decode cX5_verdictIfTurned 36 = .ok (.aload_n 0, 1) := by decide +kernel
theorem dX5_verdictIfTurned_37 : decode cX5_verdictIfTurned 37 = .ok (.getfield 51, 3) := by decide +kernel
theorem dX5_verdictIfTurned_40 : decode cX5_verdictIfTurned 40 = .ok (.getfield 173, 3) := by decide +kernel
theorem dX5_verdictIfTurned_43 : decode cX5_verdictIfTurned 43 = .ok (.iload_n 2, 1) := by decide +kernel
theorem dX5_verdictIfTurned_44 : decode cX5_verdictIfTurned 44 = .ok (.iaload, 1) := by decide +kernel
theorem dX5_verdictIfTurned_45 : decode cX5_verdictIfTurned 45 = .ok (.isub, 1) := by decide +kernel
theorem dX5_verdictIfTurned_46 : decode cX5_verdictIfTurned 46 = .ok (.iastore, 1) := by decide +kernel
theorem dX5_verdictIfTurned_47 : decode cX5_verdictIfTurned 47 = .ok (.iinc 2 1, 3) := by decide +kernel
theorem dX5_verdictIfTurned_50 : decode cX5_verdictIfTurned 50 = .ok (.goto (-44), 3) := by decide +kernel
theorem dX5_verdictIfTurned_53 : decode cX5_verdictIfTurned 53 = .ok (.aload_n 0, 1) := by decide +kernel
theorem dX5_verdictIfTurned_54 : decode cX5_verdictIfTurned 54 = .ok (.invokevirtual 264, 3) := by decide +kernel
theorem dX5_verdictIfTurned_57 : decode cX5_verdictIfTurned 57 = .ok (.ireturn, 1) := by decide +kernel
theorem dX5_toTurn_0 : decode cX5_toTurn 0 = .ok (.iload_n 1, 1) := by decide +kernel
theorem dX5_toTurn_1 : decode cX5_toTurn 1 = .ok (.invokestatic 261, 3) := by decide +kernel
theorem dX5_toTurn_4 : decode cX5_toTurn 4 = .ok (.iconst (-1), 1) := by decide +kernel
theorem dX5_toTurn_5 : decode cX5_toTurn 5 = .ok (.istore_n 2, 1) := by decide +kernel
theorem dX5_toTurn_6 : decode cX5_toTurn 6 = .ok (.iconst 0, 1) := by decide +kernel
theorem dX5_toTurn_7 : decode cX5_toTurn 7 = .ok (.istore_n 3, 1) := by decide +kernel
theorem dX5_toTurn_8 : decode cX5_toTurn 8 = .ok (.iload_n 3, 1) := by decide +kernel
theorem dX5_toTurn_9 : decode cX5_toTurn 9 = .ok (.iconst 1, 1) := by decide +kernel
theorem dX5_toTurn_10 : decode cX5_toTurn 10 = .ok (.aload_n 0, 1) := by decide +kernel
theorem dX5_toTurn_11 : decode cX5_toTurn 11 = .ok (.getfield 20, 3) := by decide +kernel
theorem dX5_toTurn_14 : decode cX5_toTurn 14 = .ok (.getfield 109, 3) := by decide +kernel
theorem dX5_toTurn_17 : decode cX5_toTurn 17 = .ok (.ishl, 1) := by decide +kernel
theorem dX5_toTurn_18 : decode cX5_toTurn 18 = .ok (.if_icmp .ge 48, 3) := by decide +kernel
theorem dX5_toTurn_21 : decode cX5_toTurn 21 = .ok (.iload_n 2, 1) := by decide +kernel
theorem dX5_toTurn_22 : decode cX5_toTurn 22 = .ok (.iconst (-1), 1) := by decide +kernel
theorem dX5_toTurn_23 : decode cX5_toTurn 23 = .ok (.if_icmp .eq 14, 3) := by decide +kernel
theorem dX5_toTurn_26 : decode cX5_toTurn 26 = .ok (.iload_n 3, 1) := by decide +kernel
theorem dX5_toTurn_27 : decode cX5_toTurn 27 = .ok (.invokestatic 302, 3) := by decide +kernel
theorem dX5_toTurn_30 : decode cX5_toTurn 30 = .ok (.iload_n 2, 1) := by decide +kernel
theorem dX5_toTurn_31 : decode cX5_toTurn 31 = .ok (.invokestatic 302, 3) := by decide +kernel
theorem dX5_toTurn_34 : decode cX5_toTurn 34 = .ok (.if_icmp .ge 7, 3) := by decide +kernel
theorem dX5_toTurn_37 : decode cX5_toTurn 37 = .ok (.iconst 1, 1) := by decide +kernel
theorem dX5_toTurn_38 : decode cX5_toTurn 38 = .ok (.goto 4, 3) := by decide +kernel
theorem dX5_toTurn_41 : decode cX5_toTurn 41 = .ok (.iconst 0, 1) := by decide +kernel
theorem dX5_toTurn_42 : decode cX5_toTurn 42 = .ok (.istore 4, 2) := by decide +kernel
theorem dX5_toTurn_44 : decode cX5_toTurn 44 = .ok (.iload 4, 2) := by decide +kernel
theorem dX5_toTurn_46 : decode cX5_toTurn 46 = .ok (.ifCond .eq 14, 3) := by decide +kernel
theorem dX5_toTurn_49 : decode cX5_toTurn 49 = .ok (.aload_n 0, 1) := by decide +kernel
theorem dX5_toTurn_50 : decode cX5_toTurn 50 = .ok (.iload_n 3, 1) := by decide +kernel
theorem dX5_toTurn_51 : decode cX5_toTurn 51 = .ok (.invokevirtual 299, 3) := by decide +kernel
theorem dX5_toTurn_54 : decode cX5_toTurn 54 = .ok (.iload_n 1, 1) := by decide +kernel
theorem dX5_toTurn_55 : decode cX5_toTurn 55 = .ok (.if_icmp .ne 5, 3) := by decide +kernel
theorem dX5_toTurn_58 : decode cX5_toTurn 58 = .ok (.iload_n 3, 1) := by decide +kernel
theorem dX5_toTurn_59 : decode cX5_toTurn 59 = .ok (.istore_n 2, 1) := by decide +kernel
theorem dX5_toTurn_60 : decode cX5_toTurn 60 = .ok (.iinc 3 1, 3) := by decide +kernel
theorem dX5_toTurn_63 : decode cX5_toTurn 63 = .ok (.goto (-55), 3) := by decide +kernel
theorem dX5_toTurn_66 : decode cX5_toTurn 66 = .ok (.iload_n 2, 1) := by decide +kernel
theorem dX5_toTurn_67 : decode cX5_toTurn 67 = .ok (.ireturn, 1) := by decide +kernel
theorem dX5_toDrink_0 : decode cX5_toDrink 0 = .ok (.aload_n 0, 1) := by decide +kernel
theorem dX5_toDrink_1 : decode cX5_toDrink 1 = .ok (.iload_n 1, 1) := by decide +kernel
theorem dX5_toDrink_2 : decode cX5_toDrink 2 = .ok (.invokevirtual 167, 3) := by decide +kernel
theorem dX5_toDrink_5 : decode cX5_toDrink 5 = .ok (.iload_n 2, 1) := by decide +kernel
theorem dX5_toDrink_6 : decode cX5_toDrink 6 = .ok (.invokestatic 261, 3) := by decide +kernel
theorem dX5_toDrink_9 : decode cX5_toDrink 9 = .ok (.iconst 0, 1) := by decide +kernel
theorem dX5_toDrink_10 : decode cX5_toDrink 10 = .ok (.istore_n 3, 1) := by decide +kernel
theorem dX5_toDrink_11 : decode cX5_toDrink 11 = .ok (.iload_n 3, 1) := by decide +kernel
theorem dX5_toDrink_12 : decode cX5_toDrink 12 = .ok (.bipush 30, 2) := by decide +kernel
theorem dX5_toDrink_14 : decode cX5_toDrink 14 = .ok (.if_icmp .gt 33, 3) := by decide +kernel
theorem dX5_toDrink_17 : decode cX5_toDrink 17 = .ok (.aload_n 0, 1) := by decide +kernel
theorem dX5_toDrink_18 : decode cX5_toDrink 18 = .ok (.invokevirtual 248, 3) := by decide +kernel
theorem dX5_toDrink_21 : decode cX5_toDrink 21 = .ok (.aload_n 0, 1) := by decide +kernel
theorem dX5_toDrink_22 : decode cX5_toDrink 22 = .ok (.getfield 51, 3) := by decide +kernel
theorem dX5_toDrink_25 : decode cX5_toDrink 25 = .ok (.getfield 307, 3) := by decide +kernel
theorem dX5_toDrink_28 : decode cX5_toDrink 28 = .ok (.iload_n 1, 1) := by decide +kernel
theorem dX5_toDrink_29 : decode cX5_toDrink 29 = .ok (.iload_n 3, 1) := by decide +kernel
theorem dX5_toDrink_30 : decode cX5_toDrink 30 = .ok (.iastore, 1) := by decide +kernel
theorem dX5_toDrink_31 : decode cX5_toDrink 31 = .ok (.aload_n 0, 1) := by decide +kernel
theorem dX5_toDrink_32 : decode cX5_toDrink 32 = .ok (.invokevirtual 264, 3) := by decide +kernel
theorem dX5_toDrink_35 : decode cX5_toDrink 35 = .ok (.iload_n 2, 1) := by decide +kernel
theorem dX5_toDrink_36 : decode cX5_toDrink 36 = .ok (.if_icmp .ne 5, 3) := by decide +kernel
theorem dX5_toDrink_39 : decode cX5_toDrink 39 = .ok (.iload_n 3, 1) := by decide +kernel
theorem dX5_toDrink_40 : decode cX5_toDrink 40 = .ok (.ireturn, 1) := by decide +kernel
theorem dX5_toDrink_41 : decode cX5_toDrink 41 = .ok (.iinc 3 1, 3) := by decide +kernel
theorem dX5_toDrink_44 : decode cX5_toDrink 44 = .ok (.goto (-33), 3) := by decide +kernel
theorem dX5_toDrink_47 : decode cX5_toDrink 47 = .ok (.iconst (-1), 1) := by decide +kernel
theorem dX5_toDrink_48 : decode cX5_toDrink 48 = .ok (.ireturn, 1) := by decide +kernel
theorem dX5_toPour_0 : decode cX5_toPour 0 = .ok (.iload_n 1, 1) := by decide +kernel
theorem dX5_toPour_1 : decode cX5_toPour 1 = .ok (.invokestatic 261, 3) := by decide +kernel
theorem dX5_toPour_4 : decode cX5_toPour 4 = .ok (.iconst 0, 1) := by decide +kernel
theorem dX5_toPour_5 : decode cX5_toPour 5 = .ok (.istore_n 2, 1) := by decide +kernel
theorem dX5_toPour_6 : decode cX5_toPour 6 = .ok (.iload_n 2, 1) := by decide +kernel
theorem dX5_toPour_7 : decode cX5_toPour 7 = .ok (.bipush 99, 2) := by decide +kernel
theorem dX5_toPour_9 : decode cX5_toPour 9 = .ok (.if_icmp .gt 31, 3) := by decide +kernel
theorem dX5_toPour_12 : decode cX5_toPour 12 = .ok (.aload_n 0, 1) := by decide +kernel
theorem dX5_toPour_13 : decode cX5_toPour 13 = .ok (.invokevirtual 248, 3) := by decide +kernel
theorem dX5_toPour_16 : decode cX5_toPour 16 = .ok (.aload_n 0, 1) := by decide +kernel
theorem dX5_toPour_17 : decode cX5_toPour 17 = .ok (.getfield 51, 3) := by decide +kernel
theorem dX5_toPour_20 : decode cX5_toPour 20 = .ok (.iload_n 2, 1) := by decide +kernel
theorem dX5_toPour_21 : decode cX5_toPour 21 = .ok (.putfield 118, 3) := by decide +kernel
theorem dX5_toPour_24 : decode cX5_toPour 24 = .ok (.aload_n 0, 1) := by decide +kernel
theorem dX5_toPour_25 : decode cX5_toPour 25 = .ok (.invokevirtual 264, 3) := by decide +kernel
theorem dX5_toPour_28 : decode cX5_toPour 28 = .ok (.iload_n 1, 1) := by decide +kernel
theorem dX5_toPour_29 : decode cX5_toPour 29 = .ok (.if_icmp .ne 5, 3) := by decide +kernel
theorem dX5_toPour_32 : decode cX5_toPour 32 = .ok (.iload_n 2, 1) := by decide +kernel
theorem dX5_toPour_33 : decode cX5_toPour 33 = .ok (.ireturn, 1) := by decide +kernel
theorem dX5_toPour_34 : decode cX5_toPour 34 = .ok (.iinc 2 1, 3) := by decide +kernel
theorem dX5_toPour_37 : decode cX5_toPour 37 = .ok (.goto (-31), 3) := by decide +kernel
theorem dX5_toPour_40 : decode cX5_toPour 40 = .ok (.iconst (-1), 1) := by decide +kernel
theorem dX5_toPour_41 : decode cX5_toPour 41 = .ok (.ireturn, 1) := by decide +kernel
theorem dX5_toLay_0 : decode cX5_toLay 0 = .ok (.aload_n 0, 1) := by decide +kernel
theorem dX5_toLay_1 : decode cX5_toLay 1 = .ok (.iload_n 1, 1) := by decide +kernel
theorem dX5_toLay_2 : decode cX5_toLay 2 = .ok (.invokevirtual 156, 3) := by decide +kernel
theorem dX5_toLay_5 : decode cX5_toLay 5 = .ok (.iload_n 2, 1) := by decide +kernel
theorem dX5_toLay_6 : decode cX5_toLay 6 = .ok (.invokestatic 261, 3) := by decide +kernel
theorem dX5_toLay_9 : decode cX5_toLay 9 = .ok (.iconst 0, 1) := by decide +kernel
theorem dX5_toLay_10 : decode cX5_toLay 10 = .ok (.istore_n 3, 1) := by decide +kernel
theorem dX5_toLay_11 : decode cX5_toLay 11 = .ok (.iload_n 3, 1) := by decide +kernel
theorem dX5_toLay_12 : decode cX5_toLay 12 = .ok (.bipush 12, 2) := by decide +kernel
theorem dX5_toLay_14 : decode cX5_toLay 14 = .ok (.if_icmp .ge 33, 3) := by decide +kernel
theorem dX5_toLay_17 : decode cX5_toLay 17 = .ok (.aload_n 0, 1) := by decide +kernel
theorem dX5_toLay_18 : decode cX5_toLay 18 = .ok (.invokevirtual 248, 3) := by decide +kernel
theorem dX5_toLay_21 : decode cX5_toLay 21 = .ok (.aload_n 0, 1) := by decide +kernel
theorem dX5_toLay_22 : decode cX5_toLay 22 = .ok (.getfield 51, 3) := by decide +kernel
theorem dX5_toLay_25 : decode cX5_toLay 25 = .ok (.getfield 159, 3) := by decide +kernel
theorem dX5_toLay_28 : decode cX5_toLay 28 = .ok (.iload_n 1, 1) := by decide +kernel
theorem dX5_toLay_29 : decode cX5_toLay 29 = .ok (.iload_n 3, 1) := by decide +kernel
theorem dX5_toLay_30 : decode cX5_toLay 30 = .ok (.iastore, 1) := by decide +kernel
theorem dX5_toLay_31 : decode cX5_toLay 31 = .ok (.aload_n 0, 1) := by decide +kernel
theorem dX5_toLay_32 : decode cX5_toLay 32 = .ok (.invokevirtual 264, 3) := by decide +kernel
theorem dX5_toLay_35 : decode cX5_toLay 35 = .ok (.iload_n 2, 1) := by decide +kernel
theorem dX5_toLay_36 : decode cX5_toLay 36 = .ok (.if_icmp .ne 5, 3) := by decide +kernel
theorem dX5_toLay_39 : decode cX5_toLay 39 = .ok (.iload_n 3, 1) := by decide +kernel
theorem dX5_toLay_40 : decode cX5_toLay 40 = .ok (.ireturn, 1) := by decide +kernel
theorem dX5_toLay_41 : decode cX5_toLay 41 = .ok (.iinc 3 1, 3) := by decide +kernel
theorem dX5_toLay_44 : decode cX5_toLay 44 = .ok (.goto (-33), 3) := by decide +kernel
theorem dX5_toLay_47 : decode cX5_toLay 47 = .ok (.iconst (-1), 1) := by decide +kernel
theorem dX5_toLay_48 : decode cX5_toLay 48 = .ok (.ireturn, 1) := by decide +kernel
theorem dX5_better_0 : decode cX5_better 0 = .ok (.aload_n 0, 1) := by decide +kernel
theorem dX5_better_1 : decode cX5_better 1 = .ok (.iload_n 1, 1) := by decide +kernel
theorem dX5_better_2 : decode cX5_better 2 = .ok (.invokevirtual 167, 3) := by decide +kernel
theorem dX5_better_5 : decode cX5_better 5 = .ok (.aload_n 0, 1) := by decide +kernel
theorem dX5_better_6 : decode cX5_better 6 = .ok (.getfield 20, 3) := by decide +kernel
theorem dX5_better_9 : decode cX5_better 9 = .ok (.getfield 176, 3) := by decide +kernel
theorem dX5_better_12 : decode cX5_better 12 = .ok (.iload_n 1, 1) := by decide +kernel
theorem dX5_better_13 : decode cX5_better 13 = .ok (.iaload, 1) := by decide +kernel
theorem dX5_better_14 : decode cX5_better 14 = .ok (.istore_n 2, 1) := by decide +kernel
theorem dX5_better_15 : decode cX5_better 15 = .ok (.aload_n 0, 1) := by decide +kernel
theorem dX5_better_16 : decode cX5_better 16 = .ok (.invokevirtual 248, 3) := by decide +kernel
theorem dX5_better_19 : decode cX5_better 19 = .ok (.aload_n 0, 1) := by decide +kernel
theorem dX5_better_20 : decode cX5_better 20 = .ok (.invokevirtual 264, 3) := by decide +kernel
theorem dX5_better_23 : decode cX5_better 23 = .ok (.iload_n 2, 1) := by decide +kernel
theorem dX5_better_24 : decode cX5_better 24 = .ok (.if_icmp .ne 5, 3) := by decide +kernel
theorem dX5_better_27 : decode cX5_better 27 = .ok (.iconst (-1), 1) := by decide +kernel
theorem dX5_better_28 : decode cX5_better 28 = .ok (.ireturn, 1) := by decide +kernel
theorem dX5_better_29 : decode cX5_better 29 = .ok (.iconst 0, 1) := by decide +kernel
theorem dX5_better_30 : decode cX5_better 30 = .ok (.istore_n 3, 1) := by decide +kernel
theorem dX5_better_31 : decode cX5_better 31 = .ok (.iload_n 3, 1) := by decide +kernel
theorem dX5_better_32 : decode cX5_better 32 = .ok (.aload_n 0, 1) := by decide +kernel
theorem dX5_better_33 : decode cX5_better 33 = .ok (.getfield 20, 3) := by decide +kernel
theorem dX5_better_36 : decode cX5_better 36 = .ok (.getfield 109, 3) := by decide +kernel
theorem dX5_better_39 : decode cX5_better 39 = .ok (.if_icmp .ge 44, 3) := by decide +kernel
theorem dX5_better_42 : decode cX5_better 42 = .ok (.iload_n 3, 1) := by decide +kernel
theorem dX5_better_43 : decode cX5_better 43 = .ok (.iload_n 1, 1) := by decide +kernel
theorem dX5_better_44 : decode cX5_better 44 = .ok (.if_icmp .eq 33, 3) := by decide +kernel
theorem dX5_better_47 : decode cX5_better 47 = .ok (.aload_n 0, 1) := by decide +kernel
theorem dX5_better_48 : decode cX5_better 48 = .ok (.invokevirtual 248, 3) := by decide +kernel
theorem dX5_better_51 : decode cX5_better 51 = .ok (.aload_n 0, 1) := by decide +kernel
theorem dX5_better_52 : decode cX5_better 52 = .ok (.getfield 51, 3) := by decide +kernel
theorem dX5_better_55 : decode cX5_better 55 = .ok (.iload_n 1, 1) := by decide +kernel
theorem dX5_better_56 : decode cX5_better 56 = .ok (.iload_n 3, 1) := by decide +kernel
theorem dX5_better_57 : decode cX5_better 57 = .ok (.aload_n 0, 1) := by decide +kernel
theorem dX5_better_58 : decode cX5_better 58 = .ok (.getfield 20, 3) := by decide +kernel
theorem dX5_better_61 : decode cX5_better 61 = .ok (.getfield 109, 3) := by decide +kernel
theorem dX5_better_64 : decode cX5_better 64 = .ok (.invokevirtual 238, 3) := by decide +kernel
theorem dX5_better_67 : decode cX5_better 67 = .ok (.aload_n 0, 1) := by decide +kernel
theorem dX5_better_68 : decode cX5_better 68 = .ok (.invokevirtual 264, 3) := by decide +kernel
theorem dX5_better_71 : decode cX5_better 71 = .ok (.iload_n 2, 1) := by decide +kernel
theorem dX5_better_72 : decode cX5_better 72 = .ok (.if_icmp .ne 5, 3) := by decide +kernel
theorem dX5_better_75 : decode cX5_better 75 = .ok (.iload_n 3, 1) := by decide +kernel
theorem dX5_better_76 : decode cX5_better 76 = .ok (.ireturn, 1) := by decide +kernel
theorem dX5_better_77 : decode cX5_better 77 = .ok (.iinc 3 1, 3) := by decide +kernel
theorem dX5_better_80 : decode cX5_better 80 = .ok (.goto (-49), 3) := by decide +kernel
theorem dX5_better_83 : decode cX5_better 83 = .ok (.iconst (-1), 1) := by decide +kernel
theorem dX5_better_84 : decode cX5_better 84 = .ok (.ireturn, 1) := by decide +kernel
theorem dX5_read_0 : decode cX5_read 0 = .ok (.iload_n 2, 1) := by decide +kernel
theorem dX5_read_1 : decode cX5_read 1 = .ok (.invokestatic 261, 3) := by decide +kernel
theorem dX5_read_4 : decode cX5_read 4 = .ok (.iload_n 1, 1) := by decide +kernel
theorem dX5_read_5 : decode cX5_read 5 = .ok (.iconst 1, 1) := by decide +kernel
theorem dX5_read_6 : decode cX5_read 6 = .ok (.if_icmp .lt 21, 3) := by decide +kernel
theorem dX5_read_9 : decode cX5_read 9 = .ok (.iload_n 1, 1) := by decide +kernel
theorem dX5_read_10 : decode cX5_read 10 = .ok (.bipush 20, 2) := by decide +kernel
theorem dX5_read_12 : decode cX5_read 12 = .ok (.if_icmp .gt 15, 3) := by decide +kernel
theorem dX5_read_15 : decode cX5_read 15 = .ok (.aload_n 0, 1) := by decide +kernel
theorem dX5_read_16 : decode cX5_read 16 = .ok (.getfield 41, 3) := by decide +kernel
theorem dX5_read_19 : decode cX5_read 19 = .ok (.getfield 131, 3) := by decide +kernel
theorem dX5_read_22 : decode cX5_read 22 = .ok (.bipush 8, 2) := by decide +kernel
theorem dX5_read_24 : decode cX5_read 24 = .ok (.if_icmp .lt 18, 3) := by decide +kernel
theorem dX5_read_27 : decode cX5_read 27 = .ok (.aload_n 0, 1) := by decide +kernel
theorem dX5_read_28 : decode cX5_read 28 = .ok (.getfield 41, 3) := by decide +kernel
theorem dX5_read_31 : decode cX5_read 31 = .ok (.getfield 91, 3) := by decide +kernel
theorem dX5_read_34 : decode cX5_read 34 = .ok (.iconst 2, 1) := by decide +kernel
theorem dX5_read_35 : decode cX5_read 35 = .ok (.dup2, 1) := by decide +kernel
theorem dX5_read_36 : decode cX5_read 36 = .ok (.iaload, 1) := by decide +kernel
theorem dX5_read_37 : decode cX5_read 37 = .ok (.iconst 1, 1) := by decide +kernel
theorem dX5_read_38 : decode cX5_read 38 = .ok (.iadd, 1) := by decide +kernel
theorem dX5_read_39 : decode cX5_read 39 = .ok (.iastore, 1) := by decide +kernel
theorem dX5_read_40 : decode cX5_read 40 = .ok (.iconst (-1), 1) := by decide +kernel
theorem dX5_read_41 : decode cX5_read 41 = .ok (.ireturn, 1) := by decide +kernel
theorem dX5_read_42 : decode cX5_read 42 = .ok (.aload_n 0, 1) := by decide +kernel
theorem dX5_read_43 : decode cX5_read 43 = .ok (.getfield 41, 3) := by decide +kernel
theorem dX5_read_46 : decode cX5_read 46 = .ok (.getfield 308, 3) := by decide +kernel
theorem dX5_read_49 : decode cX5_read 49 = .ok (.aload_n 0, 1) := by decide +kernel
theorem dX5_read_50 : decode cX5_read 50 = .ok (.getfield 41, 3) := by decide +kernel
theorem dX5_read_53 : decode cX5_read 53 = .ok (.getfield 131, 3) := by decide +kernel
theorem dX5_read_56 : decode cX5_read 56 = .ok (.iload_n 1, 1) := by decide +kernel
theorem dX5_read_57 : decode cX5_read 57 = .ok (.iastore, 1) := by decide +kernel
theorem dX5_read_58 : decode cX5_read 58 = .ok (.aload_n 0, 1) := by decide +kernel
theorem dX5_read_59 : decode cX5_read 59 = .ok (.getfield 41, 3) := by decide +kernel
theorem dX5_read_62 : decode cX5_read 62 = .ok (.getfield 311, 3) := by decide +kernel
theorem dX5_read_65 : decode cX5_read 65 = .ok (.aload_n 0, 1) := by decide +kernel
theorem dX5_read_66 : decode cX5_read 66 = .ok (.getfield 41, 3) := by decide +kernel
theorem dX5_read_69 : decode cX5_read 69 = .ok (.getfield 131, 3) := by decide +kernel
theorem dX5_read_72 : decode cX5_read 72 = .ok (.iload_n 2, 1) := by decide +kernel
theorem dX5_read_73 : decode cX5_read 73 = .ok (.iastore, 1) := by decide +kernel
theorem dX5_read_74 : decode cX5_read 74 = .ok (.aload_n 0, 1) := by decide +kernel
theorem dX5_read_75 : decode cX5_read 75 = .ok (.getfield 41, 3) := by decide +kernel
theorem dX5_read_78 : decode cX5_read 78 = .ok (.dup, 1) := by decide +kernel
theorem dX5_read_79 : decode cX5_read 79 = .ok (.getfield 131, 3) := by decide +kernel
theorem dX5_read_82 : decode cX5_read 82 = .ok (.iconst 1, 1) := by decide +kernel
theorem dX5_read_83 : decode cX5_read 83 = .ok (.iadd, 1) := by decide +kernel
theorem dX5_read_84 : decode cX5_read 84 = .ok (.putfield 131, 3) := by decide +kernel
theorem dX5_read_87 : decode cX5_read 87 = .ok (.aload_n 0, 1) := by decide +kernel
theorem dX5_read_88 : decode cX5_read 88 = .ok (.getfield 41, 3) := by decide +kernel
theorem dX5_read_91 : decode cX5_read 91 = .ok (.getfield 131, 3) := by decide +kernel
theorem dX5_read_94 : decode cX5_read 94 = .ok (.ireturn, 1) := by decide +kernel
theorem dX5_forget_0 : decode cX5_forget 0 = .ok (.aload_n 0, 1) := by decide +kernel
theorem dX5_forget_1 : decode cX5_forget 1 = .ok (.getfield 41, 3) := by decide +kernel
theorem dX5_forget_4 : decode cX5_forget 4 = .ok (.iconst 0, 1) := by decide +kernel
theorem dX5_forget_5 : decode cX5_forget 5 = .ok (.putfield 131, 3) := by decide +kernel
theorem dX5_forget_8 : decode cX5_forget 8 = .ok (.return_, 1) := by decide +kernel
theorem dX5_handed_0 : decode cX5_handed 0 = .ok (.iload_n 1, 1) := by decide +kernel
theorem dX5_handed_1 : decode cX5_handed 1 = .ok (.iconst 2, 1) := by decide +kernel
theorem dX5_handed_2 : decode cX5_handed 2 = .ok (.invokestatic 251, 3) := by decide +kernel
theorem dX5_handed_5 : decode cX5_handed 5 = .ok (.iload_n 1, 1) := by decide +kernel
theorem dX5_handed_6 : decode cX5_handed 6 = .ok (.iconst 2, 1) := by decide +kernel
theorem dX5_handed_7 : decode cX5_handed 7 = .ok (.if_icmp .ne 20, 3) := by decide +kernel
theorem dX5_handed_10 : decode cX5_handed 10 = .ok (.aload_n 0, 1) := by decide +kernel
theorem dX5_handed_11 : decode cX5_handed 11 = .ok (.invokevirtual 248, 3) := by decide +kernel
theorem dX5_handed_14 : decode cX5_handed 14 = .ok (.aload_n 0, 1) := by decide +kernel
theorem dX5_handed_15 : decode cX5_handed 15 = .ok (.invokevirtual 314, 3) := by decide +kernel
theorem dX5_handed_18 : decode cX5_handed 18 = .ok (.ifCond .eq 7, 3) := by decide +kernel
theorem dX5_handed_21 : decode cX5_handed 21 = .ok (.iconst 1, 1) := by decide +kernel
theorem dX5_handed_22 : decode cX5_handed 22 = .ok (.goto 4, 3) := by decide +kernel
theorem dX5_handed_25 : decode cX5_handed 25 = .ok (.iconst 0, 1) := by decide +kernel
theorem dX5_handed_26 : decode cX5_handed 26 = .ok (.ireturn, 1) := by decide +kernel
theorem dX5_handed_27 : decode cX5_handed 27 = .ok (.iconst 0, 1) := by decide +kernel
theorem dX5_handed_28 : decode cX5_handed 28 = .ok (.istore_n 2, 1) := by decide +kernel
theorem dX5_handed_29 : decode cX5_handed 29 = .ok (.iconst 0, 1) := by decide +kernel
theorem dX5_handed_30 : decode cX5_handed 30 = .ok (.istore_n 3, 1) := by decide +kernel
theorem dX5_handed_31 : decode cX5_handed 31 = .ok (.iload_n 3, 1) := by decide +kernel
theorem dX5_handed_32 : decode cX5_handed 32 = .ok (.aload_n 0, 1) := by decide +kernel
theorem dX5_handed_33 : decode cX5_handed 33 = .ok (.getfield 20, 3) := by decide +kernel
theorem dX5_handed_36 : decode cX5_handed 36 = .ok (.getfield 109, 3) := by decide +kernel
theorem dX5_handed_39 : decode cX5_handed 39 = .ok (.if_icmp .ge 51, 3) := by decide +kernel
theorem dX5_handed_42 : decode cX5_handed 42 = .ok (.iconst 0, 1) := by decide +kernel
theorem dX5_handed_43 : decode cX5_handed 43 = .ok (.istore 4, 2) := by decide +kernel
theorem dX5_handed_45 : decode cX5_handed 45 = .ok (.iload 4, 2) := by decide +kernel
theorem dX5_handed_47 : decode cX5_handed 47 = .ok (.bipush 12, 2) := by decide +kernel
theorem dX5_handed_49 : decode cX5_handed 49 = .ok (.if_icmp .gt 35, 3) := by decide +kernel
theorem dX5_handed_52 : decode cX5_handed 52 = .ok (.aload_n 0, 1) := by decide +kernel
theorem dX5_handed_53 : decode cX5_handed 53 = .ok (.iload_n 3, 1) := by decide +kernel
theorem dX5_handed_54 : decode cX5_handed 54 = .ok (.iload 4, 2) := by decide +kernel
theorem dX5_handed_56 : decode cX5_handed 56 = .ok (.invokevirtual 318, 3) := by decide +kernel
theorem dX5_handed_59 : decode cX5_handed 59 = .ok (.ifCond .eq 19, 3) := by decide +kernel
theorem dX5_handed_62 : decode cX5_handed 62 = .ok (.iload_n 1, 1) := by decide +kernel
theorem dX5_handed_63 : decode cX5_handed 63 = .ok (.iconst 1, 1) := by decide +kernel
theorem dX5_handed_64 : decode cX5_handed 64 = .ok (.if_icmp .ne 11, 3) := by decide +kernel
theorem dX5_handed_67 : decode cX5_handed 67 = .ok (.bipush 100, 2) := by decide +kernel
theorem dX5_handed_69 : decode cX5_handed 69 = .ok (.iload_n 3, 1) := by decide +kernel
theorem dX5_handed_70 : decode cX5_handed 70 = .ok (.imul, 1) := by decide +kernel
theorem dX5_handed_71 : decode cX5_handed 71 = .ok (.iload 4, 2) := by decide +kernel
theorem dX5_handed_73 : decode cX5_handed 73 = .ok (.iadd, 1) := by decide +kernel
theorem dX5_handed_74 : decode cX5_handed 74 = .ok (.ireturn, 1) := by decide +kernel
theorem dX5_handed_75 : decode cX5_handed 75 = .ok (.iinc 2 1, 3) := by decide +kernel
theorem dX5_handed_78 : decode cX5_handed 78 = .ok (.iinc 4 1, 3) := by decide +kernel
theorem dX5_handed_81 : decode cX5_handed 81 = .ok (.goto (-36), 3) := by decide +kernel
theorem dX5_handed_84 : decode cX5_handed 84 = .ok (.iinc 3 1, 3) := by decide +kernel
theorem dX5_handed_87 : decode cX5_handed 87 = .ok (.goto (-56), 3) := by decide +kernel
theorem dX5_handed_90 : decode cX5_handed 90 = .ok (.iload_n 1, 1) := by decide +kernel
theorem dX5_handed_91 : decode cX5_handed 91 = .ok (.ifCond .ne 7, 3) := by decide +kernel
theorem dX5_handed_94 : decode cX5_handed 94 = .ok (.iload_n 2, 1) := by decide +kernel
theorem dX5_handed_95 : decode cX5_handed 95 = .ok (.goto 4, 3) := by decide +kernel
theorem dX5_handed_98 : decode cX5_handed 98 = .ok (.iconst (-1), 1) := by decide +kernel
theorem dX5_handed_99 : decode cX5_handed 99 = .ok (.ireturn, 1) := by decide +kernel
theorem dX5_isHanded_0 : decode cX5_isHanded 0 = .ok (.aload_n 0, 1) := by decide +kernel
theorem dX5_isHanded_1 : decode cX5_isHanded 1 = .ok (.getfield 41, 3) := by decide +kernel
theorem dX5_isHanded_4 : decode cX5_isHanded 4 = .ok (.getfield 112, 3) := by decide +kernel
theorem dX5_isHanded_7 : decode cX5_isHanded 7 = .ok (.getfield 173, 3) := by decide +kernel
theorem dX5_isHanded_10 : decode cX5_isHanded 10 = .ok (.iload_n 1, 1) := by decide +kernel
theorem dX5_isHanded_11 : decode cX5_isHanded 11 = .ok (.iaload, 1) := by decide +kernel
theorem dX5_isHanded_12 : decode cX5_isHanded 12 = .ok (.iload_n 2, 1) := by decide +kernel
theorem dX5_isHanded_13 : decode cX5_isHanded 13 = .ok (.if_icmp .ne 5, 3) := by decide +kernel
theorem dX5_isHanded_16 : decode cX5_isHanded 16 = .ok (.iconst 0, 1) := by decide +kernel
theorem dX5_isHanded_17 : decode cX5_isHanded 17 = .ok (.ireturn, 1) := by decide +kernel
theorem dX5_isHanded_18 : decode cX5_isHanded 18 = .ok (.aload_n 0, 1) := by decide +kernel
theorem dX5_isHanded_19 : decode cX5_isHanded 19 = .ok (.invokevirtual 248, 3) := by decide +kernel
theorem dX5_isHanded_22 : decode cX5_isHanded 22 = .ok (.aload_n 0, 1) := by decide +kernel
theorem dX5_isHanded_23 : decode cX5_isHanded 23 = .ok (.getfield 51, 3) := by decide +kernel
theorem dX5_isHanded_26 : decode cX5_isHanded 26 = .ok (.getfield 173, 3) := by decide +kernel
theorem dX5_isHanded_29 : decode cX5_isHanded 29 = .ok (.iload_n 1, 1) := by decide +kernel
theorem dX5_isHanded_30 : decode cX5_isHanded 30 = .ok (.iload_n 2, 1) := by decide +kernel
theorem dX5_isHanded_31 : decode cX5_isHanded 31 = .ok (.iastore, 1) := by decide +kernel
theorem dX5_isHanded_32 : decode cX5_isHanded 32 = .ok (.aload_n 0, 1) := by decide +kernel
theorem dX5_isHanded_33 : decode cX5_isHanded 33 = .ok (.invokevirtual 314, 3) := by decide +kernel
theorem dX5_isHanded_36 : decode cX5_isHanded 36 = .ok (.ireturn, 1) := by decide +kernel
theorem dX5_trialIsAsRead_0 : decode cX5_trialIsAsRead 0 = .ok (.aload_n 0, 1) := by decide +kernel
theorem dX5_trialIsAsRead_1 : decode cX5_trialIsAsRead 1 = .ok (.getfield 41, 3) := by decide +kernel
theorem dX5_trialIsAsRead_4 : decode cX5_trialIsAsRead 4 = .ok (.invokevirtual 322, 3) := by decide +kernel
theorem dX5_trialIsAsRead_7 : decode cX5_trialIsAsRead 7 = .ok (.istore_n 1, 1) := by decide +kernel
theorem dX5_trialIsAsRead_8 : decode cX5_trialIsAsRead 8 = .ok (.iconst 1, 1) := by decide +kernel
theorem dX5_trialIsAsRead_9 : decode cX5_trialIsAsRead 9 = .ok (.istore_n 2, 1) := by decide +kernel
theorem dX5_trialIsAsRead_10 : decode cX5_trialIsAsRead 10 = .ok (.iload_n 2, 1) := by decide +kernel
theorem dX5_trialIsAsRead_11 : decode cX5_trialIsAsRead 11 = .ok (.iload_n 1, 1) := by decide +kernel
theorem dX5_trialIsAsRead_12 : decode cX5_trialIsAsRead 12 = .ok (.if_icmp .gt 44, 3) := by decide +kernel
theorem dX5_trialIsAsRead_15 : decode cX5_trialIsAsRead 15 = .ok (.aload_n 0, 1) := by decide +kernel
theorem dX5_trialIsAsRead_16 : decode cX5_trialIsAsRead 16 = .ok (.getfield 51, 3) := by decide +kernel
theorem dX5_trialIsAsRead_19 : decode cX5_trialIsAsRead 19 = .ok (.aload_n 0, 1) := by decide +kernel
theorem dX5_trialIsAsRead_20 : decode cX5_trialIsAsRead 20 = .ok (.getfield 20, 3) := by decide +kernel
theorem dX5_trialIsAsRead_23 : decode cX5_trialIsAsRead 23 = .ok (.aload_n 0, 1) := by decide +kernel
theorem dX5_trialIsAsRead_24 : decode cX5_trialIsAsRead 24 = .ok (.getfield 34, 3) := by decide +kernel
theorem dX5_trialIsAsRead_27 : decode cX5_trialIsAsRead 27 = .ok (.invokevirtual 234, 3) := by decide +kernel
theorem dX5_trialIsAsRead_30 : decode cX5_trialIsAsRead 30 = .ok (.aload_n 0, 1) := by decide +kernel
theorem dX5_trialIsAsRead_31 : decode cX5_trialIsAsRead 31 = .ok (.getfield 41, 3) := by decide +kernel
theorem dX5_trialIsAsRead_34 : decode cX5_trialIsAsRead 34 = .ok (.iload_n 2, 1) := by decide +kernel
theorem dX5_trialIsAsRead_35 : decode cX5_trialIsAsRead 35 = .ok (.aload_n 0, 1) := by decide +kernel
theorem dX5_trialIsAsRead_36 : decode cX5_trialIsAsRead 36 = .ok (.getfield 51, 3) := by decide +kernel
theorem dX5_trialIsAsRead_39 : decode cX5_trialIsAsRead 39 = .ok (.getfield 121, 3) := by decide +kernel
theorem dX5_trialIsAsRead_42 : decode cX5_trialIsAsRead 42 = .ok (.invokevirtual 325, 3) := by decide +kernel
theorem dX5_trialIsAsRead_45 : decode cX5_trialIsAsRead 45 = .ok (.ifCond .ne 5, 3) := by decide +kernel
theorem dX5_trialIsAsRead_48 : decode cX5_trialIsAsRead 48 = .ok (.iconst 0, 1) := by decide +kernel
theorem dX5_trialIsAsRead_49 : decode cX5_trialIsAsRead 49 = .ok (.ireturn, 1) := by decide +kernel
theorem dX5_trialIsAsRead_50 : decode cX5_trialIsAsRead 50 = .ok (.iinc 2 1, 3) := by decide +kernel
theorem dX5_trialIsAsRead_53 : decode cX5_trialIsAsRead 53 = .ok (.goto (-43), 3) := by decide +kernel
theorem dX5_trialIsAsRead_56 : decode cX5_trialIsAsRead 56 = .ok (.iconst 1, 1) := by decide +kernel
theorem dX5_trialIsAsRead_57 : decode cX5_trialIsAsRead 57 = .ok (.ireturn, 1) := by decide +kernel
theorem dX5_look_0 : decode cX5_look 0 = .ok (.iload_n 1, 1) := by decide +kernel
theorem dX5_look_1 : decode cX5_look 1 = .ok (.iconst 1, 1) := by decide +kernel
theorem dX5_look_2 : decode cX5_look 2 = .ok (.invokestatic 251, 3) := by decide +kernel
theorem dX5_look_5 : decode cX5_look 5 = .ok (.iconst 0, 1) := by decide +kernel
theorem dX5_look_6 : decode cX5_look 6 = .ok (.istore_n 2, 1) := by decide +kernel
theorem dX5_look_7 : decode cX5_look 7 = .ok (.iload_n 2, 1) := by decide +kernel
theorem dX5_look_8 : decode cX5_look 8 = .ok (.aload_n 0, 1) := by decide +kernel
theorem dX5_look_9 : decode cX5_look 9 = .ok (.getfield 64, 3) := by decide +kernel
theorem dX5_look_12 : decode cX5_look 12 = .ok (.arraylength, 1) := by decide +kernel
theorem dX5_look_13 : decode cX5_look 13 = .ok (.if_icmp .ge 16, 3) := by decide +kernel
theorem dX5_look_16 : decode cX5_look 16 = .ok (.aload_n 0, 1) := by decide +kernel
theorem dX5_look_17 : decode cX5_look 17 = .ok (.getfield 64, 3) := by decide +kernel
theorem dX5_look_20 : decode cX5_look 20 = .ok (.iload_n 2, 1) := by decide +kernel
theorem dX5_look_21 : decode cX5_look 21 = .ok (.iconst 0, 1) := by decide +kernel
theorem dX5_look_22 : decode cX5_look 22 = .ok (.iastore, 1) := by decide +kernel
theorem dX5_look_23 : decode cX5_look 23 = .ok (.iinc 2 1, 3) := by decide +kernel
theorem dX5_look_26 : decode cX5_look 26 = .ok (.goto (-19), 3) := by decide +kernel
theorem dX5_look_29 : decode cX5_look 29 = .ok (.iconst 0, 1) := by decide +kernel
theorem dX5_look_30 : decode cX5_look 30 = .ok (.istore_n 2, 1) := by decide +kernel
theorem dX5_look_31 : decode cX5_look 31 = .ok (.iload_n 2, 1) := by decide +kernel
theorem dX5_look_32 : decode cX5_look 32 = .ok (.aload_n 0, 1) := by decide +kernel
theorem dX5_look_33 : decode cX5_look 33 = .ok (.getfield 20, 3) := by decide +kernel
theorem dX5_look_36 : decode cX5_look 36 = .ok (.getfield 109, 3) := by decide +kernel
theorem dX5_look_39 : decode cX5_look 39 = .ok (.if_icmp .ge 45, 3) := by decide +kernel
theorem dX5_look_42 : decode cX5_look 42 = .ok (.iconst 0, 1) := by decide +kernel
theorem dX5_look_43 : decode cX5_look 43 = .ok (.istore_n 3, 1) := by decide +kernel
theorem dX5_look_44 : decode cX5_look 44 = .ok (.iload_n 3, 1) := by decide +kernel
theorem dX5_look_45 : decode cX5_look 45 = .ok (.bipush 12, 2) := by decide +kernel
theorem dX5_look_47 : decode cX5_look 47 = .ok (.if_icmp .gt 31, 3) := by decide +kernel
theorem dX5_look_50 : decode cX5_look 50 = .ok (.aload_n 0, 1) := by decide +kernel
theorem dX5_look_51 : decode cX5_look 51 = .ok (.getfield 41, 3) := by decide +kernel
theorem dX5_look_54 : decode cX5_look 54 = .ok (.getfield 112, 3) := by decide +kernel
theorem dX5_look_57 : decode cX5_look 57 = .ok (.getfield 173, 3) := by decide +kernel
theorem dX5_look_60 : decode cX5_look 60 = .ok (.iload_n 2, 1) := by decide +kernel
theorem dX5_look_61 : decode cX5_look 61 = .ok (.iaload, 1) := by decide +kernel
theorem dX5_look_62 : decode cX5_look 62 = .ok (.iload_n 3, 1) := by decide +kernel
theorem dX5_look_63 : decode cX5_look 63 = .ok (.if_icmp .eq 9, 3) := by decide +kernel
theorem dX5_look_66 : decode cX5_look 66 = .ok (.aload_n 0, 1) := by decide +kernel
theorem dX5_look_67 : decode cX5_look 67 = .ok (.iload_n 2, 1) := by decide +kernel
theorem dX5_look_68 : decode cX5_look 68 = .ok (.iload_n 3, 1) := by decide +kernel
theorem dX5_look_69 : decode cX5_look 69 = .ok (.invokevirtual 328, 3) := by decide +kernel
theorem dX5_look_72 : decode cX5_look 72 = .ok (.iinc 3 1, 3) := by decide +kernel
theorem dX5_look_75 : decode cX5_look 75 = .ok (.goto (-31), 3) := by decide +kernel
theorem dX5_look_78 : decode cX5_look 78 = .ok (.iinc 2 1, 3) := by decide +kernel
theorem dX5_look_81 : decode cX5_look 81 = .ok (.goto (-50), 3) := by decide +kernel
theorem dX5_look_84 : decode cX5_look 84 = .ok (.iconst 0, 1) := by decide +kernel
theorem dX5_look_85 : decode cX5_look 85 = .ok (.istore_n 2, 1) := by decide +kernel
theorem dX5_look_86 : decode cX5_look 86 = .ok (.iconst 1, 1) := by decide +kernel
theorem dX5_look_87 : decode cX5_look 87 = .ok (.istore_n 3, 1) := by decide +kernel
theorem dX5_look_88 : decode cX5_look 88 = .ok (.iload_n 3, 1) := by decide +kernel
theorem dX5_look_89 : decode cX5_look 89 = .ok (.aload_n 0, 1) := by decide +kernel
theorem dX5_look_90 : decode cX5_look 90 = .ok (.getfield 64, 3) := by decide +kernel
theorem dX5_look_93 : decode cX5_look 93 = .ok (.arraylength, 1) := by decide +kernel
theorem dX5_look_94 : decode cX5_look 94 = .ok (.if_icmp .ge 32, 3) := by decide +kernel
theorem dX5_look_97 : decode cX5_look 97 = .ok (.aload_n 0, 1) := by decide +kernel
theorem dX5_look_98 : decode cX5_look 98 = .ok (.getfield 64, 3) := by decide +kernel
theorem dX5_look_101 : decode cX5_look 101 = .ok (.iload_n 3, 1) := by decide +kernel
theorem dX5_look_102 : decode cX5_look 102 = .ok (.iaload, 1) := by decide +kernel
theorem dX5_look_103 : decode cX5_look 103 = .ok (.invokestatic 302, 3) := by decide +kernel
theorem dX5_look_106 : decode cX5_look 106 = .ok (.aload_n 0, 1) := by decide +kernel
theorem dX5_look_107 : decode cX5_look 107 = .ok (.getfield 64, 3) := by decide +kernel
theorem dX5_look_110 : decode cX5_look 110 = .ok (.iload_n 2, 1) := by decide +kernel
theorem dX5_look_111 : decode cX5_look 111 = .ok (.iaload, 1) := by decide +kernel
theorem dX5_look_112 : decode cX5_look 112 = .ok (.invokestatic 302, 3) := by decide +kernel
theorem dX5_look_115 : decode cX5_look 115 = .ok (.if_icmp .le 5, 3) := by decide +kernel
theorem dX5_look_118 : decode cX5_look 118 = .ok (.iload_n 3, 1) := by decide +kernel
theorem dX5_look_119 : decode cX5_look 119 = .ok (.istore_n 2, 1) := by decide +kernel
theorem dX5_look_120 : decode cX5_look 120 = .ok (.iinc 3 1, 3) := by decide +kernel
theorem dX5_look_123 : decode cX5_look 123 = .ok (.goto (-35), 3) := by decide +kernel
theorem dX5_look_126 : decode cX5_look 126 = .ok (.aload_n 0, 1) := by decide +kernel
theorem dX5_look_127 : decode cX5_look 127 = .ok (.getfield 64, 3) := by decide +kernel
theorem dX5_look_130 : decode cX5_look 130 = .ok (.iload_n 2, 1) := by decide +kernel
theorem dX5_look_131 : decode cX5_look 131 = .ok (.iaload, 1) := by decide +kernel
theorem dX5_look_132 : decode cX5_look 132 = .ok (.invokestatic 302, 3) := by decide +kernel
theorem dX5_look_135 : decode cX5_look 135 = .ok (.istore_n 3, 1) := by decide +kernel
theorem dX5_look_136 : decode cX5_look 136 = .ok (.iload_n 1, 1) := by decide +kernel
theorem dX5_look_137 : decode cX5_look 137 = .ok (.iconst 1, 1) := by decide +kernel
theorem dX5_look_138 : decode cX5_look 138 = .ok (.if_icmp .ne 5, 3) := by decide +kernel
theorem dX5_look_141 : decode cX5_look 141 = .ok (.iload_n 3, 1) := by decide +kernel
theorem dX5_look_142 : decode cX5_look 142 = .ok (.ireturn, 1) := by decide +kernel
theorem dX5_look_143 : decode cX5_look 143 = .ok (.iload_n 3, 1) := by decide +kernel
theorem dX5_look_144 : decode cX5_look 144 = .ok (.ifCond .ne 7, 3) := by decide +kernel
theorem dX5_look_147 : decode cX5_look 147 = .ok (.iconst (-1), 1) := by decide +kernel
theorem dX5_look_148 : decode cX5_look 148 = .ok (.goto 6, 3) := by decide +kernel
theorem dX5_look_151 : decode cX5_look 151 = .ok (.iload_n 2, 1) := by decide +kernel
theorem dX5_look_152 : decode cX5_look 152 = .ok (.iconst 1, 1) := by decide +kernel
theorem dX5_look_153 : decode cX5_look 153 = .ok (.iadd, 1) := by decide +kernel
theorem dX5_look_154 : decode cX5_look 154 = .ok (.ireturn, 1) := by decide +kernel
theorem dX5_noteIfAsRead_0 : decode cX5_noteIfAsRead 0 = .ok (.aload_n 0, 1) := by decide +kernel
theorem dX5_noteIfAsRead_1 : decode cX5_noteIfAsRead 1 = .ok (.invokevirtual 248, 3) := by decide +kernel
theorem dX5_noteIfAsRead_4 : decode cX5_noteIfAsRead 4 = .ok (.aload_n 0, 1) := by decide +kernel
theorem dX5_noteIfAsRead_5 : decode cX5_noteIfAsRead 5 = .ok (.getfield 51, 3) := by decide +kernel
theorem dX5_noteIfAsRead_8 : decode cX5_noteIfAsRead 8 = .ok (.getfield 173, 3) := by decide +kernel
theorem dX5_noteIfAsRead_11 : decode cX5_noteIfAsRead 11 = .ok (.iload_n 1, 1) := by decide +kernel
theorem dX5_noteIfAsRead_12 : decode cX5_noteIfAsRead 12 = .ok (.iload_n 2, 1) := by decide +kernel
theorem dX5_noteIfAsRead_13 : decode cX5_noteIfAsRead 13 = .ok (.iastore, 1) := by decide +kernel
theorem dX5_noteIfAsRead_14 : decode cX5_noteIfAsRead 14 = .ok (.iconst 0, 1) := by decide +kernel
theorem dX5_noteIfAsRead_15 : decode cX5_noteIfAsRead 15 = .ok (.istore_n 3, 1) := by decide +kernel
theorem dX5_noteIfAsRead_16 : decode cX5_noteIfAsRead 16 = .ok (.iload_n 3, 1) := by decide +kernel
theorem dX5_noteIfAsRead_17 : decode cX5_noteIfAsRead 17 = .ok (.aload_n 0, 1) := by decide +kernel
theorem dX5_noteIfAsRead_18 : decode cX5_noteIfAsRead 18 = .ok (.getfield 61, 3) := by decide +kernel
theorem dX5_noteIfAsRead_21 : decode cX5_noteIfAsRead 21 = .ok (.arraylength, 1) := by decide +kernel
theorem dX5_noteIfAsRead_22 : decode cX5_noteIfAsRead 22 = .ok (.if_icmp .ge 58, 3) := by decide +kernel
theorem dX5_noteIfAsRead_25 : decode cX5_noteIfAsRead 25 = .ok (.aload_n 0, 1) := by decide +kernel
theorem dX5_noteIfAsRead_26 : decode cX5_noteIfAsRead 26 = .ok (.getfield 51, 3) := by decide +kernel
theorem dX5_noteIfAsRead_29 : decode cX5_noteIfAsRead 29 = .ok (.aload_n 0, 1) := by decide +kernel
theorem dX5_noteIfAsRead_30 : decode cX5_noteIfAsRead 30 = .ok (.getfield 20, 3) := by decide +kernel
theorem dX5_noteIfAsRead_33 : decode cX5_noteIfAsRead 33 = .ok (.aload_n 0, 1) := by decide +kernel
theorem dX5_noteIfAsRead_34 : decode cX5_noteIfAsRead 34 = .ok (.getfield 34, 3) := by decide +kernel
theorem dX5_noteIfAsRead_37 : decode cX5_noteIfAsRead 37 = .ok (.invokevirtual 234, 3) := by decide +kernel
theorem dX5_noteIfAsRead_40 : decode cX5_noteIfAsRead 40 = .ok (.aload_n 0, 1) := by decide +kernel
theorem dX5_noteIfAsRead_41 : decode cX5_noteIfAsRead 41 = .ok (.getfield 61, 3) := by decide +kernel
theorem dX5_noteIfAsRead_44 : decode cX5_noteIfAsRead 44 = .ok (.iload_n 3, 1) := by decide +kernel
theorem dX5_noteIfAsRead_45 : decode cX5_noteIfAsRead 45 = .ok (.aload_n 0, 1) := by decide +kernel
theorem dX5_noteIfAsRead_46 : decode cX5_noteIfAsRead 46 = .ok (.getfield 51, 3) := by decide +kernel
theorem dX5_noteIfAsRead_49 : decode cX5_noteIfAsRead 49 = .ok (.getfield 121, 3) := by decide +kernel
theorem dX5_noteIfAsRead_52 : decode cX5_noteIfAsRead 52 = .ok (.iastore, 1) := by decide +kernel
theorem dX5_noteIfAsRead_53 : decode cX5_noteIfAsRead 53 = .ok (.aload_n 0, 1) := by decide +kernel
theorem dX5_noteIfAsRead_54 : decode cX5_noteIfAsRead 54 = .ok (.getfield 41, 3) := by decide +kernel
theorem dX5_noteIfAsRead_57 : decode cX5_noteIfAsRead 57 = .ok (.iload_n 3, 1) := by decide +kernel
theorem dX5_noteIfAsRead_58 : decode cX5_noteIfAsRead 58 = .ok (.iconst 1, 1) := by decide +kernel
theorem dX5_noteIfAsRead_59 : decode cX5_noteIfAsRead 59 = .ok (.iadd, 1) := by decide +kernel
theorem dX5_noteIfAsRead_60 : decode cX5_noteIfAsRead 60 = .ok (.aload_n 0, 1) := by decide +kernel
theorem dX5_noteIfAsRead_61 : decode cX5_noteIfAsRead 61 = .ok (.getfield 51, 3) := by decide +kernel
theorem dX5_noteIfAsRead_64 : decode cX5_noteIfAsRead 64 = .ok (.getfield 121, 3) := by decide +kernel
theorem dX5_noteIfAsRead_67 : decode cX5_noteIfAsRead 67 = .ok (.invokevirtual 325, 3) := by decide +kernel
theorem dX5_noteIfAsRead_70 : decode cX5_noteIfAsRead 70 = .ok (.ifCond .ne 4, 3) := by decide +kernel
theorem dX5_noteIfAsRead_73 : decode cX5_noteIfAsRead 73 = .ok (.return_, 1) := by decide +kernel
theorem dX5_noteIfAsRead_74 : decode cX5_noteIfAsRead 74 = .ok (.iinc 3 1, 3) := by decide +kernel
theorem dX5_noteIfAsRead_77 : decode cX5_noteIfAsRead 77 = .ok (.goto (-61), 3) := by decide +kernel
theorem dX5_noteIfAsRead_80 : decode cX5_noteIfAsRead 80 = .ok (.iconst 0, 1) := by decide +kernel
theorem dX5_noteIfAsRead_81 : decode cX5_noteIfAsRead 81 = .ok (.istore_n 3, 1) := by decide +kernel
theorem dX5_noteIfAsRead_82 : decode cX5_noteIfAsRead 82 = .ok (.iload_n 3, 1) := by decide +kernel
theorem dX5_noteIfAsRead_83 : decode cX5_noteIfAsRead 83 = .ok (.aload_n 0, 1) := by decide +kernel
theorem dX5_noteIfAsRead_84 : decode cX5_noteIfAsRead 84 = .ok (.getfield 61, 3) := by decide +kernel
theorem dX5_noteIfAsRead_87 : decode cX5_noteIfAsRead 87 = .ok (.arraylength, 1) := by decide +kernel
theorem dX5_noteIfAsRead_88 : decode cX5_noteIfAsRead 88 = .ok (.if_icmp .ge 26, 3) := by decide +kernel
theorem dX5_noteIfAsRead_91 : decode cX5_noteIfAsRead 91 = .ok (.aload_n 0, 1) := by decide +kernel
theorem dX5_noteIfAsRead_92 : decode cX5_noteIfAsRead 92 = .ok (.getfield 64, 3) := by decide +kernel
theorem dX5_noteIfAsRead_95 : decode cX5_noteIfAsRead 95 = .ok (.iload_n 3, 1) := by decide +kernel
theorem dX5_noteIfAsRead_96 : decode cX5_noteIfAsRead 96 = .ok (.dup2, 1) := by decide +kernel
theorem dX5_noteIfAsRead_97 : decode cX5_noteIfAsRead 97 = .ok (.iaload, 1) := by decide +kernel
theorem dX5_noteIfAsRead_98 : decode cX5_noteIfAsRead 98 = .ok (.iconst 1, 1) := by decide +kernel
theorem dX5_noteIfAsRead_99 : decode cX5_noteIfAsRead 99 = .ok (.aload_n 0, 1) := by decide +kernel
theorem dX5_noteIfAsRead_100 : decode cX5_noteIfAsRead 100 = .ok (.getfield 61, 3) := by decide +kernel
theorem dX5_noteIfAsRead_103 : decode cX5_noteIfAsRead 103 = .ok (.iload_n 3, 1) := by decide +kernel
theorem dX5_noteIfAsRead_104 : decode cX5_noteIfAsRead 104 = .ok (.iaload, 1) := by decide +kernel
theorem dX5_noteIfAsRead_105 : decode cX5_noteIfAsRead 105 = .ok (.ishl, 1) := by decide +kernel
theorem dX5_noteIfAsRead_106 : decode cX5_noteIfAsRead 106 = .ok (.ior, 1) := by decide +kernel
theorem dX5_noteIfAsRead_107 : decode cX5_noteIfAsRead 107 = .ok (.iastore, 1) := by decide +kernel
theorem dX5_noteIfAsRead_108 : decode cX5_noteIfAsRead 108 = .ok (.iinc 3 1, 3) := by decide +kernel
theorem dX5_noteIfAsRead_111 : decode cX5_noteIfAsRead 111 = .ok (.goto (-29), 3) := by decide +kernel
theorem dX5_noteIfAsRead_114 : decode cX5_noteIfAsRead 114 = .ok (.return_, 1) := by decide +kernel
theorem dX5_game_0 : decode cX5_game 0 = .ok (.aload_n 0, 1) := by decide +kernel
theorem dX5_game_1 : decode cX5_game 1 = .ok (.iload_n 1, 1) := by decide +kernel
theorem dX5_game_2 : decode cX5_game 2 = .ok (.invokevirtual 167, 3) := by decide +kernel
theorem dX5_game_5 : decode cX5_game 5 = .ok (.aload_n 0, 1) := by decide +kernel
theorem dX5_game_6 : decode cX5_game 6 = .ok (.iload_n 2, 1) := by decide +kernel
theorem dX5_game_7 : decode cX5_game 7 = .ok (.invokevirtual 167, 3) := by decide +kernel
theorem dX5_game_10 : decode cX5_game 10 = .ok (.iload_n 3, 1) := by decide +kernel
theorem dX5_game_11 : decode cX5_game 11 = .ok (.iconst 1, 1) := by decide +kernel
theorem dX5_game_12 : decode cX5_game 12 = .ok (.invokestatic 251, 3) := by decide +kernel
theorem dX5_game_15 : decode cX5_game 15 = .ok (.iload_n 1, 1) := by decide +kernel
theorem dX5_game_16 : decode cX5_game 16 = .ok (.iload_n 2, 1) := by decide +kernel
theorem dX5_game_17 : decode cX5_game 17 = .ok (.if_icmp .ne 14, 3) := by decide +kernel
theorem dX5_game_20 : decode cX5_game 20 = .ok (.new 77, 3) := by decide +kernel
theorem dX5_game_23 : decode cX5_game 23 = .ok (.dup, 1) := by decide +kernel
theorem dX5_game_24 : decode cX5_game 24 = .ok (.ldc_w 331, 3) := by decide +kernel
theorem dX5_game_27 : decode cX5_game 27 = .ok (.invokespecial 81, 3) := by decide +kernel
theorem dX5_game_30 : decode cX5_game 30 = .ok (.athrow, 1) := by decide +kernel
theorem dX5_game_31 : decode cX5_game 31 = .ok (.iconst 0, 1) := by decide +kernel
theorem dX5_game_32 : decode cX5_game 32 = .ok (.istore 4, 2) := by decide +kernel
theorem dX5_game_34 : decode cX5_game 34 = .ok (.iload 4, 2) := by decide +kernel
theorem dX5_game_36 : decode cX5_game 36 = .ok (.aload_n 0, 1) := by decide +kernel
theorem dX5_game_37 : decode cX5_game 37 = .ok (.getfield 67, 3) := by decide +kernel
theorem dX5_game_40 : decode cX5_game 40 = .ok (.arraylength, 1) := by decide +kernel
theorem dX5_game_41 : decode cX5_game 41 = .ok (.if_icmp .ge 33, 3) := by decide +kernel
theorem dX5_game_44 : decode cX5_game 44 = .ok (.aload_n 0, 1) := by decide +kernel
theorem dX5_game_45 : decode cX5_game 45 = .ok (.getfield 67, 3) := by decide +kernel
theorem dX5_game_48 : decode cX5_game 48 = .ok (.iload 4, 2) := by decide +kernel
theorem dX5_game_50 : decode cX5_game 50 = .ok (.aload_n 0, 1) := by decide +kernel
theorem dX5_game_51 : decode cX5_game 51 = .ok (.iload 4, 2) := by decide +kernel
theorem dX5_game_53 : decode cX5_game 53 = .ok (.iconst 1, 1) := by decide +kernel
theorem dX5_game_54 : decode cX5_game 54 = .ok (.ishr, 1) := by decide +kernel
theorem dX5_game_55 : decode cX5_game 55 = .ok (.iload_n 1, 1) := by decide +kernel
theorem dX5_game_56 : decode cX5_game 56 = .ok (.ishl, 1) := by decide +kernel
theorem dX5_game_57 : decode cX5_game 57 = .ok (.iload 4, 2) := by decide +kernel
theorem dX5_game_59 : decode cX5_game 59 = .ok (.iconst 1, 1) := by decide +kernel
theorem dX5_game_60 : decode cX5_game 60 = .ok (.iand, 1) := by decide +kernel
theorem dX5_game_61 : decode cX5_game 61 = .ok (.iload_n 2, 1) := by decide +kernel
theorem dX5_game_62 : decode cX5_game 62 = .ok (.ishl, 1) := by decide +kernel
theorem dX5_game_63 : decode cX5_game 63 = .ok (.ior, 1) := by decide +kernel
theorem dX5_game_64 : decode cX5_game 64 = .ok (.invokevirtual 299, 3) := by decide +kernel
theorem dX5_game_67 : decode cX5_game 67 = .ok (.iastore, 1) := by decide +kernel
theorem dX5_game_68 : decode cX5_game 68 = .ok (.iinc 4 1, 3) := by decide +kernel
theorem dX5_game_71 : decode cX5_game 71 = .ok (.goto (-37), 3) := by decide +kernel
theorem dX5_game_74 : decode cX5_game 74 = .ok (.iconst 0, 1) := by decide +kernel
theorem dX5_game_75 : decode cX5_game 75 = .ok (.istore 4, 2) := by decide +kernel
theorem dX5_game_77 : decode cX5_game 77 = .ok (.iconst 0, 1) := by decide +kernel
theorem dX5_game_78 : decode cX5_game 78 = .ok (.istore 5, 2) := by decide +kernel
theorem dX5_game_80 : decode cX5_game 80 = .ok (.iload 5, 2) := by decide +kernel
theorem dX5_game_82 : decode cX5_game 82 = .ok (.aload_n 0, 1) := by decide +kernel
theorem dX5_game_83 : decode cX5_game 83 = .ok (.getfield 67, 3) := by decide +kernel
theorem dX5_game_86 : decode cX5_game 86 = .ok (.arraylength, 1) := by decide +kernel
theorem dX5_game_87 : decode cX5_game 87 = .ok (.if_icmp .ge 57, 3) := by decide +kernel
theorem dX5_game_90 : decode cX5_game 90 = .ok (.aload_n 0, 1) := by decide +kernel
theorem dX5_game_91 : decode cX5_game 91 = .ok (.iload 5, 2) := by decide +kernel
theorem dX5_game_93 : decode cX5_game 93 = .ok (.aload_n 0, 1) := by decide +kernel
theorem dX5_game_94 : decode cX5_game 94 = .ok (.getfield 20, 3) := by decide +kernel
theorem dX5_game_97 : decode cX5_game 97 = .ok (.getfield 176, 3) := by decide +kernel
theorem dX5_game_100 : decode cX5_game 100 = .ok (.iload_n 1, 1) := by decide +kernel
theorem dX5_game_101 : decode cX5_game 101 = .ok (.iaload, 1) := by decide +kernel
theorem dX5_game_102 : decode cX5_game 102 = .ok (.aload_n 0, 1) := by decide +kernel
theorem dX5_game_103 : decode cX5_game 103 = .ok (.getfield 20, 3) := by decide +kernel
theorem dX5_game_106 : decode cX5_game 106 = .ok (.getfield 176, 3) := by decide +kernel
theorem dX5_game_109 : decode cX5_game 109 = .ok (.iload_n 2, 1) := by decide +kernel
theorem dX5_game_110 : decode cX5_game 110 = .ok (.iaload, 1) := by decide +kernel
theorem dX5_game_111 : decode cX5_game 111 = .ok (.invokevirtual 333, 3) := by decide +kernel
theorem dX5_game_114 : decode cX5_game 114 = .ok (.ifCond .eq 24, 3) := by decide +kernel
theorem dX5_game_117 : decode cX5_game 117 = .ok (.iload_n 3, 1) := by decide +kernel
theorem dX5_game_118 : decode cX5_game 118 = .ok (.iconst 1, 1) := by decide +kernel
theorem dX5_game_119 : decode cX5_game 119 = .ok (.if_icmp .ne 16, 3) := by decide +kernel
theorem dX5_game_122 : decode cX5_game 122 = .ok (.bipush 10, 2) := by decide +kernel
theorem dX5_game_124 : decode cX5_game 124 = .ok (.iload 5, 2) := by decide +kernel
theorem dX5_game_126 : decode cX5_game 126 = .ok (.iconst 1, 1) := by decide +kernel
theorem dX5_game_127 : decode cX5_game 127 = .ok (.ishr, 1) := by decide +kernel
theorem dX5_game_128 : decode cX5_game 128 = .ok (.imul, 1) := by decide +kernel
theorem dX5_game_129 : decode cX5_game 129 = .ok (.iload 5, 2) := by decide +kernel
theorem dX5_game_131 : decode cX5_game 131 = .ok (.iconst 1, 1) := by decide +kernel
theorem dX5_game_132 : decode cX5_game 132 = .ok (.iand, 1) := by decide +kernel
theorem dX5_game_133 : decode cX5_game 133 = .ok (.iadd, 1) := by decide +kernel
theorem dX5_game_134 : decode cX5_game 134 = .ok (.ireturn, 1) := by decide +kernel
theorem dX5_game_135 : decode cX5_game 135 = .ok (.iinc 4 1, 3) := by decide +kernel
theorem dX5_game_138 : decode cX5_game 138 = .ok (.iinc 5 1, 3) := by decide +kernel
theorem dX5_game_141 : decode cX5_game 141 = .ok (.goto (-61), 3) := by decide +kernel
theorem dX5_game_144 : decode cX5_game 144 = .ok (.iload_n 3, 1) := by decide +kernel
theorem dX5_game_145 : decode cX5_game 145 = .ok (.ifCond .ne 8, 3) := by decide +kernel
theorem dX5_game_148 : decode cX5_game 148 = .ok (.iload 4, 2) := by decide +kernel
theorem dX5_game_150 : decode cX5_game 150 = .ok (.goto 4, 3) := by decide +kernel
theorem dX5_game_153 : decode cX5_game 153 = .ok (.iconst (-1), 1) := by decide +kernel
theorem dX5_game_154 : decode cX5_game 154 = .ok (.ireturn, 1) := by decide +kernel
theorem dX5_rests_0 : decode cX5_rests 0 = .ok (.aload_n 0, 1) := by decide +kernel
theorem dX5_rests_1 : decode cX5_rests 1 = .ok (.iload_n 1, 1) := by decide +kernel
theorem dX5_rests_2 : decode cX5_rests 2 = .ok (.iload_n 2, 1) := by decide +kernel
theorem dX5_rests_3 : decode cX5_rests 3 = .ok (.iload_n 1, 1) := by decide +kernel
theorem dX5_rests_4 : decode cX5_rests 4 = .ok (.iconst 1, 1) := by decide +kernel
theorem dX5_rests_5 : decode cX5_rests 5 = .ok (.ishr, 1) := by decide +kernel
theorem dX5_rests_6 : decode cX5_rests 6 = .ok (.invokevirtual 337, 3) := by decide +kernel
theorem dX5_rests_9 : decode cX5_rests 9 = .ok (.aload_n 0, 1) := by decide +kernel
theorem dX5_rests_10 : decode cX5_rests 10 = .ok (.iload_n 1, 1) := by decide +kernel
theorem dX5_rests_11 : decode cX5_rests 11 = .ok (.iconst 2, 1) := by decide +kernel
theorem dX5_rests_12 : decode cX5_rests 12 = .ok (.ixor, 1) := by decide +kernel
theorem dX5_rests_13 : decode cX5_rests 13 = .ok (.iload_n 2, 1) := by decide +kernel
theorem dX5_rests_14 : decode cX5_rests 14 = .ok (.iload_n 1, 1) := by decide +kernel
theorem dX5_rests_15 : decode cX5_rests 15 = .ok (.iconst 1, 1) := by decide +kernel
theorem dX5_rests_16 : decode cX5_rests 16 = .ok (.ishr, 1) := by decide +kernel
theorem dX5_rests_17 : decode cX5_rests 17 = .ok (.iconst 1, 1) := by decide +kernel
theorem dX5_rests_18 : decode cX5_rests 18 = .ok (.ixor, 1) := by decide +kernel
theorem dX5_rests_19 : decode cX5_rests 19 = .ok (.invokevirtual 337, 3) := by decide +kernel
theorem dX5_rests_22 : decode cX5_rests 22 = .ok (.if_icmp .lt 32, 3) := by decide +kernel
theorem dX5_rests_25 : decode cX5_rests 25 = .ok (.aload_n 0, 1) := by decide +kernel
theorem dX5_rests_26 : decode cX5_rests 26 = .ok (.iload_n 1, 1) := by decide +kernel
theorem dX5_rests_27 : decode cX5_rests 27 = .ok (.iload_n 3, 1) := by decide +kernel
theorem dX5_rests_28 : decode cX5_rests 28 = .ok (.iload_n 1, 1) := by decide +kernel
theorem dX5_rests_29 : decode cX5_rests 29 = .ok (.iconst 1, 1) := by decide +kernel
theorem dX5_rests_30 : decode cX5_rests 30 = .ok (.iand, 1) := by decide +kernel
theorem dX5_rests_31 : decode cX5_rests 31 = .ok (.invokevirtual 337, 3) := by decide +kernel
theorem dX5_rests_34 : decode cX5_rests 34 = .ok (.aload_n 0, 1) := by decide +kernel
theorem dX5_rests_35 : decode cX5_rests 35 = .ok (.iload_n 1, 1) := by decide +kernel
theorem dX5_rests_36 : decode cX5_rests 36 = .ok (.iconst 1, 1) := by decide +kernel
theorem dX5_rests_37 : decode cX5_rests 37 = .ok (.ixor, 1) := by decide +kernel
theorem dX5_rests_38 : decode cX5_rests 38 = .ok (.iload_n 3, 1) := by decide +kernel
theorem dX5_rests_39 : decode cX5_rests 39 = .ok (.iload_n 1, 1) := by decide +kernel
theorem dX5_rests_40 : decode cX5_rests 40 = .ok (.iconst 1, 1) := by decide +kernel
theorem dX5_rests_41 : decode cX5_rests 41 = .ok (.iand, 1) := by decide +kernel
theorem dX5_rests_42 : decode cX5_rests 42 = .ok (.iconst 1, 1) := by decide +kernel
theorem dX5_rests_43 : decode cX5_rests 43 = .ok (.ixor, 1) := by decide +kernel
theorem dX5_rests_44 : decode cX5_rests 44 = .ok (.invokevirtual 337, 3) := by decide +kernel
theorem dX5_rests_47 : decode cX5_rests 47 = .ok (.if_icmp .lt 7, 3) := by decide +kernel
theorem dX5_rests_50 : decode cX5_rests 50 = .ok (.iconst 1, 1) := by decide +kernel
theorem dX5_rests_51 : decode cX5_rests 51 = .ok (.goto 4, 3) := by decide +kernel
theorem dX5_rests_54 : decode cX5_rests 54 = .ok (.iconst 0, 1) := by decide +kernel
theorem dX5_rests_55 : decode cX5_rests 55 = .ok (.ireturn, 1) := by decide +kernel
theorem dX5_gain_0 : decode cX5_gain 0 = .ok (.iload_n 1, 1) := by decide +kernel
theorem dX5_gain_1 : decode cX5_gain 1 = .ok (.ifCond .lt 16, 3) := by decide +kernel
theorem dX5_gain_4 : decode cX5_gain 4 = .ok (.iload_n 1, 1) := by decide +kernel
theorem dX5_gain_5 : decode cX5_gain 5 = .ok (.aload_n 0, 1) := by decide +kernel
theorem dX5_gain_6 : decode cX5_gain 6 = .ok (.getfield 67, 3) := by decide +kernel
theorem dX5_gain_9 : decode cX5_gain 9 = .ok (.arraylength, 1) := by decide +kernel
theorem dX5_gain_10 : decode cX5_gain 10 = .ok (.if_icmp .ge 7, 3) := by decide +kernel
theorem dX5_gain_13 : decode cX5_gain 13 = .ok (.iconst 1, 1) := by decide +kernel
theorem dX5_gain_14 : decode cX5_gain 14 = .ok (.goto 4, 3) := by decide +kernel
theorem dX5_gain_17 : decode cX5_gain 17 = .ok (.iconst 0, 1) := by decide +kernel
theorem dX5_gain_18 : decode cX5_gain 18 = .ok (.istore 4, 2) := by decide +kernel
theorem dX5_gain_20 : decode cX5_gain 20 = .ok (.iload 4, 2) := by decide +kernel
theorem dX5_gain_22 : decode cX5_gain 22 = .ok (.ifCond .eq 17, 3) := by decide +kernel
theorem dX5_gain_25 : decode cX5_gain 25 = .ok (.aload_n 0, 1) := by decide +kernel
theorem dX5_gain_26 : decode cX5_gain 26 = .ok (.getfield 67, 3) := by decide +kernel
theorem dX5_gain_29 : decode cX5_gain 29 = .ok (.iload_n 1, 1) := by decide +kernel
theorem dX5_gain_30 : decode cX5_gain 30 = .ok (.iaload, 1) := by decide +kernel
theorem dX5_gain_31 : decode cX5_gain 31 = .ok (.iload_n 2, 1) := by decide +kernel
theorem dX5_gain_32 : decode cX5_gain 32 = .ok (.if_icmp .ne 7, 3) := by decide +kernel
theorem dX5_gain_35 : decode cX5_gain 35 = .ok (.iconst 5, 1) := by decide +kernel
theorem dX5_gain_36 : decode cX5_gain 36 = .ok (.goto 4, 3) := by decide +kernel
theorem dX5_gain_39 : decode cX5_gain 39 = .ok (.iconst 0, 1) := by decide +kernel
theorem dX5_gain_40 : decode cX5_gain 40 = .ok (.iload_n 3, 1) := by decide +kernel
theorem dX5_gain_41 : decode cX5_gain 41 = .ok (.isub, 1) := by decide +kernel
theorem dX5_gain_42 : decode cX5_gain 42 = .ok (.ireturn, 1) := by decide +kernel
theorem dX5_years_0 : decode cX5_years 0 = .ok (.iload_n 3, 1) := by decide +kernel
theorem dX5_years_1 : decode cX5_years 1 = .ok (.iconst 2, 1) := by decide +kernel
theorem dX5_years_2 : decode cX5_years 2 = .ok (.invokestatic 251, 3) := by decide +kernel
theorem dX5_years_5 : decode cX5_years 5 = .ok (.iload_n 2, 1) := by decide +kernel
theorem dX5_years_6 : decode cX5_years 6 = .ok (.iconst 0, 1) := by decide +kernel
theorem dX5_years_7 : decode cX5_years 7 = .ok (.bipush 60, 2) := by decide +kernel
theorem dX5_years_9 : decode cX5_years 9 = .ok (.invokestatic 208, 3) := by decide +kernel
theorem dX5_years_12 : decode cX5_years 12 = .ok (.aload_n 0, 1) := by decide +kernel
theorem dX5_years_13 : decode cX5_years 13 = .ok (.iload_n 1, 1) := by decide +kernel
theorem dX5_years_14 : decode cX5_years 14 = .ok (.putfield 340, 3) := by decide +kernel
theorem dX5_years_17 : decode cX5_years 17 = .ok (.aload_n 0, 1) := by decide +kernel
theorem dX5_years_18 : decode cX5_years 18 = .ok (.invokevirtual 271, 3) := by decide +kernel
theorem dX5_years_21 : decode cX5_years 21 = .ok (.aload_n 0, 1) := by decide +kernel
theorem dX5_years_22 : decode cX5_years 22 = .ok (.invokevirtual 248, 3) := by decide +kernel
theorem dX5_years_25 : decode cX5_years 25 = .ok (.iconst 0, 1) := by decide +kernel
theorem dX5_years_26 : decode cX5_years 26 = .ok (.istore 4, 2) := by decide +kernel
theorem dX5_years_28 : decode cX5_years 28 = .ok (.iconst 0, 1) := by decide +kernel
theorem dX5_years_29 : decode cX5_years 29 = .ok (.istore 5, 2) := by decide +kernel
theorem dX5_years_31 : decode cX5_years 31 = .ok (.iload 5, 2) := by decide +kernel
theorem dX5_years_33 : decode cX5_years 33 = .ok (.iload_n 2, 1) := by decide +kernel
theorem dX5_years_34 : decode cX5_years 34 = .ok (.if_icmp .ge 59, 3) := by decide +kernel
theorem dX5_years_37 : decode cX5_years 37 = .ok (.aload_n 0, 1) := by decide +kernel
theorem dX5_years_38 : decode cX5_years 38 = .ok (.invokevirtual 343, 3) := by decide +kernel
theorem dX5_years_41 : decode cX5_years 41 = .ok (.aload_n 0, 1) := by decide +kernel
theorem dX5_years_42 : decode cX5_years 42 = .ok (.invokevirtual 264, 3) := by decide +kernel
theorem dX5_years_45 : decode cX5_years 45 = .ok (.istore 6, 2) := by decide +kernel
theorem dX5_years_47 : decode cX5_years 47 = .ok (.iload 6, 2) := by decide +kernel
theorem dX5_years_49 : decode cX5_years 49 = .ok (.ifCond .lt 24, 3) := by decide +kernel
theorem dX5_years_52 : decode cX5_years 52 = .ok (.iload 6, 2) := by decide +kernel
theorem dX5_years_54 : decode cX5_years 54 = .ok (.aload_n 0, 1) := by decide +kernel
theorem dX5_years_55 : decode cX5_years 55 = .ok (.getfield 55, 3) := by decide +kernel
theorem dX5_years_58 : decode cX5_years 58 = .ok (.arraylength, 1) := by decide +kernel
theorem dX5_years_59 : decode cX5_years 59 = .ok (.if_icmp .ge 14, 3) := by decide +kernel
theorem dX5_years_62 : decode cX5_years 62 = .ok (.aload_n 0, 1) := by decide +kernel
theorem dX5_years_63 : decode cX5_years 63 = .ok (.getfield 55, 3) := by decide +kernel
theorem dX5_years_66 : decode cX5_years 66 = .ok (.iload 6, 2) := by decide +kernel
theorem dX5_years_68 : decode cX5_years 68 = .ok (.dup2, 1) := by decide +kernel
theorem dX5_years_69 : decode cX5_years 69 = .ok (.iaload, 1) := by decide +kernel
theorem dX5_years_70 : decode cX5_years 70 = .ok (.iconst 1, 1) := by decide +kernel
theorem dX5_years_71 : decode cX5_years 71 = .ok (.iadd, 1) := by decide +kernel
theorem dX5_years_72 : decode cX5_years 72 = .ok (.iastore, 1) := by decide +kernel
theorem dX5_years_73 : decode cX5_years 73 = .ok (.iload 4, 2) := by decide +kernel
theorem dX5_years_75 : decode cX5_years 75 = .ok (.aload_n 0, 1) := by decide +kernel
theorem dX5_years_76 : decode cX5_years 76 = .ok (.iload 6, 2) := by decide +kernel
theorem dX5_years_78 : decode cX5_years 78 = .ok (.invokevirtual 187, 3) := by decide +kernel
theorem dX5_years_81 : decode cX5_years 81 = .ok (.invokestatic 302, 3) := by decide +kernel
theorem dX5_years_84 : decode cX5_years 84 = .ok (.iadd, 1) := by decide +kernel
theorem dX5_years_85 : decode cX5_years 85 = .ok (.istore 4, 2) := by decide +kernel
theorem dX5_years_87 : decode cX5_years 87 = .ok (.iinc 5 1, 3) := by decide +kernel
theorem dX5_years_90 : decode cX5_years 90 = .ok (.goto (-59), 3) := by decide +kernel
theorem dX5_years_93 : decode cX5_years 93 = .ok (.iload_n 3, 1) := by decide +kernel
theorem dX5_years_94 : decode cX5_years 94 = .ok (.iconst 2, 1) := by decide +kernel
theorem dX5_years_95 : decode cX5_years 95 = .ok (.if_icmp .ne 6, 3) := by decide +kernel
theorem dX5_years_98 : decode cX5_years 98 = .ok (.iload 4, 2) := by decide +kernel
theorem dX5_years_100 : decode cX5_years 100 = .ok (.ireturn, 1) := by decide +kernel
theorem dX5_years_101 : decode cX5_years 101 = .ok (.aload_n 0, 1) := by decide +kernel
theorem dX5_years_102 : decode cX5_years 102 = .ok (.iconst 5, 1) := by decide +kernel
theorem dX5_years_103 : decode cX5_years 103 = .ok (.invokevirtual 274, 3) := by decide +kernel
theorem dX5_years_106 : decode cX5_years 106 = .ok (.istore 5, 2) := by decide +kernel
theorem dX5_years_108 : decode cX5_years 108 = .ok (.iload_n 3, 1) := by decide +kernel
theorem dX5_years_109 : decode cX5_years 109 = .ok (.ifCond .ne 21, 3) := by decide +kernel
theorem dX5_years_112 : decode cX5_years 112 = .ok (.iload 5, 2) := by decide +kernel
theorem dX5_years_114 : decode cX5_years 114 = .ok (.iconst (-1), 1) := by decide +kernel
theorem dX5_years_115 : decode cX5_years 115 = .ok (.if_icmp .ne 7, 3) := by decide +kernel
theorem dX5_years_118 : decode cX5_years 118 = .ok (.iconst 0, 1) := by decide +kernel
theorem dX5_years_119 : decode cX5_years 119 = .ok (.goto 10, 3) := by decide +kernel
theorem dX5_years_122 : decode cX5_years 122 = .ok (.aload_n 0, 1) := by decide +kernel
theorem dX5_years_123 : decode cX5_years 123 = .ok (.getfield 55, 3) := by decide +kernel
theorem dX5_years_126 : decode cX5_years 126 = .ok (.iload 5, 2) := by decide +kernel
theorem dX5_years_128 : decode cX5_years 128 = .ok (.iaload, 1) := by decide +kernel
theorem dX5_years_129 : decode cX5_years 129 = .ok (.ireturn, 1) := by decide +kernel
theorem dX5_years_130 : decode cX5_years 130 = .ok (.iload_n 2, 1) := by decide +kernel
theorem dX5_years_131 : decode cX5_years 131 = .ok (.ifCond .ne 7, 3) := by decide +kernel
theorem dX5_years_134 : decode cX5_years 134 = .ok (.iconst (-1), 1) := by decide +kernel
theorem dX5_years_135 : decode cX5_years 135 = .ok (.goto 5, 3) := by decide +kernel
theorem dX5_years_138 : decode cX5_years 138 = .ok (.iload 5, 2) := by decide +kernel
theorem dX5_years_140 : decode cX5_years 140 = .ok (.ireturn, 1) := by decide +kernel
theorem dX5_befall_0 : decode cX5_befall 0 = .ok (.aload_n 0, 1) := by decide +kernel
theorem dX5_befall_1 : decode cX5_befall 1 = .ok (.bipush 6, 2) := by decide +kernel
theorem dX5_befall_3 : decode cX5_befall 3 = .ok (.invokevirtual 346, 3) := by decide +kernel
theorem dX5_befall_6 : decode cX5_befall 6 = .ok (.tableswitch 122 0 2 #[26, 66, 106], 26) := by decide +kernel
theorem dX5_befall_32 : decode cX5_befall 32 = .ok (.aload_n 0, 1) := by decide +kernel
theorem dX5_befall_33 : decode cX5_befall 33 = .ok (.getfield 20, 3) := by decide +kernel
theorem dX5_befall_36 : decode cX5_befall 36 = .ok (.getfield 106, 3) := by decide +kernel
theorem dX5_befall_39 : decode cX5_befall 39 = .ok (.ifCond .le 89, 3) := by decide +kernel
theorem dX5_befall_42 : decode cX5_befall 42 = .ok (.aload_n 0, 1) := by decide +kernel
theorem dX5_befall_43 : decode cX5_befall 43 = .ok (.aload_n 0, 1) := by decide +kernel
theorem dX5_befall_44 : decode cX5_befall 44 = .ok (.getfield 20, 3) := by decide +kernel
theorem dX5_befall_47 : decode cX5_befall 47 = .ok (.getfield 106, 3) := by decide +kernel
theorem dX5_befall_50 : decode cX5_befall 50 = .ok (.invokevirtual 346, 3) := by decide +kernel
theorem dX5_befall_53 : decode cX5_befall 53 = .ok (.istore_n 1, 1) := by decide +kernel
theorem dX5_befall_54 : decode cX5_befall 54 = .ok (.aload_n 0, 1) := by decide +kernel
theorem dX5_befall_55 : decode cX5_befall 55 = .ok (.getfield 51, 3) := by decide +kernel
theorem dX5_befall_58 : decode cX5_befall 58 = .ok (.getfield 159, 3) := by decide +kernel
theorem dX5_befall_61 : decode cX5_befall 61 = .ok (.iload_n 1, 1) := by decide +kernel
theorem dX5_befall_62 : decode cX5_befall 62 = .ok (.aload_n 0, 1) := by decide +kernel
theorem dX5_befall_63 : decode cX5_befall 63 = .ok (.bipush 12, 2) := by decide +kernel
theorem dX5_befall_65 : decode cX5_befall 65 = .ok (.invokevirtual 346, 3) := by decide +kernel
theorem dX5_befall_68 : decode cX5_befall 68 = .ok (.iastore, 1) := by decide +kernel
theorem dX5_befall_69 : decode cX5_befall 69 = .ok (.goto 59, 3) := by decide +kernel
theorem dX5_befall_72 : decode cX5_befall 72 = .ok (.aload_n 0, 1) := by decide +kernel
theorem dX5_befall_73 : decode cX5_befall 73 = .ok (.getfield 20, 3) := by decide +kernel
theorem dX5_befall_76 : decode cX5_befall 76 = .ok (.getfield 109, 3) := by decide +kernel
theorem dX5_befall_79 : decode cX5_befall 79 = .ok (.ifCond .le 49, 3) := by decide +kernel
theorem dX5_befall_82 : decode cX5_befall 82 = .ok (.aload_n 0, 1) := by decide +kernel
theorem dX5_befall_83 : decode cX5_befall 83 = .ok (.aload_n 0, 1) := by decide +kernel
theorem dX5_befall_84 : decode cX5_befall 84 = .ok (.getfield 20, 3) := by decide +kernel
theorem dX5_befall_87 : decode cX5_befall 87 = .ok (.getfield 109, 3) := by decide +kernel
theorem dX5_befall_90 : decode cX5_befall 90 = .ok (.invokevirtual 346, 3) := by decide +kernel
theorem dX5_befall_93 : decode cX5_befall 93 = .ok (.istore_n 1, 1) := by decide +kernel
theorem dX5_befall_94 : decode cX5_befall 94 = .ok (.aload_n 0, 1) := by decide +kernel
theorem dX5_befall_95 : decode cX5_befall 95 = .ok (.getfield 51, 3) := by decide +kernel
theorem dX5_befall_98 : decode cX5_befall 98 = .ok (.getfield 173, 3) := by decide +kernel
theorem dX5_befall_101 : decode cX5_befall 101 = .ok (.iload_n 1, 1) := by decide +kernel
theorem dX5_befall_102 : decode cX5_befall 102 = .ok (.aload_n 0, 1) := by decide +kernel
theorem dX5_befall_103 : decode cX5_befall 103 = .ok (.bipush 13, 2) := by decide +kernel
theorem dX5_befall_105 : decode cX5_befall 105 = .ok (.invokevirtual 346, 3) := by decide +kernel
theorem dX5_befall_108 : decode cX5_befall 108 = .ok (.iastore, 1) := by decide +kernel
theorem dX5_befall_109 : decode cX5_befall 109 = .ok (.goto 19, 3) := by decide +kernel
theorem dX5_befall_112 : decode cX5_befall 112 = .ok (.aload_n 0, 1) := by decide +kernel
theorem dX5_befall_113 : decode cX5_befall 113 = .ok (.getfield 51, 3) := by decide +kernel
theorem dX5_befall_116 : decode cX5_befall 116 = .ok (.aload_n 0, 1) := by decide +kernel
theorem dX5_befall_117 : decode cX5_befall 117 = .ok (.bipush 100, 2) := by decide +kernel
theorem dX5_befall_119 : decode cX5_befall 119 = .ok (.invokevirtual 346, 3) := by decide +kernel
theorem dX5_befall_122 : decode cX5_befall 122 = .ok (.putfield 118, 3) := by decide +kernel
theorem dX5_befall_125 : decode cX5_befall 125 = .ok (.goto 3, 3) := by decide +kernel
theorem dX5_befall_128 : decode cX5_befall 128 = .ok (.return_, 1) := by decide +kernel
theorem dX5_draw_0 : decode cX5_draw 0 = .ok (.aload_n 0, 1) := by decide +kernel
theorem dX5_draw_1 : decode cX5_draw 1 = .ok (.aload_n 0, 1) := by decide +kernel
theorem dX5_draw_2 : decode cX5_draw 2 = .ok (.getfield 340, 3) := by decide +kernel
theorem dX5_draw_5 : decode cX5_draw 5 = .ok (.ldc_w 349, 3) := by decide +kernel
theorem dX5_draw_8 : decode cX5_draw 8 = .ok (.imul, 1) := by decide +kernel
theorem dX5_draw_9 : decode cX5_draw 9 = .ok (.sipush 12345, 3) := by decide +kernel
theorem dX5_draw_12 : decode cX5_draw 12 = .ok (.iadd, 1) := by decide +kernel
theorem dX5_draw_13 : decode cX5_draw 13 = .ok (.putfield 340, 3) := by decide +kernel
theorem dX5_draw_16 : decode cX5_draw 16 = .ok (.iload_n 1, 1) := by decide +kernel
theorem dX5_draw_17 : decode cX5_draw 17 = .ok (.iconst 1, 1) := by decide +kernel
theorem dX5_draw_18 : decode cX5_draw 18 = .ok (.if_icmp .ge 7, 3) := by decide +kernel
theorem dX5_draw_21 : decode cX5_draw 21 = .ok (.iconst 0, 1) := by decide +kernel
theorem dX5_draw_22 : decode cX5_draw 22 = .ok (.goto 16, 3) := by decide +kernel
theorem dX5_draw_25 : decode cX5_draw 25 = .ok (.aload_n 0, 1) := by decide +kernel
theorem dX5_draw_26 : decode cX5_draw 26 = .ok (.getfield 340, 3) := by decide +kernel
theorem dX5_draw_29 : decode cX5_draw 29 = .ok (.bipush 16, 2) := by decide +kernel
theorem dX5_draw_31 : decode cX5_draw 31 = .ok (.ishr, 1) := by decide +kernel
theorem dX5_draw_32 : decode cX5_draw 32 = .ok (.sipush 32767, 3) := by decide +kernel
theorem dX5_draw_35 : decode cX5_draw 35 = .ok (.iand, 1) := by decide +kernel
theorem dX5_draw_36 : decode cX5_draw 36 = .ok (.iload_n 1, 1) := by decide +kernel
theorem dX5_draw_37 : decode cX5_draw 37 = .ok (.irem, 1) := by decide +kernel
theorem dX5_draw_38 : decode cX5_draw 38 = .ok (.ireturn, 1) := by decide +kernel
theorem dX5_image_0 : decode cX5_image 0 = .ok (.aload_n 0, 1) := by decide +kernel
theorem dX5_image_1 : decode cX5_image 1 = .ok (.getfield 45, 3) := by decide +kernel
theorem dX5_image_4 : decode cX5_image 4 = .ok (.aload_n 0, 1) := by decide +kernel
theorem dX5_image_5 : decode cX5_image 5 = .ok (.getfield 41, 3) := by decide +kernel
theorem dX5_image_8 : decode cX5_image 8 = .ok (.invokevirtual 350, 3) := by decide +kernel
theorem dX5_image_11 : decode cX5_image 11 = .ok (.aload_n 0, 1) := by decide +kernel
theorem dX5_image_12 : decode cX5_image 12 = .ok (.iconst 1, 1) := by decide +kernel
theorem dX5_image_13 : decode cX5_image 13 = .ok (.putfield 98, 3) := by decide +kernel
theorem dX5_image_16 : decode cX5_image 16 = .ok (.return_, 1) := by decide +kernel
theorem dX5_restore_0 : decode cX5_restore 0 = .ok (.aload_n 0, 1) := by decide +kernel
theorem dX5_restore_1 : decode cX5_restore 1 = .ok (.getfield 98, 3) := by decide +kernel
theorem dX5_restore_4 : decode cX5_restore 4 = .ok (.ifCond .ne 5, 3) := by decide +kernel
theorem dX5_restore_7 : decode cX5_restore 7 = .ok (.iconst 0, 1) := by decide +kernel
theorem dX5_restore_8 : decode cX5_restore 8 = .ok (.ireturn, 1) := by decide +kernel
theorem dX5_restore_9 : decode cX5_restore 9 = .ok (.aload_n 0, 1) := by decide +kernel
theorem dX5_restore_10 : decode cX5_restore 10 = .ok (.getfield 41, 3) := by decide +kernel
theorem dX5_restore_13 : decode cX5_restore 13 = .ok (.aload_n 0, 1) := by decide +kernel
theorem dX5_restore_14 : decode cX5_restore 14 = .ok (.getfield 45, 3) := by decide +kernel
theorem dX5_restore_17 : decode cX5_restore 17 = .ok (.invokevirtual 350, 3) := by decide +kernel
theorem dX5_restore_20 : decode cX5_restore 20 = .ok (.iconst 1, 1) := by decide +kernel
theorem dX5_restore_21 : decode cX5_restore 21 = .ok (.ireturn, 1) := by decide +kernel
