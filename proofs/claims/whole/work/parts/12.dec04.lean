theorem dX0_init_0 : decode cX0_init 0 = .ok (.aload_n 0, 1) := by decide +kernel
theorem dX0_init_1 : decode cX0_init 1 = .ok (.invokespecial 3, 3) := by decide +kernel
theorem dX0_init_4 : decode cX0_init 4 = .ok (.aload_n 0, 1) := by decide +kernel
theorem dX0_init_5 : decode cX0_init 5 = .ok (.iconst 0, 1) := by decide +kernel
theorem dX0_init_6 : decode cX0_init 6 = .ok (.newarray .int, 2) := by decide +kernel
theorem dX0_init_8 : decode cX0_init 8 = .ok (.putfield 9, 3) := by decide +kernel
theorem dX0_init_11 : decode cX0_init 11 = .ok (.aload_n 0, 1) := by decide +kernel
theorem dX0_init_12 : decode cX0_init 12 = .ok (.new 15, 3) := by decide +kernel
theorem dX0_init_15 : decode cX0_init 15 = .ok (.dup, 1) := by decide +kernel
theorem dX0_init_16 : decode cX0_init 16 = .ok (.invokespecial 17, 3) := by decide +kernel
theorem dX0_init_19 : decode cX0_init 19 = .ok (.putfield 18, 3) := by decide +kernel
theorem dX0_init_22 : decode cX0_init 22 = .ok (.return_, 1) := by decide +kernel
theorem dX0_handOver_0 : decode cX0_handOver 0 = .ok (.aload_n 0, 1) := by decide +kernel
theorem dX0_handOver_1 : decode cX0_handOver 1 = .ok (.getfield 18, 3) := by decide +kernel
theorem dX0_handOver_4 : decode cX0_handOver 4 = .ok (.astore_n 2, 1) := by decide +kernel
theorem dX0_handOver_5 : decode cX0_handOver 5 = .ok (.aload_n 0, 1) := by decide +kernel
theorem dX0_handOver_6 : decode cX0_handOver 6 = .ok (.aload_n 1, 1) := by decide +kernel
theorem dX0_handOver_7 : decode cX0_handOver 7 = .ok (.putfield 18, 3) := by decide +kernel
theorem dX0_handOver_10 : decode cX0_handOver 10 = .ok (.aload_n 2, 1) := by decide +kernel
theorem dX0_handOver_11 : decode cX0_handOver 11 = .ok (.areturn, 1) := by decide +kernel
theorem dX0_takeDown_0 : decode cX0_takeDown 0 = .ok (.aload_n 0, 1) := by decide +kernel
theorem dX0_takeDown_1 : decode cX0_takeDown 1 = .ok (.aload_n 1, 1) := by decide +kernel
theorem dX0_takeDown_2 : decode cX0_takeDown 2 = .ok (.putfield 9, 3) := by decide +kernel
theorem dX0_takeDown_5 : decode cX0_takeDown 5 = .ok (.aload_n 0, 1) := by decide +kernel
theorem dX0_takeDown_6 : decode cX0_takeDown 6 = .ok (.iconst 0, 1) := by decide +kernel
theorem dX0_takeDown_7 : decode cX0_takeDown 7 = .ok (.iload_n 2, 1) := by decide +kernel
theorem dX0_takeDown_8 : decode cX0_takeDown 8 = .ok (.aload_n 0, 1) := by decide +kernel
theorem dX0_takeDown_9 : decode cX0_takeDown 9 = .ok (.getfield 9, 3) := by decide +kernel
theorem dX0_takeDown_12 : decode cX0_takeDown 12 = .ok (.arraylength, 1) := by decide +kernel
theorem dX0_takeDown_13 : decode cX0_takeDown 13 = .ok (.invokestatic 22, 3) := by decide +kernel
theorem dX0_takeDown_16 : decode cX0_takeDown 16 = .ok (.invokestatic 28, 3) := by decide +kernel
theorem dX0_takeDown_19 : decode cX0_takeDown 19 = .ok (.putfield 31, 3) := by decide +kernel
theorem dX0_takeDown_22 : decode cX0_takeDown 22 = .ok (.aload_n 0, 1) := by decide +kernel
theorem dX0_takeDown_23 : decode cX0_takeDown 23 = .ok (.getfield 18, 3) := by decide +kernel
theorem dX0_takeDown_26 : decode cX0_takeDown 26 = .ok (.invokevirtual 35, 3) := by decide +kernel
theorem dX0_takeDown_29 : decode cX0_takeDown 29 = .ok (.aload_n 0, 1) := by decide +kernel
theorem dX0_takeDown_30 : decode cX0_takeDown 30 = .ok (.iconst 0, 1) := by decide +kernel
theorem dX0_takeDown_31 : decode cX0_takeDown 31 = .ok (.putfield 38, 3) := by decide +kernel
theorem dX0_takeDown_34 : decode cX0_takeDown 34 = .ok (.aload_n 0, 1) := by decide +kernel
theorem dX0_takeDown_35 : decode cX0_takeDown 35 = .ok (.iconst 0, 1) := by decide +kernel
theorem dX0_takeDown_36 : decode cX0_takeDown 36 = .ok (.putfield 41, 3) := by decide +kernel
theorem dX0_takeDown_39 : decode cX0_takeDown 39 = .ok (.aload_n 0, 1) := by decide +kernel
theorem dX0_takeDown_40 : decode cX0_takeDown 40 = .ok (.invokevirtual 44, 3) := by decide +kernel
theorem dX0_takeDown_43 : decode cX0_takeDown 43 = .ok (.iconst 1, 1) := by decide +kernel
theorem dX0_takeDown_44 : decode cX0_takeDown 44 = .ok (.istore_n 3, 1) := by decide +kernel
theorem dX0_takeDown_45 : decode cX0_takeDown 45 = .ok (.iconst 0, 1) := by decide +kernel
theorem dX0_takeDown_46 : decode cX0_takeDown 46 = .ok (.istore 4, 2) := by decide +kernel
theorem dX0_takeDown_48 : decode cX0_takeDown 48 = .ok (.iload_n 3, 1) := by decide +kernel
theorem dX0_takeDown_49 : decode cX0_takeDown 49 = .ok (.ifCond .eq 47, 3) := by decide +kernel
theorem dX0_takeDown_52 : decode cX0_takeDown 52 = .ok (.aload_n 0, 1) := by decide +kernel
theorem dX0_takeDown_53 : decode cX0_takeDown 53 = .ok (.getfield 47, 3) := by decide +kernel
theorem dX0_takeDown_56 : decode cX0_takeDown 56 = .ok (.ifCond .eq 40, 3) := by decide +kernel
theorem dX0_takeDown_59 : decode cX0_takeDown 59 = .ok (.iload 4, 2) := by decide +kernel
theorem dX0_takeDown_61 : decode cX0_takeDown 61 = .ok (.aload_n 0, 1) := by decide +kernel
theorem dX0_takeDown_62 : decode cX0_takeDown 62 = .ok (.getfield 31, 3) := by decide +kernel
theorem dX0_takeDown_65 : decode cX0_takeDown 65 = .ok (.if_icmp .gt 31, 3) := by decide +kernel
theorem dX0_takeDown_68 : decode cX0_takeDown 68 = .ok (.aload_n 0, 1) := by decide +kernel
theorem dX0_takeDown_69 : decode cX0_takeDown 69 = .ok (.invokevirtual 50, 3) := by decide +kernel
theorem dX0_takeDown_72 : decode cX0_takeDown 72 = .ok (.ifCond .eq 16, 3) := by decide +kernel
theorem dX0_takeDown_75 : decode cX0_takeDown 75 = .ok (.aload_n 0, 1) := by decide +kernel
theorem dX0_takeDown_76 : decode cX0_takeDown 76 = .ok (.bipush 59, 2) := by decide +kernel
theorem dX0_takeDown_78 : decode cX0_takeDown 78 = .ok (.invokevirtual 54, 3) := by decide +kernel
theorem dX0_takeDown_81 : decode cX0_takeDown 81 = .ok (.ifCond .eq 7, 3) := by decide +kernel
theorem dX0_takeDown_84 : decode cX0_takeDown 84 = .ok (.iconst 1, 1) := by decide +kernel
theorem dX0_takeDown_85 : decode cX0_takeDown 85 = .ok (.goto 4, 3) := by decide +kernel
theorem dX0_takeDown_88 : decode cX0_takeDown 88 = .ok (.iconst 0, 1) := by decide +kernel
theorem dX0_takeDown_89 : decode cX0_takeDown 89 = .ok (.istore_n 3, 1) := by decide +kernel
theorem dX0_takeDown_90 : decode cX0_takeDown 90 = .ok (.iinc 4 1, 3) := by decide +kernel
theorem dX0_takeDown_93 : decode cX0_takeDown 93 = .ok (.goto (-45), 3) := by decide +kernel
theorem dX0_takeDown_96 : decode cX0_takeDown 96 = .ok (.aload_n 0, 1) := by decide +kernel
theorem dX0_takeDown_97 : decode cX0_takeDown 97 = .ok (.getfield 41, 3) := by decide +kernel
theorem dX0_takeDown_100 : decode cX0_takeDown 100 = .ok (.ireturn, 1) := by decide +kernel
theorem dX0_refuse_0 : decode cX0_refuse 0 = .ok (.aload_n 0, 1) := by decide +kernel
theorem dX0_refuse_1 : decode cX0_refuse 1 = .ok (.iload_n 1, 1) := by decide +kernel
theorem dX0_refuse_2 : decode cX0_refuse 2 = .ok (.putfield 41, 3) := by decide +kernel
theorem dX0_refuse_5 : decode cX0_refuse 5 = .ok (.iconst 0, 1) := by decide +kernel
theorem dX0_refuse_6 : decode cX0_refuse 6 = .ok (.ireturn, 1) := by decide +kernel
theorem dX0_byteAt_0 : decode cX0_byteAt 0 = .ok (.iload_n 1, 1) := by decide +kernel
theorem dX0_byteAt_1 : decode cX0_byteAt 1 = .ok (.ifCond .lt 29, 3) := by decide +kernel
theorem dX0_byteAt_4 : decode cX0_byteAt 4 = .ok (.iload_n 1, 1) := by decide +kernel
theorem dX0_byteAt_5 : decode cX0_byteAt 5 = .ok (.aload_n 0, 1) := by decide +kernel
theorem dX0_byteAt_6 : decode cX0_byteAt 6 = .ok (.getfield 31, 3) := by decide +kernel
theorem dX0_byteAt_9 : decode cX0_byteAt 9 = .ok (.if_icmp .ge 21, 3) := by decide +kernel
theorem dX0_byteAt_12 : decode cX0_byteAt 12 = .ok (.iload_n 1, 1) := by decide +kernel
theorem dX0_byteAt_13 : decode cX0_byteAt 13 = .ok (.aload_n 0, 1) := by decide +kernel
theorem dX0_byteAt_14 : decode cX0_byteAt 14 = .ok (.getfield 9, 3) := by decide +kernel
theorem dX0_byteAt_17 : decode cX0_byteAt 17 = .ok (.arraylength, 1) := by decide +kernel
theorem dX0_byteAt_18 : decode cX0_byteAt 18 = .ok (.if_icmp .ge 12, 3) := by decide +kernel
theorem dX0_byteAt_21 : decode cX0_byteAt 21 = .ok (.aload_n 0, 1) := by decide +kernel
theorem dX0_byteAt_22 : decode cX0_byteAt 22 = .ok (.getfield 9, 3) := by decide +kernel
theorem dX0_byteAt_25 : decode cX0_byteAt 25 = .ok (.iload_n 1, 1) := by decide +kernel
theorem dX0_byteAt_26 : decode cX0_byteAt 26 = .ok (.iaload, 1) := by decide +kernel
theorem dX0_byteAt_27 : decode cX0_byteAt 27 = .ok (.goto 4, 3) := by decide +kernel
theorem dX0_byteAt_30 : decode cX0_byteAt 30 = .ok (.iconst (-1), 1) := by decide +kernel
theorem dX0_byteAt_31 : decode cX0_byteAt 31 = .ok (.ireturn, 1) := by decide +kernel
theorem dX0_isBlank_0 : decode cX0_isBlank 0 = .ok (.iload_n 0, 1) := by decide +kernel
theorem dX0_isBlank_1 : decode cX0_isBlank 1 = .ok (.bipush 32, 2) := by decide +kernel
theorem dX0_isBlank_3 : decode cX0_isBlank 3 = .ok (.if_icmp .eq 9, 3) := by decide +kernel
theorem dX0_isBlank_6 : decode cX0_isBlank 6 = .ok (.iload_n 0, 1) := by decide +kernel
theorem dX0_isBlank_7 : decode cX0_isBlank 7 = .ok (.bipush 10, 2) := by decide +kernel
theorem dX0_isBlank_9 : decode cX0_isBlank 9 = .ok (.if_icmp .ne 7, 3) := by decide +kernel
theorem dX0_isBlank_12 : decode cX0_isBlank 12 = .ok (.iconst 1, 1) := by decide +kernel
theorem dX0_isBlank_13 : decode cX0_isBlank 13 = .ok (.goto 4, 3) := by decide +kernel
theorem dX0_isBlank_16 : decode cX0_isBlank 16 = .ok (.iconst 0, 1) := by decide +kernel
theorem dX0_isBlank_17 : decode cX0_isBlank 17 = .ok (.ireturn, 1) := by decide +kernel
theorem dX0_isLetter_0 : decode cX0_isLetter 0 = .ok (.iload_n 0, 1) := by decide +kernel
theorem dX0_isLetter_1 : decode cX0_isLetter 1 = .ok (.bipush 97, 2) := by decide +kernel
theorem dX0_isLetter_3 : decode cX0_isLetter 3 = .ok (.if_icmp .lt 13, 3) := by decide +kernel
theorem dX0_isLetter_6 : decode cX0_isLetter 6 = .ok (.iload_n 0, 1) := by decide +kernel
theorem dX0_isLetter_7 : decode cX0_isLetter 7 = .ok (.bipush 122, 2) := by decide +kernel
theorem dX0_isLetter_9 : decode cX0_isLetter 9 = .ok (.if_icmp .gt 7, 3) := by decide +kernel
theorem dX0_isLetter_12 : decode cX0_isLetter 12 = .ok (.iconst 1, 1) := by decide +kernel
theorem dX0_isLetter_13 : decode cX0_isLetter 13 = .ok (.goto 4, 3) := by decide +kernel
theorem dX0_isLetter_16 : decode cX0_isLetter 16 = .ok (.iconst 0, 1) := by decide +kernel
theorem dX0_isLetter_17 : decode cX0_isLetter 17 = .ok (.ireturn, 1) := by decide +kernel
theorem dX0_isDigit_0 : decode cX0_isDigit 0 = .ok (.iload_n 0, 1) := by decide +kernel
theorem dX0_isDigit_1 : decode cX0_isDigit 1 = .ok (.bipush 48, 2) := by decide +kernel
theorem dX0_isDigit_3 : decode cX0_isDigit 3 = .ok (.if_icmp .lt 13, 3) := by decide +kernel
theorem dX0_isDigit_6 : decode cX0_isDigit 6 = .ok (.iload_n 0, 1) := by decide +kernel
theorem dX0_isDigit_7 : decode cX0_isDigit 7 = .ok (.bipush 57, 2) := by decide +kernel
theorem dX0_isDigit_9 : decode cX0_isDigit 9 = .ok (.if_icmp .gt 7, 3) := by decide +kernel
theorem dX0_isDigit_12 : decode cX0_isDigit 12 = .ok (.iconst 1, 1) := by decide +kernel
theorem dX0_isDigit_13 : decode cX0_isDigit 13 = .ok (.goto 4, 3) := by decide +kernel
theorem dX0_isDigit_16 : decode cX0_isDigit 16 = .ok (.iconst 0, 1) := by decide +kernel
theorem dX0_isDigit_17 : decode cX0_isDigit 17 = .ok (.ireturn, 1) := by decide +kernel
theorem dX0_advance_0 : decode cX0_advance 0 = .ok (.aload_n 0, 1) := by decide +kernel
theorem dX0_advance_1 : decode cX0_advance 1 = .ok (.aload_n 0, 1) := by decide +kernel
theorem dX0_advance_2 : decode cX0_advance 2 = .ok (.getfield 38, 3) := by decide +kernel
theorem dX0_advance_5 : decode cX0_advance 5 = .ok (.putfield 58, 3) := by decide +kernel
theorem dX0_advance_8 : decode cX0_advance 8 = .ok (.aload_n 0, 1) := by decide +kernel
theorem dX0_advance_9 : decode cX0_advance 9 = .ok (.getfield 58, 3) := by decide +kernel
theorem dX0_advance_12 : decode cX0_advance 12 = .ok (.aload_n 0, 1) := by decide +kernel
theorem dX0_advance_13 : decode cX0_advance 13 = .ok (.getfield 31, 3) := by decide +kernel
theorem dX0_advance_16 : decode cX0_advance 16 = .ok (.if_icmp .ge 30, 3) := by decide +kernel
theorem dX0_advance_19 : decode cX0_advance 19 = .ok (.aload_n 0, 1) := by decide +kernel
theorem dX0_advance_20 : decode cX0_advance 20 = .ok (.aload_n 0, 1) := by decide +kernel
theorem dX0_advance_21 : decode cX0_advance 21 = .ok (.getfield 58, 3) := by decide +kernel
theorem dX0_advance_24 : decode cX0_advance 24 = .ok (.invokevirtual 61, 3) := by decide +kernel
theorem dX0_advance_27 : decode cX0_advance 27 = .ok (.invokestatic 65, 3) := by decide +kernel
theorem dX0_advance_30 : decode cX0_advance 30 = .ok (.ifCond .eq 16, 3) := by decide +kernel
theorem dX0_advance_33 : decode cX0_advance 33 = .ok (.aload_n 0, 1) := by decide +kernel
theorem dX0_advance_34 : decode cX0_advance 34 = .ok (.dup, 1) := by decide +kernel
theorem dX0_advance_35 : decode cX0_advance 35 = .ok (.getfield 58, 3) := by decide +kernel
theorem dX0_advance_38 : decode cX0_advance 38 = .ok (.iconst 1, 1) := by decide +kernel
theorem dX0_advance_39 : decode cX0_advance 39 = .ok (.iadd, 1) := by decide +kernel
theorem dX0_advance_40 : decode cX0_advance 40 = .ok (.putfield 58, 3) := by decide +kernel
theorem dX0_advance_43 : decode cX0_advance 43 = .ok (.goto (-35), 3) := by decide +kernel
theorem dX0_advance_46 : decode cX0_advance 46 = .ok (.aload_n 0, 1) := by decide +kernel
theorem dX0_advance_47 : decode cX0_advance 47 = .ok (.aload_n 0, 1) := by decide +kernel
theorem dX0_advance_48 : decode cX0_advance 48 = .ok (.getfield 58, 3) := by decide +kernel
theorem dX0_advance_51 : decode cX0_advance 51 = .ok (.putfield 38, 3) := by decide +kernel
theorem dX0_advance_54 : decode cX0_advance 54 = .ok (.aload_n 0, 1) := by decide +kernel
theorem dX0_advance_55 : decode cX0_advance 55 = .ok (.iconst 0, 1) := by decide +kernel
theorem dX0_advance_56 : decode cX0_advance 56 = .ok (.putfield 68, 3) := by decide +kernel
theorem dX0_advance_59 : decode cX0_advance 59 = .ok (.aload_n 0, 1) := by decide +kernel
theorem dX0_advance_60 : decode cX0_advance 60 = .ok (.getfield 58, 3) := by decide +kernel
theorem dX0_advance_63 : decode cX0_advance 63 = .ok (.aload_n 0, 1) := by decide +kernel
theorem dX0_advance_64 : decode cX0_advance 64 = .ok (.getfield 31, 3) := by decide +kernel
theorem dX0_advance_67 : decode cX0_advance 67 = .ok (.if_icmp .lt 11, 3) := by decide +kernel
theorem dX0_advance_70 : decode cX0_advance 70 = .ok (.aload_n 0, 1) := by decide +kernel
theorem dX0_advance_71 : decode cX0_advance 71 = .ok (.iconst 0, 1) := by decide +kernel
theorem dX0_advance_72 : decode cX0_advance 72 = .ok (.putfield 47, 3) := by decide +kernel
theorem dX0_advance_75 : decode cX0_advance 75 = .ok (.goto 181, 3) := by decide +kernel
theorem dX0_advance_78 : decode cX0_advance 78 = .ok (.aload_n 0, 1) := by decide +kernel
theorem dX0_advance_79 : decode cX0_advance 79 = .ok (.aload_n 0, 1) := by decide +kernel
theorem dX0_advance_80 : decode cX0_advance 80 = .ok (.getfield 58, 3) := by decide +kernel
theorem dX0_advance_83 : decode cX0_advance 83 = .ok (.invokevirtual 61, 3) := by decide +kernel
theorem dX0_advance_86 : decode cX0_advance 86 = .ok (.invokestatic 71, 3) := by decide +kernel
theorem dX0_advance_89 : decode cX0_advance 89 = .ok (.ifCond .eq 46, 3) := by decide +kernel
theorem dX0_advance_92 : decode cX0_advance 92 = .ok (.aload_n 0, 1) := by decide +kernel
theorem dX0_advance_93 : decode cX0_advance 93 = .ok (.iconst 1, 1) := by decide +kernel
theorem dX0_advance_94 : decode cX0_advance 94 = .ok (.putfield 47, 3) := by decide +kernel
theorem dX0_advance_97 : decode cX0_advance 97 = .ok (.aload_n 0, 1) := by decide +kernel
theorem dX0_advance_98 : decode cX0_advance 98 = .ok (.getfield 38, 3) := by decide +kernel
theorem dX0_advance_101 : decode cX0_advance 101 = .ok (.aload_n 0, 1) := by decide +kernel
theorem dX0_advance_102 : decode cX0_advance 102 = .ok (.getfield 31, 3) := by decide +kernel
theorem dX0_advance_105 : decode cX0_advance 105 = .ok (.if_icmp .ge 151, 3) := by decide +kernel
theorem dX0_advance_108 : decode cX0_advance 108 = .ok (.aload_n 0, 1) := by decide +kernel
theorem dX0_advance_109 : decode cX0_advance 109 = .ok (.aload_n 0, 1) := by decide +kernel
theorem dX0_advance_110 : decode cX0_advance 110 = .ok (.getfield 38, 3) := by decide +kernel
theorem dX0_advance_113 : decode cX0_advance 113 = .ok (.invokevirtual 61, 3) := by decide +kernel
theorem dX0_advance_116 : decode cX0_advance 116 = .ok (.invokestatic 71, 3) := by decide +kernel
theorem dX0_advance_119 : decode cX0_advance 119 = .ok (.ifCond .eq 137, 3) := by decide +kernel
theorem dX0_advance_122 : decode cX0_advance 122 = .ok (.aload_n 0, 1) := by decide +kernel
theorem dX0_advance_123 : decode cX0_advance 123 = .ok (.dup, 1) := by decide +kernel
theorem dX0_advance_124 : decode cX0_advance 124 = .ok (.getfield 38, 3) := by decide +kernel
theorem dX0_advance_127 : decode cX0_advance 127 = .ok (.iconst 1, 1) := by decide +kernel
theorem dX0_advance_128 : decode cX0_advance 128 = .ok (.iadd, 1) := by decide +kernel
theorem dX0_advance_129 : decode cX0_advance 129 = .ok (.putfield 38, 3) := by decide +kernel
theorem dX0_advance_132 : decode cX0_advance 132 = .ok (.goto (-35), 3) := by decide +kernel
theorem dX0_advance_135 : decode cX0_advance 135 = .ok (.aload_n 0, 1) := by decide +kernel
theorem dX0_advance_136 : decode cX0_advance 136 = .ok (.aload_n 0, 1) := by decide +kernel
theorem dX0_advance_137 : decode cX0_advance 137 = .ok (.getfield 58, 3) := by decide +kernel
theorem dX0_advance_140 : decode cX0_advance 140 = .ok (.invokevirtual 61, 3) := by decide +kernel
theorem dX0_advance_143 : decode cX0_advance 143 = .ok (.invokestatic 74, 3) := by decide +kernel
theorem dX0_advance_146 : decode cX0_advance 146 = .ok (.ifCond .eq 83, 3) := by decide +kernel
theorem dX0_advance_149 : decode cX0_advance 149 = .ok (.aload_n 0, 1) := by decide +kernel
theorem dX0_advance_150 : decode cX0_advance 150 = .ok (.iconst 2, 1) := by decide +kernel
theorem dX0_advance_151 : decode cX0_advance 151 = .ok (.putfield 47, 3) := by decide +kernel
theorem dX0_advance_154 : decode cX0_advance 154 = .ok (.aload_n 0, 1) := by decide +kernel
theorem dX0_advance_155 : decode cX0_advance 155 = .ok (.getfield 38, 3) := by decide +kernel
theorem dX0_advance_158 : decode cX0_advance 158 = .ok (.aload_n 0, 1) := by decide +kernel
theorem dX0_advance_159 : decode cX0_advance 159 = .ok (.getfield 31, 3) := by decide +kernel
theorem dX0_advance_162 : decode cX0_advance 162 = .ok (.if_icmp .ge 94, 3) := by decide +kernel
theorem dX0_advance_165 : decode cX0_advance 165 = .ok (.aload_n 0, 1) := by decide +kernel
theorem dX0_advance_166 : decode cX0_advance 166 = .ok (.aload_n 0, 1) := by decide +kernel
theorem dX0_advance_167 : decode cX0_advance 167 = .ok (.getfield 38, 3) := by decide +kernel
theorem dX0_advance_170 : decode cX0_advance 170 = .ok (.invokevirtual 61, 3) := by decide +kernel
theorem dX0_advance_173 : decode cX0_advance 173 = .ok (.invokestatic 74, 3) := by decide +kernel
theorem dX0_advance_176 : decode cX0_advance 176 = .ok (.ifCond .eq 80, 3) := by decide +kernel
theorem dX0_advance_179 : decode cX0_advance 179 = .ok (.aload_n 0, 1) := by decide +kernel
theorem dX0_advance_180 : decode cX0_advance 180 = .ok (.aload_n 0, 1) := by decide +kernel
theorem dX0_advance_181 : decode cX0_advance 181 = .ok (.invokevirtual 77, 3) := by decide +kernel
theorem dX0_advance_184 : decode cX0_advance 184 = .ok (.ifCond .eq 10, 3) := by decide +kernel
theorem dX0_advance_187 : decode cX0_advance 187 = .ok (.aload_n 0, 1) := by decide +kernel
theorem dX0_advance_188 : decode cX0_advance 188 = .ok (.getfield 68, 3) := by decide +kernel
theorem dX0_advance_191 : decode cX0_advance 191 = .ok (.goto 22, 3) := by decide +kernel
theorem dX0_advance_194 : decode cX0_advance 194 = .ok (.bipush 10, 2) := by decide +kernel
theorem dX0_advance_196 : decode cX0_advance 196 = .ok (.aload_n 0, 1) := by decide +kernel
theorem dX0_advance_197 : decode cX0_advance 197 = .ok (.getfield 68, 3) := by decide +kernel
theorem dX0_advance_200 : decode cX0_advance 200 = .ok (.imul, 1) := by decide +kernel
theorem dX0_advance_201 : decode cX0_advance 201 = .ok (.aload_n 0, 1) := by decide +kernel
theorem dX0_advance_202 : decode cX0_advance 202 = .ok (.aload_n 0, 1) := by decide +kernel
theorem dX0_advance_203 : decode cX0_advance 203 = .ok (.getfield 38, 3) := by decide +kernel
theorem dX0_advance_206 : decode cX0_advance 206 = .ok (.invokevirtual 61, 3) := by decide +kernel
theorem dX0_advance_209 : decode cX0_advance 209 = .ok (.iadd, 1) := by decide +kernel
theorem dX0_advance_210 : decode cX0_advance 210 = .ok (.bipush 48, 2) := by decide +kernel
theorem dX0_advance_212 : decode cX0_advance 212 = .ok (.isub, 1) := by decide +kernel
theorem dX0_advance_213 : decode cX0_advance 213 = .ok (.putfield 68, 3) := by decide +kernel
theorem dX0_advance_216 : decode cX0_advance 216 = .ok (.aload_n 0, 1) := by decide +kernel
theorem dX0_advance_217 : decode cX0_advance 217 = .ok (.dup, 1) := by decide +kernel
theorem dX0_advance_218 : decode cX0_advance 218 = .ok (.getfield 38, 3) := by decide +kernel
theorem dX0_advance_221 : decode cX0_advance 221 = .ok (.iconst 1, 1) := by decide +kernel
theorem dX0_advance_222 : decode cX0_advance 222 = .ok (.iadd, 1) := by decide +kernel
theorem dX0_advance_223 : decode cX0_advance 223 = .ok (.putfield 38, 3) := by decide +kernel
theorem dX0_advance_226 : decode cX0_advance 226 = .ok (.goto (-72), 3) := by decide +kernel
theorem dX0_advance_229 : decode cX0_advance 229 = .ok (.aload_n 0, 1) := by decide +kernel
theorem dX0_advance_230 : decode cX0_advance 230 = .ok (.iconst 3, 1) := by decide +kernel
theorem dX0_advance_231 : decode cX0_advance 231 = .ok (.putfield 47, 3) := by decide +kernel
theorem dX0_advance_234 : decode cX0_advance 234 = .ok (.aload_n 0, 1) := by decide +kernel
theorem dX0_advance_235 : decode cX0_advance 235 = .ok (.aload_n 0, 1) := by decide +kernel
theorem dX0_advance_236 : decode cX0_advance 236 = .ok (.aload_n 0, 1) := by decide +kernel
theorem dX0_advance_237 : decode cX0_advance 237 = .ok (.getfield 58, 3) := by decide +kernel
theorem dX0_advance_240 : decode cX0_advance 240 = .ok (.invokevirtual 61, 3) := by decide +kernel
theorem dX0_advance_243 : decode cX0_advance 243 = .ok (.putfield 68, 3) := by decide +kernel
theorem dX0_advance_246 : decode cX0_advance 246 = .ok (.aload_n 0, 1) := by decide +kernel
theorem dX0_advance_247 : decode cX0_advance 247 = .ok (.dup, 1) := by decide +kernel
theorem dX0_advance_248 : decode cX0_advance 248 = .ok (.getfield 38, 3) := by decide +kernel
theorem dX0_advance_251 : decode cX0_advance 251 = .ok (.iconst 1, 1) := by decide +kernel
theorem dX0_advance_252 : decode cX0_advance 252 = .ok (.iadd, 1) := by decide +kernel
theorem dX0_advance_253 : decode cX0_advance 253 = .ok (.putfield 38, 3) := by decide +kernel
theorem dX0_advance_256 : decode cX0_advance 256 = .ok (.return_, 1) := by decide +kernel
theorem dX0_isTooLong_0 : decode cX0_isTooLong 0 = .ok (.aload_n 0, 1) := by decide +kernel
theorem dX0_isTooLong_1 : decode cX0_isTooLong 1 = .ok (.getfield 38, 3) := by decide +kernel
theorem dX0_isTooLong_4 : decode cX0_isTooLong 4 = .ok (.aload_n 0, 1) := by decide +kernel
theorem dX0_isTooLong_5 : decode cX0_isTooLong 5 = .ok (.getfield 58, 3) := by decide +kernel
theorem dX0_isTooLong_8 : decode cX0_isTooLong 8 = .ok (.isub, 1) := by decide +kernel
theorem dX0_isTooLong_9 : decode cX0_isTooLong 9 = .ok (.iconst 4, 1) := by decide +kernel
theorem dX0_isTooLong_10 : decode cX0_isTooLong 10 = .ok (.if_icmp .le 7, 3) := by decide +kernel
theorem dX0_isTooLong_13 : decode cX0_isTooLong 13 = .ok (.iconst 1, 1) := by decide +kernel
theorem dX0_isTooLong_14 : decode cX0_isTooLong 14 = .ok (.goto 4, 3) := by decide +kernel
theorem dX0_isTooLong_17 : decode cX0_isTooLong 17 = .ok (.iconst 0, 1) := by decide +kernel
theorem dX0_isTooLong_18 : decode cX0_isTooLong 18 = .ok (.ireturn, 1) := by decide +kernel
theorem dX0_isWord_0 : decode cX0_isWord 0 = .ok (.aload_n 0, 1) := by decide +kernel
theorem dX0_isWord_1 : decode cX0_isWord 1 = .ok (.getfield 47, 3) := by decide +kernel
theorem dX0_isWord_4 : decode cX0_isWord 4 = .ok (.iconst 1, 1) := by decide +kernel
theorem dX0_isWord_5 : decode cX0_isWord 5 = .ok (.if_icmp .ne 19, 3) := by decide +kernel
theorem dX0_isWord_8 : decode cX0_isWord 8 = .ok (.aload_n 0, 1) := by decide +kernel
theorem dX0_isWord_9 : decode cX0_isWord 9 = .ok (.getfield 38, 3) := by decide +kernel
theorem dX0_isWord_12 : decode cX0_isWord 12 = .ok (.aload_n 0, 1) := by decide +kernel
theorem dX0_isWord_13 : decode cX0_isWord 13 = .ok (.getfield 58, 3) := by decide +kernel
theorem dX0_isWord_16 : decode cX0_isWord 16 = .ok (.isub, 1) := by decide +kernel
theorem dX0_isWord_17 : decode cX0_isWord 17 = .ok (.aload_n 1, 1) := by decide +kernel
theorem dX0_isWord_18 : decode cX0_isWord 18 = .ok (.invokevirtual 80, 3) := by decide +kernel
theorem dX0_isWord_21 : decode cX0_isWord 21 = .ok (.if_icmp .eq 5, 3) := by decide +kernel
theorem dX0_isWord_24 : decode cX0_isWord 24 = .ok (.iconst 0, 1) := by decide +kernel
theorem dX0_isWord_25 : decode cX0_isWord 25 = .ok (.ireturn, 1) := by decide +kernel
theorem dX0_isWord_26 : decode cX0_isWord 26 = .ok (.iconst 0, 1) := by decide +kernel
theorem dX0_isWord_27 : decode cX0_isWord 27 = .ok (.istore_n 2, 1) := by decide +kernel
theorem dX0_isWord_28 : decode cX0_isWord 28 = .ok (.iload_n 2, 1) := by decide +kernel
theorem dX0_isWord_29 : decode cX0_isWord 29 = .ok (.aload_n 1, 1) := by decide +kernel
theorem dX0_isWord_30 : decode cX0_isWord 30 = .ok (.invokevirtual 80, 3) := by decide +kernel
theorem dX0_isWord_33 : decode cX0_isWord 33 = .ok (.if_icmp .ge 44, 3) := by decide +kernel
theorem dX0_isWord_36 : decode cX0_isWord 36 = .ok (.aload_n 0, 1) := by decide +kernel
theorem dX0_isWord_37 : decode cX0_isWord 37 = .ok (.getfield 58, 3) := by decide +kernel
theorem dX0_isWord_40 : decode cX0_isWord 40 = .ok (.iload_n 2, 1) := by decide +kernel
theorem dX0_isWord_41 : decode cX0_isWord 41 = .ok (.iadd, 1) := by decide +kernel
theorem dX0_isWord_42 : decode cX0_isWord 42 = .ok (.aload_n 0, 1) := by decide +kernel
theorem dX0_isWord_43 : decode cX0_isWord 43 = .ok (.getfield 9, 3) := by decide +kernel
theorem dX0_isWord_46 : decode cX0_isWord 46 = .ok (.arraylength, 1) := by decide +kernel
theorem dX0_isWord_47 : decode cX0_isWord 47 = .ok (.if_icmp .ge 22, 3) := by decide +kernel
theorem dX0_isWord_50 : decode cX0_isWord 50 = .ok (.aload_n 0, 1) := by decide +kernel
theorem dX0_isWord_51 : decode cX0_isWord 51 = .ok (.getfield 9, 3) := by decide +kernel
theorem dX0_isWord_54 : decode cX0_isWord 54 = .ok (.aload_n 0, 1) := by decide +kernel
theorem dX0_isWord_55 : decode cX0_isWord 55 = .ok (.getfield 58, 3) := by decide +kernel
theorem dX0_isWord_58 : decode cX0_isWord 58 = .ok (.iload_n 2, 1) := by decide +kernel
theorem dX0_isWord_59 : decode cX0_isWord 59 = .ok (.iadd, 1) := by decide +kernel
theorem dX0_isWord_60 : decode cX0_isWord 60 = .ok (.iaload, 1) := by decide +kernel
theorem dX0_isWord_61 : decode cX0_isWord 61 = .ok (.aload_n 1, 1) := by decide +kernel
theorem dX0_isWord_62 : decode cX0_isWord 62 = .ok (.iload_n 2, 1) := by decide +kernel
theorem dX0_isWord_63 : decode cX0_isWord 63 = .ok (.invokevirtual 85, 3) := by decide +kernel
theorem dX0_isWord_66 : decode cX0_isWord 66 = .ok (.if_icmp .eq 5, 3) := by decide +kernel
theorem dX0_isWord_69 : decode cX0_isWord 69 = .ok (.iconst 0, 1) := by decide +kernel
theorem dX0_isWord_70 : decode cX0_isWord 70 = .ok (.ireturn, 1) := by decide +kernel
theorem dX0_isWord_71 : decode cX0_isWord 71 = .ok (.iinc 2 1, 3) := by decide +kernel
theorem dX0_isWord_74 : decode cX0_isWord 74 = .ok (.goto (-46), 3) := by decide +kernel
theorem dX0_isWord_77 : decode cX0_isWord 77 = .ok (.iconst 1, 1) := by decide +kernel
theorem dX0_isWord_78 : decode cX0_isWord 78 = .ok (.ireturn, 1) := by decide +kernel
theorem dX0_isSign_0 : decode cX0_isSign 0 = .ok (.aload_n 0, 1) := by decide +kernel
theorem dX0_isSign_1 : decode cX0_isSign 1 = .ok (.getfield 47, 3) := by decide +kernel
theorem dX0_isSign_4 : decode cX0_isSign 4 = .ok (.iconst 3, 1) := by decide +kernel
theorem dX0_isSign_5 : decode cX0_isSign 5 = .ok (.if_icmp .ne 15, 3) := by decide +kernel
theorem dX0_isSign_8 : decode cX0_isSign 8 = .ok (.aload_n 0, 1) := by decide +kernel
theorem dX0_isSign_9 : decode cX0_isSign 9 = .ok (.getfield 68, 3) := by decide +kernel
theorem dX0_isSign_12 : decode cX0_isSign 12 = .ok (.iload_n 1, 1) := by decide +kernel
theorem dX0_isSign_13 : decode cX0_isSign 13 = .ok (.if_icmp .ne 7, 3) := by decide +kernel
theorem dX0_isSign_16 : decode cX0_isSign 16 = .ok (.iconst 1, 1) := by decide +kernel
theorem dX0_isSign_17 : decode cX0_isSign 17 = .ok (.goto 4, 3) := by decide +kernel
theorem dX0_isSign_20 : decode cX0_isSign 20 = .ok (.iconst 0, 1) := by decide +kernel
theorem dX0_isSign_21 : decode cX0_isSign 21 = .ok (.ireturn, 1) := by decide +kernel
theorem dX0_takeSign_0 : decode cX0_takeSign 0 = .ok (.aload_n 0, 1) := by decide +kernel
theorem dX0_takeSign_1 : decode cX0_takeSign 1 = .ok (.iload_n 1, 1) := by decide +kernel
theorem dX0_takeSign_2 : decode cX0_takeSign 2 = .ok (.invokevirtual 89, 3) := by decide +kernel
theorem dX0_takeSign_5 : decode cX0_takeSign 5 = .ok (.ifCond .ne 9, 3) := by decide +kernel
theorem dX0_takeSign_8 : decode cX0_takeSign 8 = .ok (.aload_n 0, 1) := by decide +kernel
theorem dX0_takeSign_9 : decode cX0_takeSign 9 = .ok (.iconst 1, 1) := by decide +kernel
theorem dX0_takeSign_10 : decode cX0_takeSign 10 = .ok (.invokevirtual 92, 3) := by decide +kernel
theorem dX0_takeSign_13 : decode cX0_takeSign 13 = .ok (.ireturn, 1) := by decide +kernel
theorem dX0_takeSign_14 : decode cX0_takeSign 14 = .ok (.aload_n 0, 1) := by decide +kernel
theorem dX0_takeSign_15 : decode cX0_takeSign 15 = .ok (.invokevirtual 44, 3) := by decide +kernel
theorem dX0_takeSign_18 : decode cX0_takeSign 18 = .ok (.iconst 1, 1) := by decide +kernel
theorem dX0_takeSign_19 : decode cX0_takeSign 19 = .ok (.ireturn, 1) := by decide +kernel
theorem dX0_takeNumber_0 : decode cX0_takeNumber 0 = .ok (.aload_n 0, 1) := by decide +kernel
theorem dX0_takeNumber_1 : decode cX0_takeNumber 1 = .ok (.getfield 47, 3) := by decide +kernel
theorem dX0_takeNumber_4 : decode cX0_takeNumber 4 = .ok (.iconst 2, 1) := by decide +kernel
theorem dX0_takeNumber_5 : decode cX0_takeNumber 5 = .ok (.if_icmp .eq 9, 3) := by decide +kernel
theorem dX0_takeNumber_8 : decode cX0_takeNumber 8 = .ok (.aload_n 0, 1) := by decide +kernel
theorem dX0_takeNumber_9 : decode cX0_takeNumber 9 = .ok (.iconst 1, 1) := by decide +kernel
theorem dX0_takeNumber_10 : decode cX0_takeNumber 10 = .ok (.invokevirtual 92, 3) := by decide +kernel
theorem dX0_takeNumber_13 : decode cX0_takeNumber 13 = .ok (.ireturn, 1) := by decide +kernel
theorem dX0_takeNumber_14 : decode cX0_takeNumber 14 = .ok (.aload_n 0, 1) := by decide +kernel
theorem dX0_takeNumber_15 : decode cX0_takeNumber 15 = .ok (.invokevirtual 77, 3) := by decide +kernel
theorem dX0_takeNumber_18 : decode cX0_takeNumber 18 = .ok (.ifCond .ne 19, 3) := by decide +kernel
theorem dX0_takeNumber_21 : decode cX0_takeNumber 21 = .ok (.aload_n 0, 1) := by decide +kernel
theorem dX0_takeNumber_22 : decode cX0_takeNumber 22 = .ok (.getfield 68, 3) := by decide +kernel
theorem dX0_takeNumber_25 : decode cX0_takeNumber 25 = .ok (.iload_n 1, 1) := by decide +kernel
theorem dX0_takeNumber_26 : decode cX0_takeNumber 26 = .ok (.if_icmp .lt 11, 3) := by decide +kernel
theorem dX0_takeNumber_29 : decode cX0_takeNumber 29 = .ok (.aload_n 0, 1) := by decide +kernel
theorem dX0_takeNumber_30 : decode cX0_takeNumber 30 = .ok (.getfield 68, 3) := by decide +kernel
theorem dX0_takeNumber_33 : decode cX0_takeNumber 33 = .ok (.iload_n 2, 1) := by decide +kernel
theorem dX0_takeNumber_34 : decode cX0_takeNumber 34 = .ok (.if_icmp .le 9, 3) := by decide +kernel
theorem dX0_takeNumber_37 : decode cX0_takeNumber 37 = .ok (.aload_n 0, 1) := by decide +kernel
theorem dX0_takeNumber_38 : decode cX0_takeNumber 38 = .ok (.iconst 2, 1) := by decide +kernel
theorem dX0_takeNumber_39 : decode cX0_takeNumber 39 = .ok (.invokevirtual 92, 3) := by decide +kernel
theorem dX0_takeNumber_42 : decode cX0_takeNumber 42 = .ok (.ireturn, 1) := by decide +kernel
theorem dX0_takeNumber_43 : decode cX0_takeNumber 43 = .ok (.aload_n 0, 1) := by decide +kernel
theorem dX0_takeNumber_44 : decode cX0_takeNumber 44 = .ok (.aload_n 0, 1) := by decide +kernel
theorem dX0_takeNumber_45 : decode cX0_takeNumber 45 = .ok (.getfield 68, 3) := by decide +kernel
theorem dX0_takeNumber_48 : decode cX0_takeNumber 48 = .ok (.putfield 95, 3) := by decide +kernel
theorem dX0_takeNumber_51 : decode cX0_takeNumber 51 = .ok (.aload_n 0, 1) := by decide +kernel
theorem dX0_takeNumber_52 : decode cX0_takeNumber 52 = .ok (.invokevirtual 44, 3) := by decide +kernel
theorem dX0_takeNumber_55 : decode cX0_takeNumber 55 = .ok (.iconst 1, 1) := by decide +kernel
theorem dX0_takeNumber_56 : decode cX0_takeNumber 56 = .ok (.ireturn, 1) := by decide +kernel
theorem dX0_takeLine_0 : decode cX0_takeLine 0 = .ok (.aload_n 0, 1) := by decide +kernel
theorem dX0_takeLine_1 : decode cX0_takeLine 1 = .ok (.ldc 98, 2) := by decide +kernel
theorem dX0_takeLine_3 : decode cX0_takeLine 3 = .ok (.invokevirtual 100, 3) := by decide +kernel
theorem dX0_takeLine_6 : decode cX0_takeLine 6 = .ok (.ifCond .eq 8, 3) := by decide +kernel
theorem dX0_takeLine_9 : decode cX0_takeLine 9 = .ok (.aload_n 0, 1) := by decide +kernel
theorem dX0_takeLine_10 : decode cX0_takeLine 10 = .ok (.invokevirtual 104, 3) := by decide +kernel
theorem dX0_takeLine_13 : decode cX0_takeLine 13 = .ok (.ireturn, 1) := by decide +kernel
theorem dX0_takeLine_14 : decode cX0_takeLine 14 = .ok (.aload_n 0, 1) := by decide +kernel
theorem dX0_takeLine_15 : decode cX0_takeLine 15 = .ok (.ldc 107, 2) := by decide +kernel
theorem dX0_takeLine_17 : decode cX0_takeLine 17 = .ok (.invokevirtual 100, 3) := by decide +kernel
theorem dX0_takeLine_20 : decode cX0_takeLine 20 = .ok (.ifCond .ne 12, 3) := by decide +kernel
theorem dX0_takeLine_23 : decode cX0_takeLine 23 = .ok (.aload_n 0, 1) := by decide +kernel
theorem dX0_takeLine_24 : decode cX0_takeLine 24 = .ok (.ldc 109, 2) := by decide +kernel
theorem dX0_takeLine_26 : decode cX0_takeLine 26 = .ok (.invokevirtual 100, 3) := by decide +kernel
theorem dX0_takeLine_29 : decode cX0_takeLine 29 = .ok (.ifCond .eq 14, 3) := by decide +kernel
theorem dX0_takeLine_32 : decode cX0_takeLine 32 = .ok (.aload_n 0, 1) := by decide +kernel
theorem dX0_takeLine_33 : decode cX0_takeLine 33 = .ok (.aload_n 0, 1) := by decide +kernel
theorem dX0_takeLine_34 : decode cX0_takeLine 34 = .ok (.ldc 109, 2) := by decide +kernel
theorem dX0_takeLine_36 : decode cX0_takeLine 36 = .ok (.invokevirtual 100, 3) := by decide +kernel
theorem dX0_takeLine_39 : decode cX0_takeLine 39 = .ok (.invokevirtual 111, 3) := by decide +kernel
theorem dX0_takeLine_42 : decode cX0_takeLine 42 = .ok (.ireturn, 1) := by decide +kernel
theorem dX0_takeLine_43 : decode cX0_takeLine 43 = .ok (.aload_n 0, 1) := by decide +kernel
theorem dX0_takeLine_44 : decode cX0_takeLine 44 = .ok (.ldc 115, 2) := by decide +kernel
theorem dX0_takeLine_46 : decode cX0_takeLine 46 = .ok (.invokevirtual 100, 3) := by decide +kernel
theorem dX0_takeLine_49 : decode cX0_takeLine 49 = .ok (.ifCond .eq 8, 3) := by decide +kernel
theorem dX0_takeLine_52 : decode cX0_takeLine 52 = .ok (.aload_n 0, 1) := by decide +kernel
theorem dX0_takeLine_53 : decode cX0_takeLine 53 = .ok (.invokevirtual 117, 3) := by decide +kernel
theorem dX0_takeLine_56 : decode cX0_takeLine 56 = .ok (.ireturn, 1) := by decide +kernel
theorem dX0_takeLine_57 : decode cX0_takeLine 57 = .ok (.aload_n 0, 1) := by decide +kernel
theorem dX0_takeLine_58 : decode cX0_takeLine 58 = .ok (.ldc 120, 2) := by decide +kernel
theorem dX0_takeLine_60 : decode cX0_takeLine 60 = .ok (.invokevirtual 100, 3) := by decide +kernel
theorem dX0_takeLine_63 : decode cX0_takeLine 63 = .ok (.ifCond .eq 9, 3) := by decide +kernel
theorem dX0_takeLine_66 : decode cX0_takeLine 66 = .ok (.aload_n 0, 1) := by decide +kernel
theorem dX0_takeLine_67 : decode cX0_takeLine 67 = .ok (.iconst 0, 1) := by decide +kernel
theorem dX0_takeLine_68 : decode cX0_takeLine 68 = .ok (.invokevirtual 122, 3) := by decide +kernel
theorem dX0_takeLine_71 : decode cX0_takeLine 71 = .ok (.ireturn, 1) := by decide +kernel
theorem dX0_takeLine_72 : decode cX0_takeLine 72 = .ok (.aload_n 0, 1) := by decide +kernel
theorem dX0_takeLine_73 : decode cX0_takeLine 73 = .ok (.ldc 125, 2) := by decide +kernel
theorem dX0_takeLine_75 : decode cX0_takeLine 75 = .ok (.invokevirtual 100, 3) := by decide +kernel
theorem dX0_takeLine_78 : decode cX0_takeLine 78 = .ok (.ifCond .eq 9, 3) := by decide +kernel
theorem dX0_takeLine_81 : decode cX0_takeLine 81 = .ok (.aload_n 0, 1) := by decide +kernel
theorem dX0_takeLine_82 : decode cX0_takeLine 82 = .ok (.iconst 1, 1) := by decide +kernel
theorem dX0_takeLine_83 : decode cX0_takeLine 83 = .ok (.invokevirtual 122, 3) := by decide +kernel
theorem dX0_takeLine_86 : decode cX0_takeLine 86 = .ok (.ireturn, 1) := by decide +kernel
theorem dX0_takeLine_87 : decode cX0_takeLine 87 = .ok (.aload_n 0, 1) := by decide +kernel
theorem dX0_takeLine_88 : decode cX0_takeLine 88 = .ok (.iconst 1, 1) := by decide +kernel
theorem dX0_takeLine_89 : decode cX0_takeLine 89 = .ok (.invokevirtual 92, 3) := by decide +kernel
theorem dX0_takeLine_92 : decode cX0_takeLine 92 = .ok (.ireturn, 1) := by decide +kernel
theorem dX0_takeLeaf_0 : decode cX0_takeLeaf 0 = .ok (.aload_n 0, 1) := by decide +kernel
theorem dX0_takeLeaf_1 : decode cX0_takeLeaf 1 = .ok (.getfield 18, 3) := by decide +kernel
theorem dX0_takeLeaf_4 : decode cX0_takeLeaf 4 = .ok (.getfield 127, 3) := by decide +kernel
theorem dX0_takeLeaf_7 : decode cX0_takeLeaf 7 = .ok (.istore_n 1, 1) := by decide +kernel
theorem dX0_takeLeaf_8 : decode cX0_takeLeaf 8 = .ok (.iload_n 1, 1) := by decide +kernel
theorem dX0_takeLeaf_9 : decode cX0_takeLeaf 9 = .ok (.bipush 8, 2) := by decide +kernel
theorem dX0_takeLeaf_11 : decode cX0_takeLeaf 11 = .ok (.if_icmp .lt 9, 3) := by decide +kernel
theorem dX0_takeLeaf_14 : decode cX0_takeLeaf 14 = .ok (.aload_n 0, 1) := by decide +kernel
theorem dX0_takeLeaf_15 : decode cX0_takeLeaf 15 = .ok (.iconst 2, 1) := by decide +kernel
theorem dX0_takeLeaf_16 : decode cX0_takeLeaf 16 = .ok (.invokevirtual 92, 3) := by decide +kernel
theorem dX0_takeLeaf_19 : decode cX0_takeLeaf 19 = .ok (.ireturn, 1) := by decide +kernel
theorem dX0_takeLeaf_20 : decode cX0_takeLeaf 20 = .ok (.aload_n 0, 1) := by decide +kernel
theorem dX0_takeLeaf_21 : decode cX0_takeLeaf 21 = .ok (.invokevirtual 44, 3) := by decide +kernel
theorem dX0_takeLeaf_24 : decode cX0_takeLeaf 24 = .ok (.aload_n 0, 1) := by decide +kernel
theorem dX0_takeLeaf_25 : decode cX0_takeLeaf 25 = .ok (.iconst 0, 1) := by decide +kernel
theorem dX0_takeLeaf_26 : decode cX0_takeLeaf 26 = .ok (.bipush 11, 2) := by decide +kernel
theorem dX0_takeLeaf_28 : decode cX0_takeLeaf 28 = .ok (.invokevirtual 130, 3) := by decide +kernel
theorem dX0_takeLeaf_31 : decode cX0_takeLeaf 31 = .ok (.ifCond .ne 5, 3) := by decide +kernel
theorem dX0_takeLeaf_34 : decode cX0_takeLeaf 34 = .ok (.iconst 0, 1) := by decide +kernel
theorem dX0_takeLeaf_35 : decode cX0_takeLeaf 35 = .ok (.ireturn, 1) := by decide +kernel
theorem dX0_takeLeaf_36 : decode cX0_takeLeaf 36 = .ok (.aload_n 0, 1) := by decide +kernel
theorem dX0_takeLeaf_37 : decode cX0_takeLeaf 37 = .ok (.getfield 18, 3) := by decide +kernel
theorem dX0_takeLeaf_40 : decode cX0_takeLeaf 40 = .ok (.getfield 134, 3) := by decide +kernel
theorem dX0_takeLeaf_43 : decode cX0_takeLeaf 43 = .ok (.iload_n 1, 1) := by decide +kernel
theorem dX0_takeLeaf_44 : decode cX0_takeLeaf 44 = .ok (.aload_n 0, 1) := by decide +kernel
theorem dX0_takeLeaf_45 : decode cX0_takeLeaf 45 = .ok (.getfield 95, 3) := by decide +kernel
theorem dX0_takeLeaf_48 : decode cX0_takeLeaf 48 = .ok (.iastore, 1) := by decide +kernel
theorem dX0_takeLeaf_49 : decode cX0_takeLeaf 49 = .ok (.aload_n 0, 1) := by decide +kernel
theorem dX0_takeLeaf_50 : decode cX0_takeLeaf 50 = .ok (.iconst 1, 1) := by decide +kernel
theorem dX0_takeLeaf_51 : decode cX0_takeLeaf 51 = .ok (.bipush 9, 2) := by decide +kernel
theorem dX0_takeLeaf_53 : decode cX0_takeLeaf 53 = .ok (.invokevirtual 130, 3) := by decide +kernel
theorem dX0_takeLeaf_56 : decode cX0_takeLeaf 56 = .ok (.ifCond .ne 5, 3) := by decide +kernel
theorem dX0_takeLeaf_59 : decode cX0_takeLeaf 59 = .ok (.iconst 0, 1) := by decide +kernel
theorem dX0_takeLeaf_60 : decode cX0_takeLeaf 60 = .ok (.ireturn, 1) := by decide +kernel
theorem dX0_takeLeaf_61 : decode cX0_takeLeaf 61 = .ok (.aload_n 0, 1) := by decide +kernel
theorem dX0_takeLeaf_62 : decode cX0_takeLeaf 62 = .ok (.getfield 18, 3) := by decide +kernel
theorem dX0_takeLeaf_65 : decode cX0_takeLeaf 65 = .ok (.getfield 137, 3) := by decide +kernel
theorem dX0_takeLeaf_68 : decode cX0_takeLeaf 68 = .ok (.iload_n 1, 1) := by decide +kernel
theorem dX0_takeLeaf_69 : decode cX0_takeLeaf 69 = .ok (.aload_n 0, 1) := by decide +kernel
theorem dX0_takeLeaf_70 : decode cX0_takeLeaf 70 = .ok (.getfield 95, 3) := by decide +kernel
theorem dX0_takeLeaf_73 : decode cX0_takeLeaf 73 = .ok (.iastore, 1) := by decide +kernel
theorem dX0_takeLeaf_74 : decode cX0_takeLeaf 74 = .ok (.aload_n 0, 1) := by decide +kernel
theorem dX0_takeLeaf_75 : decode cX0_takeLeaf 75 = .ok (.getfield 18, 3) := by decide +kernel
theorem dX0_takeLeaf_78 : decode cX0_takeLeaf 78 = .ok (.iload_n 1, 1) := by decide +kernel
theorem dX0_takeLeaf_79 : decode cX0_takeLeaf 79 = .ok (.iconst 1, 1) := by decide +kernel
theorem dX0_takeLeaf_80 : decode cX0_takeLeaf 80 = .ok (.iadd, 1) := by decide +kernel
theorem dX0_takeLeaf_81 : decode cX0_takeLeaf 81 = .ok (.putfield 127, 3) := by decide +kernel
theorem dX0_takeLeaf_84 : decode cX0_takeLeaf 84 = .ok (.iconst 1, 1) := by decide +kernel
theorem dX0_takeLeaf_85 : decode cX0_takeLeaf 85 = .ok (.ireturn, 1) := by decide +kernel
theorem dX0_takeJudge_0 : decode cX0_takeJudge 0 = .ok (.aload_n 0, 1) := by decide +kernel
theorem dX0_takeJudge_1 : decode cX0_takeJudge 1 = .ok (.getfield 18, 3) := by decide +kernel
theorem dX0_takeJudge_4 : decode cX0_takeJudge 4 = .ok (.getfield 140, 3) := by decide +kernel
theorem dX0_takeJudge_7 : decode cX0_takeJudge 7 = .ok (.istore_n 2, 1) := by decide +kernel
theorem dX0_takeJudge_8 : decode cX0_takeJudge 8 = .ok (.iload_n 2, 1) := by decide +kernel
theorem dX0_takeJudge_9 : decode cX0_takeJudge 9 = .ok (.bipush 8, 2) := by decide +kernel
theorem dX0_takeJudge_11 : decode cX0_takeJudge 11 = .ok (.if_icmp .lt 9, 3) := by decide +kernel
theorem dX0_takeJudge_14 : decode cX0_takeJudge 14 = .ok (.aload_n 0, 1) := by decide +kernel
theorem dX0_takeJudge_15 : decode cX0_takeJudge 15 = .ok (.iconst 2, 1) := by decide +kernel
theorem dX0_takeJudge_16 : decode cX0_takeJudge 16 = .ok (.invokevirtual 92, 3) := by decide +kernel
theorem dX0_takeJudge_19 : decode cX0_takeJudge 19 = .ok (.ireturn, 1) := by decide +kernel
theorem dX0_takeJudge_20 : decode cX0_takeJudge 20 = .ok (.aload_n 0, 1) := by decide +kernel
theorem dX0_takeJudge_21 : decode cX0_takeJudge 21 = .ok (.invokevirtual 44, 3) := by decide +kernel
theorem dX0_takeJudge_24 : decode cX0_takeJudge 24 = .ok (.aload_n 0, 1) := by decide +kernel
theorem dX0_takeJudge_25 : decode cX0_takeJudge 25 = .ok (.iconst 0, 1) := by decide +kernel
theorem dX0_takeJudge_26 : decode cX0_takeJudge 26 = .ok (.bipush 30, 2) := by decide +kernel
theorem dX0_takeJudge_28 : decode cX0_takeJudge 28 = .ok (.invokevirtual 130, 3) := by decide +kernel
theorem dX0_takeJudge_31 : decode cX0_takeJudge 31 = .ok (.ifCond .ne 5, 3) := by decide +kernel
theorem dX0_takeJudge_34 : decode cX0_takeJudge 34 = .ok (.iconst 0, 1) := by decide +kernel
theorem dX0_takeJudge_35 : decode cX0_takeJudge 35 = .ok (.ireturn, 1) := by decide +kernel
theorem dX0_takeJudge_36 : decode cX0_takeJudge 36 = .ok (.aload_n 0, 1) := by decide +kernel
theorem dX0_takeJudge_37 : decode cX0_takeJudge 37 = .ok (.getfield 18, 3) := by decide +kernel
theorem dX0_takeJudge_40 : decode cX0_takeJudge 40 = .ok (.getfield 143, 3) := by decide +kernel
theorem dX0_takeJudge_43 : decode cX0_takeJudge 43 = .ok (.iload_n 2, 1) := by decide +kernel
theorem dX0_takeJudge_44 : decode cX0_takeJudge 44 = .ok (.aload_n 0, 1) := by decide +kernel
theorem dX0_takeJudge_45 : decode cX0_takeJudge 45 = .ok (.getfield 95, 3) := by decide +kernel
theorem dX0_takeJudge_48 : decode cX0_takeJudge 48 = .ok (.iastore, 1) := by decide +kernel
theorem dX0_takeJudge_49 : decode cX0_takeJudge 49 = .ok (.aload_n 0, 1) := by decide +kernel
theorem dX0_takeJudge_50 : decode cX0_takeJudge 50 = .ok (.iconst 0, 1) := by decide +kernel
theorem dX0_takeJudge_51 : decode cX0_takeJudge 51 = .ok (.bipush 12, 2) := by decide +kernel
theorem dX0_takeJudge_53 : decode cX0_takeJudge 53 = .ok (.invokevirtual 130, 3) := by decide +kernel
theorem dX0_takeJudge_56 : decode cX0_takeJudge 56 = .ok (.ifCond .ne 5, 3) := by decide +kernel
theorem dX0_takeJudge_59 : decode cX0_takeJudge 59 = .ok (.iconst 0, 1) := by decide +kernel
theorem dX0_takeJudge_60 : decode cX0_takeJudge 60 = .ok (.ireturn, 1) := by decide +kernel
theorem dX0_takeJudge_61 : decode cX0_takeJudge 61 = .ok (.aload_n 0, 1) := by decide +kernel
theorem dX0_takeJudge_62 : decode cX0_takeJudge 62 = .ok (.getfield 18, 3) := by decide +kernel
theorem dX0_takeJudge_65 : decode cX0_takeJudge 65 = .ok (.getfield 146, 3) := by decide +kernel
theorem dX0_takeJudge_68 : decode cX0_takeJudge 68 = .ok (.iload_n 2, 1) := by decide +kernel
theorem dX0_takeJudge_69 : decode cX0_takeJudge 69 = .ok (.aload_n 0, 1) := by decide +kernel
theorem dX0_takeJudge_70 : decode cX0_takeJudge 70 = .ok (.getfield 95, 3) := by decide +kernel
theorem dX0_takeJudge_73 : decode cX0_takeJudge 73 = .ok (.iastore, 1) := by decide +kernel
theorem dX0_takeJudge_74 : decode cX0_takeJudge 74 = .ok (.aload_n 0, 1) := by decide +kernel
theorem dX0_takeJudge_75 : decode cX0_takeJudge 75 = .ok (.iconst 0, 1) := by decide +kernel
theorem dX0_takeJudge_76 : decode cX0_takeJudge 76 = .ok (.iconst 4, 1) := by decide +kernel
theorem dX0_takeJudge_77 : decode cX0_takeJudge 77 = .ok (.invokevirtual 130, 3) := by decide +kernel
theorem dX0_takeJudge_80 : decode cX0_takeJudge 80 = .ok (.ifCond .ne 5, 3) := by decide +kernel
theorem dX0_takeJudge_83 : decode cX0_takeJudge 83 = .ok (.iconst 0, 1) := by decide +kernel
theorem dX0_takeJudge_84 : decode cX0_takeJudge 84 = .ok (.ireturn, 1) := by decide +kernel
theorem dX0_takeJudge_85 : decode cX0_takeJudge 85 = .ok (.aload_n 0, 1) := by decide +kernel
theorem dX0_takeJudge_86 : decode cX0_takeJudge 86 = .ok (.getfield 18, 3) := by decide +kernel
theorem dX0_takeJudge_89 : decode cX0_takeJudge 89 = .ok (.getfield 149, 3) := by decide +kernel
theorem dX0_takeJudge_92 : decode cX0_takeJudge 92 = .ok (.iload_n 2, 1) := by decide +kernel
theorem dX0_takeJudge_93 : decode cX0_takeJudge 93 = .ok (.aload_n 0, 1) := by decide +kernel
theorem dX0_takeJudge_94 : decode cX0_takeJudge 94 = .ok (.getfield 95, 3) := by decide +kernel
theorem dX0_takeJudge_97 : decode cX0_takeJudge 97 = .ok (.iastore, 1) := by decide +kernel
theorem dX0_takeJudge_98 : decode cX0_takeJudge 98 = .ok (.aload_n 0, 1) := by decide +kernel
theorem dX0_takeJudge_99 : decode cX0_takeJudge 99 = .ok (.getfield 18, 3) := by decide +kernel
theorem dX0_takeJudge_102 : decode cX0_takeJudge 102 = .ok (.getfield 152, 3) := by decide +kernel
theorem dX0_takeJudge_105 : decode cX0_takeJudge 105 = .ok (.iload_n 2, 1) := by decide +kernel
theorem dX0_takeJudge_106 : decode cX0_takeJudge 106 = .ok (.iload_n 1, 1) := by decide +kernel
theorem dX0_takeJudge_107 : decode cX0_takeJudge 107 = .ok (.bastore, 1) := by decide +kernel
theorem dX0_takeJudge_108 : decode cX0_takeJudge 108 = .ok (.aload_n 0, 1) := by decide +kernel
theorem dX0_takeJudge_109 : decode cX0_takeJudge 109 = .ok (.getfield 18, 3) := by decide +kernel
theorem dX0_takeJudge_112 : decode cX0_takeJudge 112 = .ok (.iload_n 2, 1) := by decide +kernel
theorem dX0_takeJudge_113 : decode cX0_takeJudge 113 = .ok (.iconst 1, 1) := by decide +kernel
theorem dX0_takeJudge_114 : decode cX0_takeJudge 114 = .ok (.iadd, 1) := by decide +kernel
theorem dX0_takeJudge_115 : decode cX0_takeJudge 115 = .ok (.putfield 140, 3) := by decide +kernel
theorem dX0_takeJudge_118 : decode cX0_takeJudge 118 = .ok (.iconst 1, 1) := by decide +kernel
theorem dX0_takeJudge_119 : decode cX0_takeJudge 119 = .ok (.ireturn, 1) := by decide +kernel
theorem dX0_takePot_0 : decode cX0_takePot 0 = .ok (.aload_n 0, 1) := by decide +kernel
theorem dX0_takePot_1 : decode cX0_takePot 1 = .ok (.getfield 18, 3) := by decide +kernel
theorem dX0_takePot_4 : decode cX0_takePot 4 = .ok (.getfield 156, 3) := by decide +kernel
theorem dX0_takePot_7 : decode cX0_takePot 7 = .ok (.ifCond .eq 9, 3) := by decide +kernel
theorem dX0_takePot_10 : decode cX0_takePot 10 = .ok (.aload_n 0, 1) := by decide +kernel
theorem dX0_takePot_11 : decode cX0_takePot 11 = .ok (.iconst 5, 1) := by decide +kernel
theorem dX0_takePot_12 : decode cX0_takePot 12 = .ok (.invokevirtual 92, 3) := by decide +kernel
theorem dX0_takePot_15 : decode cX0_takePot 15 = .ok (.ireturn, 1) := by decide +kernel
theorem dX0_takePot_16 : decode cX0_takePot 16 = .ok (.aload_n 0, 1) := by decide +kernel
theorem dX0_takePot_17 : decode cX0_takePot 17 = .ok (.getfield 18, 3) := by decide +kernel
theorem dX0_takePot_20 : decode cX0_takePot 20 = .ok (.iconst 1, 1) := by decide +kernel
theorem dX0_takePot_21 : decode cX0_takePot 21 = .ok (.putfield 156, 3) := by decide +kernel
theorem dX0_takePot_24 : decode cX0_takePot 24 = .ok (.aload_n 0, 1) := by decide +kernel
theorem dX0_takePot_25 : decode cX0_takePot 25 = .ok (.invokevirtual 44, 3) := by decide +kernel
theorem dX0_takePot_28 : decode cX0_takePot 28 = .ok (.aload_n 0, 1) := by decide +kernel
theorem dX0_takePot_29 : decode cX0_takePot 29 = .ok (.iconst 0, 1) := by decide +kernel
theorem dX0_takePot_30 : decode cX0_takePot 30 = .ok (.bipush 99, 2) := by decide +kernel
theorem dX0_takePot_32 : decode cX0_takePot 32 = .ok (.invokevirtual 130, 3) := by decide +kernel
theorem dX0_takePot_35 : decode cX0_takePot 35 = .ok (.ifCond .ne 5, 3) := by decide +kernel
theorem dX0_takePot_38 : decode cX0_takePot 38 = .ok (.iconst 0, 1) := by decide +kernel
theorem dX0_takePot_39 : decode cX0_takePot 39 = .ok (.ireturn, 1) := by decide +kernel
theorem dX0_takePot_40 : decode cX0_takePot 40 = .ok (.aload_n 0, 1) := by decide +kernel
theorem dX0_takePot_41 : decode cX0_takePot 41 = .ok (.getfield 18, 3) := by decide +kernel
theorem dX0_takePot_44 : decode cX0_takePot 44 = .ok (.aload_n 0, 1) := by decide +kernel
theorem dX0_takePot_45 : decode cX0_takePot 45 = .ok (.getfield 95, 3) := by decide +kernel
theorem dX0_takePot_48 : decode cX0_takePot 48 = .ok (.putfield 160, 3) := by decide +kernel
theorem dX0_takePot_51 : decode cX0_takePot 51 = .ok (.iconst 1, 1) := by decide +kernel
theorem dX0_takePot_52 : decode cX0_takePot 52 = .ok (.ireturn, 1) := by decide +kernel
theorem dX0_takeRule_0 : decode cX0_takeRule 0 = .ok (.aload_n 0, 1) := by decide +kernel
theorem dX0_takeRule_1 : decode cX0_takeRule 1 = .ok (.getfield 18, 3) := by decide +kernel
theorem dX0_takeRule_4 : decode cX0_takeRule 4 = .ok (.getfield 162, 3) := by decide +kernel
theorem dX0_takeRule_7 : decode cX0_takeRule 7 = .ok (.iload_n 1, 1) := by decide +kernel
theorem dX0_takeRule_8 : decode cX0_takeRule 8 = .ok (.baload, 1) := by decide +kernel
theorem dX0_takeRule_9 : decode cX0_takeRule 9 = .ok (.ifCond .eq 9, 3) := by decide +kernel
theorem dX0_takeRule_12 : decode cX0_takeRule 12 = .ok (.aload_n 0, 1) := by decide +kernel
theorem dX0_takeRule_13 : decode cX0_takeRule 13 = .ok (.iconst 5, 1) := by decide +kernel
theorem dX0_takeRule_14 : decode cX0_takeRule 14 = .ok (.invokevirtual 92, 3) := by decide +kernel
theorem dX0_takeRule_17 : decode cX0_takeRule 17 = .ok (.ireturn, 1) := by decide +kernel
theorem dX0_takeRule_18 : decode cX0_takeRule 18 = .ok (.aload_n 0, 1) := by decide +kernel
theorem dX0_takeRule_19 : decode cX0_takeRule 19 = .ok (.getfield 18, 3) := by decide +kernel
theorem dX0_takeRule_22 : decode cX0_takeRule 22 = .ok (.getfield 162, 3) := by decide +kernel
theorem dX0_takeRule_25 : decode cX0_takeRule 25 = .ok (.iload_n 1, 1) := by decide +kernel
theorem dX0_takeRule_26 : decode cX0_takeRule 26 = .ok (.iconst 1, 1) := by decide +kernel
theorem dX0_takeRule_27 : decode cX0_takeRule 27 = .ok (.bastore, 1) := by decide +kernel
theorem dX0_takeRule_28 : decode cX0_takeRule 28 = .ok (.aload_n 0, 1) := by decide +kernel
theorem dX0_takeRule_29 : decode cX0_takeRule 29 = .ok (.iload_n 1, 1) := by decide +kernel
theorem dX0_takeRule_30 : decode cX0_takeRule 30 = .ok (.putfield 165, 3) := by decide +kernel
theorem dX0_takeRule_33 : decode cX0_takeRule 33 = .ok (.aload_n 0, 1) := by decide +kernel
theorem dX0_takeRule_34 : decode cX0_takeRule 34 = .ok (.invokevirtual 44, 3) := by decide +kernel
theorem dX0_takeRule_37 : decode cX0_takeRule 37 = .ok (.aload_n 0, 1) := by decide +kernel
theorem dX0_takeRule_38 : decode cX0_takeRule 38 = .ok (.getfield 18, 3) := by decide +kernel
theorem dX0_takeRule_41 : decode cX0_takeRule 41 = .ok (.getfield 168, 3) := by decide +kernel
theorem dX0_takeRule_44 : decode cX0_takeRule 44 = .ok (.iload_n 1, 1) := by decide +kernel
theorem dX0_takeRule_45 : decode cX0_takeRule 45 = .ok (.aload_n 0, 1) := by decide +kernel
theorem dX0_takeRule_46 : decode cX0_takeRule 46 = .ok (.getfield 18, 3) := by decide +kernel
theorem dX0_takeRule_49 : decode cX0_takeRule 49 = .ok (.getfield 171, 3) := by decide +kernel
theorem dX0_takeRule_52 : decode cX0_takeRule 52 = .ok (.iastore, 1) := by decide +kernel
theorem dX0_takeRule_53 : decode cX0_takeRule 53 = .ok (.aload_n 0, 1) := by decide +kernel
theorem dX0_takeRule_54 : decode cX0_takeRule 54 = .ok (.iconst 0, 1) := by decide +kernel
theorem dX0_takeRule_55 : decode cX0_takeRule 55 = .ok (.invokevirtual 174, 3) := by decide +kernel
theorem dX0_takeRule_58 : decode cX0_takeRule 58 = .ok (.istore_n 2, 1) := by decide +kernel
theorem dX0_takeRule_59 : decode cX0_takeRule 59 = .ok (.aload_n 0, 1) := by decide +kernel
theorem dX0_takeRule_60 : decode cX0_takeRule 60 = .ok (.getfield 18, 3) := by decide +kernel
theorem dX0_takeRule_63 : decode cX0_takeRule 63 = .ok (.getfield 177, 3) := by decide +kernel
theorem dX0_takeRule_66 : decode cX0_takeRule 66 = .ok (.iload_n 1, 1) := by decide +kernel
theorem dX0_takeRule_67 : decode cX0_takeRule 67 = .ok (.aload_n 0, 1) := by decide +kernel
theorem dX0_takeRule_68 : decode cX0_takeRule 68 = .ok (.getfield 18, 3) := by decide +kernel
theorem dX0_takeRule_71 : decode cX0_takeRule 71 = .ok (.getfield 171, 3) := by decide +kernel
theorem dX0_takeRule_74 : decode cX0_takeRule 74 = .ok (.iastore, 1) := by decide +kernel
theorem dX0_takeRule_75 : decode cX0_takeRule 75 = .ok (.iload_n 2, 1) := by decide +kernel
theorem dX0_takeRule_76 : decode cX0_takeRule 76 = .ok (.ireturn, 1) := by decide +kernel
theorem dX0_takeExpr_0 : decode cX0_takeExpr 0 = .ok (.iload_n 1, 1) := by decide +kernel
theorem dX0_takeExpr_1 : decode cX0_takeExpr 1 = .ok (.bipush 6, 2) := by decide +kernel
theorem dX0_takeExpr_3 : decode cX0_takeExpr 3 = .ok (.if_icmp .lt 38, 3) := by decide +kernel
theorem dX0_takeExpr_6 : decode cX0_takeExpr 6 = .ok (.aload_n 0, 1) := by decide +kernel
theorem dX0_takeExpr_7 : decode cX0_takeExpr 7 = .ok (.aload_n 0, 1) := by decide +kernel
theorem dX0_takeExpr_8 : decode cX0_takeExpr 8 = .ok (.getfield 47, 3) := by decide +kernel
theorem dX0_takeExpr_11 : decode cX0_takeExpr 11 = .ok (.iconst 2, 1) := by decide +kernel
theorem dX0_takeExpr_12 : decode cX0_takeExpr 12 = .ok (.if_icmp .eq 20, 3) := by decide +kernel
theorem dX0_takeExpr_15 : decode cX0_takeExpr 15 = .ok (.aload_n 0, 1) := by decide +kernel
theorem dX0_takeExpr_16 : decode cX0_takeExpr 16 = .ok (.getfield 47, 3) := by decide +kernel
theorem dX0_takeExpr_19 : decode cX0_takeExpr 19 = .ok (.iconst 1, 1) := by decide +kernel
theorem dX0_takeExpr_20 : decode cX0_takeExpr 20 = .ok (.if_icmp .eq 12, 3) := by decide +kernel
theorem dX0_takeExpr_23 : decode cX0_takeExpr 23 = .ok (.aload_n 0, 1) := by decide +kernel
theorem dX0_takeExpr_24 : decode cX0_takeExpr 24 = .ok (.bipush 40, 2) := by decide +kernel
theorem dX0_takeExpr_26 : decode cX0_takeExpr 26 = .ok (.invokevirtual 89, 3) := by decide +kernel
theorem dX0_takeExpr_29 : decode cX0_takeExpr 29 = .ok (.ifCond .eq 7, 3) := by decide +kernel
theorem dX0_takeExpr_32 : decode cX0_takeExpr 32 = .ok (.iconst 2, 1) := by decide +kernel
theorem dX0_takeExpr_33 : decode cX0_takeExpr 33 = .ok (.goto 4, 3) := by decide +kernel
theorem dX0_takeExpr_36 : decode cX0_takeExpr 36 = .ok (.iconst 1, 1) := by decide +kernel
theorem dX0_takeExpr_37 : decode cX0_takeExpr 37 = .ok (.invokevirtual 92, 3) := by decide +kernel
theorem dX0_takeExpr_40 : decode cX0_takeExpr 40 = .ok (.ireturn, 1) := by decide +kernel
theorem dX0_takeExpr_41 : decode cX0_takeExpr 41 = .ok (.aload_n 0, 1) := by decide +kernel
theorem dX0_takeExpr_42 : decode cX0_takeExpr 42 = .ok (.iload_n 1, 1) := by decide +kernel
theorem dX0_takeExpr_43 : decode cX0_takeExpr 43 = .ok (.invokevirtual 180, 3) := by decide +kernel
theorem dX0_takeExpr_46 : decode cX0_takeExpr 46 = .ok (.ifCond .ne 5, 3) := by decide +kernel
theorem dX0_takeExpr_49 : decode cX0_takeExpr 49 = .ok (.iconst 0, 1) := by decide +kernel
theorem dX0_takeExpr_50 : decode cX0_takeExpr 50 = .ok (.ireturn, 1) := by decide +kernel
theorem dX0_takeExpr_51 : decode cX0_takeExpr 51 = .ok (.iconst 0, 1) := by decide +kernel
theorem dX0_takeExpr_52 : decode cX0_takeExpr 52 = .ok (.istore_n 2, 1) := by decide +kernel
theorem dX0_takeExpr_53 : decode cX0_takeExpr 53 = .ok (.iload_n 2, 1) := by decide +kernel
theorem dX0_takeExpr_54 : decode cX0_takeExpr 54 = .ok (.aload_n 0, 1) := by decide +kernel
theorem dX0_takeExpr_55 : decode cX0_takeExpr 55 = .ok (.getfield 31, 3) := by decide +kernel
theorem dX0_takeExpr_58 : decode cX0_takeExpr 58 = .ok (.if_icmp .ge 40, 3) := by decide +kernel
theorem dX0_takeExpr_61 : decode cX0_takeExpr 61 = .ok (.aload_n 0, 1) := by decide +kernel
theorem dX0_takeExpr_62 : decode cX0_takeExpr 62 = .ok (.ldc 183, 2) := by decide +kernel
theorem dX0_takeExpr_64 : decode cX0_takeExpr 64 = .ok (.invokevirtual 100, 3) := by decide +kernel
theorem dX0_takeExpr_67 : decode cX0_takeExpr 67 = .ok (.ifCond .eq 31, 3) := by decide +kernel
theorem dX0_takeExpr_70 : decode cX0_takeExpr 70 = .ok (.aload_n 0, 1) := by decide +kernel
theorem dX0_takeExpr_71 : decode cX0_takeExpr 71 = .ok (.invokevirtual 44, 3) := by decide +kernel
theorem dX0_takeExpr_74 : decode cX0_takeExpr 74 = .ok (.aload_n 0, 1) := by decide +kernel
theorem dX0_takeExpr_75 : decode cX0_takeExpr 75 = .ok (.iload_n 1, 1) := by decide +kernel
theorem dX0_takeExpr_76 : decode cX0_takeExpr 76 = .ok (.invokevirtual 180, 3) := by decide +kernel
theorem dX0_takeExpr_79 : decode cX0_takeExpr 79 = .ok (.ifCond .ne 5, 3) := by decide +kernel
theorem dX0_takeExpr_82 : decode cX0_takeExpr 82 = .ok (.iconst 0, 1) := by decide +kernel
theorem dX0_takeExpr_83 : decode cX0_takeExpr 83 = .ok (.ireturn, 1) := by decide +kernel
theorem dX0_takeExpr_84 : decode cX0_takeExpr 84 = .ok (.aload_n 0, 1) := by decide +kernel
theorem dX0_takeExpr_85 : decode cX0_takeExpr 85 = .ok (.getfield 18, 3) := by decide +kernel
theorem dX0_takeExpr_88 : decode cX0_takeExpr 88 = .ok (.iconst (-1), 1) := by decide +kernel
theorem dX0_takeExpr_89 : decode cX0_takeExpr 89 = .ok (.invokevirtual 185, 3) := by decide +kernel
theorem dX0_takeExpr_92 : decode cX0_takeExpr 92 = .ok (.iinc 2 1, 3) := by decide +kernel
theorem dX0_takeExpr_95 : decode cX0_takeExpr 95 = .ok (.goto (-42), 3) := by decide +kernel
theorem dX0_takeExpr_98 : decode cX0_takeExpr 98 = .ok (.iconst 1, 1) := by decide +kernel
theorem dX0_takeExpr_99 : decode cX0_takeExpr 99 = .ok (.ireturn, 1) := by decide +kernel
theorem dX0_takeAnd_0 : decode cX0_takeAnd 0 = .ok (.aload_n 0, 1) := by decide +kernel
theorem dX0_takeAnd_1 : decode cX0_takeAnd 1 = .ok (.iload_n 1, 1) := by decide +kernel
theorem dX0_takeAnd_2 : decode cX0_takeAnd 2 = .ok (.invokevirtual 189, 3) := by decide +kernel
theorem dX0_takeAnd_5 : decode cX0_takeAnd 5 = .ok (.ifCond .ne 5, 3) := by decide +kernel
theorem dX0_takeAnd_8 : decode cX0_takeAnd 8 = .ok (.iconst 0, 1) := by decide +kernel
theorem dX0_takeAnd_9 : decode cX0_takeAnd 9 = .ok (.ireturn, 1) := by decide +kernel
theorem dX0_takeAnd_10 : decode cX0_takeAnd 10 = .ok (.iconst 0, 1) := by decide +kernel
theorem dX0_takeAnd_11 : decode cX0_takeAnd 11 = .ok (.istore_n 2, 1) := by decide +kernel
theorem dX0_takeAnd_12 : decode cX0_takeAnd 12 = .ok (.iload_n 2, 1) := by decide +kernel
theorem dX0_takeAnd_13 : decode cX0_takeAnd 13 = .ok (.aload_n 0, 1) := by decide +kernel
theorem dX0_takeAnd_14 : decode cX0_takeAnd 14 = .ok (.getfield 31, 3) := by decide +kernel
theorem dX0_takeAnd_17 : decode cX0_takeAnd 17 = .ok (.if_icmp .ge 41, 3) := by decide +kernel
theorem dX0_takeAnd_20 : decode cX0_takeAnd 20 = .ok (.aload_n 0, 1) := by decide +kernel
theorem dX0_takeAnd_21 : decode cX0_takeAnd 21 = .ok (.ldc 192, 2) := by decide +kernel
theorem dX0_takeAnd_23 : decode cX0_takeAnd 23 = .ok (.invokevirtual 100, 3) := by decide +kernel
theorem dX0_takeAnd_26 : decode cX0_takeAnd 26 = .ok (.ifCond .eq 32, 3) := by decide +kernel
theorem dX0_takeAnd_29 : decode cX0_takeAnd 29 = .ok (.aload_n 0, 1) := by decide +kernel
theorem dX0_takeAnd_30 : decode cX0_takeAnd 30 = .ok (.invokevirtual 44, 3) := by decide +kernel
theorem dX0_takeAnd_33 : decode cX0_takeAnd 33 = .ok (.aload_n 0, 1) := by decide +kernel
theorem dX0_takeAnd_34 : decode cX0_takeAnd 34 = .ok (.iload_n 1, 1) := by decide +kernel
theorem dX0_takeAnd_35 : decode cX0_takeAnd 35 = .ok (.invokevirtual 189, 3) := by decide +kernel
theorem dX0_takeAnd_38 : decode cX0_takeAnd 38 = .ok (.ifCond .ne 5, 3) := by decide +kernel
theorem dX0_takeAnd_41 : decode cX0_takeAnd 41 = .ok (.iconst 0, 1) := by decide +kernel
theorem dX0_takeAnd_42 : decode cX0_takeAnd 42 = .ok (.ireturn, 1) := by decide +kernel
theorem dX0_takeAnd_43 : decode cX0_takeAnd 43 = .ok (.aload_n 0, 1) := by decide +kernel
theorem dX0_takeAnd_44 : decode cX0_takeAnd 44 = .ok (.getfield 18, 3) := by decide +kernel
theorem dX0_takeAnd_47 : decode cX0_takeAnd 47 = .ok (.bipush (-2), 2) := by decide +kernel
theorem dX0_takeAnd_49 : decode cX0_takeAnd 49 = .ok (.invokevirtual 185, 3) := by decide +kernel
theorem dX0_takeAnd_52 : decode cX0_takeAnd 52 = .ok (.iinc 2 1, 3) := by decide +kernel
theorem dX0_takeAnd_55 : decode cX0_takeAnd 55 = .ok (.goto (-43), 3) := by decide +kernel
theorem dX0_takeAnd_58 : decode cX0_takeAnd 58 = .ok (.iconst 1, 1) := by decide +kernel
theorem dX0_takeAnd_59 : decode cX0_takeAnd 59 = .ok (.ireturn, 1) := by decide +kernel
theorem dX0_takeNot_0 : decode cX0_takeNot 0 = .ok (.iconst 0, 1) := by decide +kernel
theorem dX0_takeNot_1 : decode cX0_takeNot 1 = .ok (.istore_n 2, 1) := by decide +kernel
theorem dX0_takeNot_2 : decode cX0_takeNot 2 = .ok (.iload_n 2, 1) := by decide +kernel
theorem dX0_takeNot_3 : decode cX0_takeNot 3 = .ok (.bipush 6, 2) := by decide +kernel
theorem dX0_takeNot_5 : decode cX0_takeNot 5 = .ok (.if_icmp .ge 22, 3) := by decide +kernel
theorem dX0_takeNot_8 : decode cX0_takeNot 8 = .ok (.aload_n 0, 1) := by decide +kernel
theorem dX0_takeNot_9 : decode cX0_takeNot 9 = .ok (.ldc 194, 2) := by decide +kernel
theorem dX0_takeNot_11 : decode cX0_takeNot 11 = .ok (.invokevirtual 100, 3) := by decide +kernel
theorem dX0_takeNot_14 : decode cX0_takeNot 14 = .ok (.ifCond .eq 13, 3) := by decide +kernel
theorem dX0_takeNot_17 : decode cX0_takeNot 17 = .ok (.aload_n 0, 1) := by decide +kernel
theorem dX0_takeNot_18 : decode cX0_takeNot 18 = .ok (.invokevirtual 44, 3) := by decide +kernel
theorem dX0_takeNot_21 : decode cX0_takeNot 21 = .ok (.iinc 2 1, 3) := by decide +kernel
theorem dX0_takeNot_24 : decode cX0_takeNot 24 = .ok (.goto (-22), 3) := by decide +kernel
theorem dX0_takeNot_27 : decode cX0_takeNot 27 = .ok (.iload_n 2, 1) := by decide +kernel
theorem dX0_takeNot_28 : decode cX0_takeNot 28 = .ok (.bipush 6, 2) := by decide +kernel
theorem dX0_takeNot_30 : decode cX0_takeNot 30 = .ok (.if_icmp .ne 18, 3) := by decide +kernel
theorem dX0_takeNot_33 : decode cX0_takeNot 33 = .ok (.aload_n 0, 1) := by decide +kernel
theorem dX0_takeNot_34 : decode cX0_takeNot 34 = .ok (.ldc 194, 2) := by decide +kernel
theorem dX0_takeNot_36 : decode cX0_takeNot 36 = .ok (.invokevirtual 100, 3) := by decide +kernel
theorem dX0_takeNot_39 : decode cX0_takeNot 39 = .ok (.ifCond .eq 9, 3) := by decide +kernel
theorem dX0_takeNot_42 : decode cX0_takeNot 42 = .ok (.aload_n 0, 1) := by decide +kernel
theorem dX0_takeNot_43 : decode cX0_takeNot 43 = .ok (.iconst 2, 1) := by decide +kernel
theorem dX0_takeNot_44 : decode cX0_takeNot 44 = .ok (.invokevirtual 92, 3) := by decide +kernel
theorem dX0_takeNot_47 : decode cX0_takeNot 47 = .ok (.ireturn, 1) := by decide +kernel
theorem dX0_takeNot_48 : decode cX0_takeNot 48 = .ok (.aload_n 0, 1) := by decide +kernel
theorem dX0_takeNot_49 : decode cX0_takeNot 49 = .ok (.iload_n 1, 1) := by decide +kernel
theorem dX0_takeNot_50 : decode cX0_takeNot 50 = .ok (.invokevirtual 196, 3) := by decide +kernel
theorem dX0_takeNot_53 : decode cX0_takeNot 53 = .ok (.ifCond .ne 5, 3) := by decide +kernel
theorem dX0_takeNot_56 : decode cX0_takeNot 56 = .ok (.iconst 0, 1) := by decide +kernel
theorem dX0_takeNot_57 : decode cX0_takeNot 57 = .ok (.ireturn, 1) := by decide +kernel
theorem dX0_takeNot_58 : decode cX0_takeNot 58 = .ok (.iconst 0, 1) := by decide +kernel
theorem dX0_takeNot_59 : decode cX0_takeNot 59 = .ok (.istore_n 3, 1) := by decide +kernel
theorem dX0_takeNot_60 : decode cX0_takeNot 60 = .ok (.iload_n 3, 1) := by decide +kernel
theorem dX0_takeNot_61 : decode cX0_takeNot 61 = .ok (.iload_n 2, 1) := by decide +kernel
theorem dX0_takeNot_62 : decode cX0_takeNot 62 = .ok (.if_icmp .ge 18, 3) := by decide +kernel
theorem dX0_takeNot_65 : decode cX0_takeNot 65 = .ok (.aload_n 0, 1) := by decide +kernel
theorem dX0_takeNot_66 : decode cX0_takeNot 66 = .ok (.getfield 18, 3) := by decide +kernel
theorem dX0_takeNot_69 : decode cX0_takeNot 69 = .ok (.bipush (-3), 2) := by decide +kernel
theorem dX0_takeNot_71 : decode cX0_takeNot 71 = .ok (.invokevirtual 185, 3) := by decide +kernel
theorem dX0_takeNot_74 : decode cX0_takeNot 74 = .ok (.iinc 3 1, 3) := by decide +kernel
theorem dX0_takeNot_77 : decode cX0_takeNot 77 = .ok (.goto (-17), 3) := by decide +kernel
theorem dX0_takeNot_80 : decode cX0_takeNot 80 = .ok (.iconst 1, 1) := by decide +kernel
theorem dX0_takeNot_81 : decode cX0_takeNot 81 = .ok (.ireturn, 1) := by decide +kernel
theorem dX0_takeTest_0 : decode cX0_takeTest 0 = .ok (.aload_n 0, 1) := by decide +kernel
theorem dX0_takeTest_1 : decode cX0_takeTest 1 = .ok (.iload_n 1, 1) := by decide +kernel
theorem dX0_takeTest_2 : decode cX0_takeTest 2 = .ok (.invokevirtual 199, 3) := by decide +kernel
theorem dX0_takeTest_5 : decode cX0_takeTest 5 = .ok (.ifCond .ne 5, 3) := by decide +kernel
theorem dX0_takeTest_8 : decode cX0_takeTest 8 = .ok (.iconst 0, 1) := by decide +kernel
theorem dX0_takeTest_9 : decode cX0_takeTest 9 = .ok (.ireturn, 1) := by decide +kernel
theorem dX0_takeTest_10 : decode cX0_takeTest 10 = .ok (.aload_n 0, 1) := by decide +kernel
theorem dX0_takeTest_11 : decode cX0_takeTest 11 = .ok (.bipush 60, 2) := by decide +kernel
theorem dX0_takeTest_13 : decode cX0_takeTest 13 = .ok (.invokevirtual 89, 3) := by decide +kernel
theorem dX0_takeTest_16 : decode cX0_takeTest 16 = .ok (.istore_n 2, 1) := by decide +kernel
theorem dX0_takeTest_17 : decode cX0_takeTest 17 = .ok (.iload_n 2, 1) := by decide +kernel
theorem dX0_takeTest_18 : decode cX0_takeTest 18 = .ok (.ifCond .ne 14, 3) := by decide +kernel
theorem dX0_takeTest_21 : decode cX0_takeTest 21 = .ok (.aload_n 0, 1) := by decide +kernel
theorem dX0_takeTest_22 : decode cX0_takeTest 22 = .ok (.bipush 61, 2) := by decide +kernel
theorem dX0_takeTest_24 : decode cX0_takeTest 24 = .ok (.invokevirtual 89, 3) := by decide +kernel
theorem dX0_takeTest_27 : decode cX0_takeTest 27 = .ok (.ifCond .ne 5, 3) := by decide +kernel
theorem dX0_takeTest_30 : decode cX0_takeTest 30 = .ok (.iconst 1, 1) := by decide +kernel
theorem dX0_takeTest_31 : decode cX0_takeTest 31 = .ok (.ireturn, 1) := by decide +kernel
theorem dX0_takeTest_32 : decode cX0_takeTest 32 = .ok (.aload_n 0, 1) := by decide +kernel
theorem dX0_takeTest_33 : decode cX0_takeTest 33 = .ok (.invokevirtual 44, 3) := by decide +kernel
theorem dX0_takeTest_36 : decode cX0_takeTest 36 = .ok (.aload_n 0, 1) := by decide +kernel
theorem dX0_takeTest_37 : decode cX0_takeTest 37 = .ok (.iload_n 1, 1) := by decide +kernel
theorem dX0_takeTest_38 : decode cX0_takeTest 38 = .ok (.invokevirtual 199, 3) := by decide +kernel
theorem dX0_takeTest_41 : decode cX0_takeTest 41 = .ok (.ifCond .ne 5, 3) := by decide +kernel
theorem dX0_takeTest_44 : decode cX0_takeTest 44 = .ok (.iconst 0, 1) := by decide +kernel
theorem dX0_takeTest_45 : decode cX0_takeTest 45 = .ok (.ireturn, 1) := by decide +kernel
theorem dX0_takeTest_46 : decode cX0_takeTest 46 = .ok (.aload_n 0, 1) := by decide +kernel
theorem dX0_takeTest_47 : decode cX0_takeTest 47 = .ok (.getfield 18, 3) := by decide +kernel
theorem dX0_takeTest_50 : decode cX0_takeTest 50 = .ok (.iload_n 2, 1) := by decide +kernel
theorem dX0_takeTest_51 : decode cX0_takeTest 51 = .ok (.ifCond .eq 8, 3) := by decide +kernel
theorem dX0_takeTest_54 : decode cX0_takeTest 54 = .ok (.bipush (-4), 2) := by decide +kernel
theorem dX0_takeTest_56 : decode cX0_takeTest 56 = .ok (.goto 5, 3) := by decide +kernel
theorem dX0_takeTest_59 : decode cX0_takeTest 59 = .ok (.bipush (-5), 2) := by decide +kernel
theorem dX0_takeTest_61 : decode cX0_takeTest 61 = .ok (.invokevirtual 185, 3) := by decide +kernel
theorem dX0_takeTest_64 : decode cX0_takeTest 64 = .ok (.iconst 1, 1) := by decide +kernel
theorem dX0_takeTest_65 : decode cX0_takeTest 65 = .ok (.ireturn, 1) := by decide +kernel
theorem dX0_takeSum_0 : decode cX0_takeSum 0 = .ok (.aload_n 0, 1) := by decide +kernel
theorem dX0_takeSum_1 : decode cX0_takeSum 1 = .ok (.iload_n 1, 1) := by decide +kernel
theorem dX0_takeSum_2 : decode cX0_takeSum 2 = .ok (.invokevirtual 202, 3) := by decide +kernel
theorem dX0_takeSum_5 : decode cX0_takeSum 5 = .ok (.ifCond .ne 5, 3) := by decide +kernel
theorem dX0_takeSum_8 : decode cX0_takeSum 8 = .ok (.iconst 0, 1) := by decide +kernel
theorem dX0_takeSum_9 : decode cX0_takeSum 9 = .ok (.ireturn, 1) := by decide +kernel
theorem dX0_takeSum_10 : decode cX0_takeSum 10 = .ok (.iconst 0, 1) := by decide +kernel
theorem dX0_takeSum_11 : decode cX0_takeSum 11 = .ok (.istore_n 2, 1) := by decide +kernel
theorem dX0_takeSum_12 : decode cX0_takeSum 12 = .ok (.iload_n 2, 1) := by decide +kernel
theorem dX0_takeSum_13 : decode cX0_takeSum 13 = .ok (.aload_n 0, 1) := by decide +kernel
theorem dX0_takeSum_14 : decode cX0_takeSum 14 = .ok (.getfield 31, 3) := by decide +kernel
theorem dX0_takeSum_17 : decode cX0_takeSum 17 = .ok (.if_icmp .ge 66, 3) := by decide +kernel
theorem dX0_takeSum_20 : decode cX0_takeSum 20 = .ok (.aload_n 0, 1) := by decide +kernel
theorem dX0_takeSum_21 : decode cX0_takeSum 21 = .ok (.bipush 43, 2) := by decide +kernel
theorem dX0_takeSum_23 : decode cX0_takeSum 23 = .ok (.invokevirtual 89, 3) := by decide +kernel
theorem dX0_takeSum_26 : decode cX0_takeSum 26 = .ok (.ifCond .ne 12, 3) := by decide +kernel
theorem dX0_takeSum_29 : decode cX0_takeSum 29 = .ok (.aload_n 0, 1) := by decide +kernel
theorem dX0_takeSum_30 : decode cX0_takeSum 30 = .ok (.bipush 45, 2) := by decide +kernel
theorem dX0_takeSum_32 : decode cX0_takeSum 32 = .ok (.invokevirtual 89, 3) := by decide +kernel
theorem dX0_takeSum_35 : decode cX0_takeSum 35 = .ok (.ifCond .eq 48, 3) := by decide +kernel
theorem dX0_takeSum_38 : decode cX0_takeSum 38 = .ok (.aload_n 0, 1) := by decide +kernel
theorem dX0_takeSum_39 : decode cX0_takeSum 39 = .ok (.bipush 43, 2) := by decide +kernel
theorem dX0_takeSum_41 : decode cX0_takeSum 41 = .ok (.invokevirtual 89, 3) := by decide +kernel
theorem dX0_takeSum_44 : decode cX0_takeSum 44 = .ok (.ifCond .eq 8, 3) := by decide +kernel
theorem dX0_takeSum_47 : decode cX0_takeSum 47 = .ok (.bipush (-6), 2) := by decide +kernel
theorem dX0_takeSum_49 : decode cX0_takeSum 49 = .ok (.goto 5, 3) := by decide +kernel
theorem dX0_takeSum_52 : decode cX0_takeSum 52 = .ok (.bipush (-7), 2) := by decide +kernel
theorem dX0_takeSum_54 : decode cX0_takeSum 54 = .ok (.istore_n 3, 1) := by decide +kernel
theorem dX0_takeSum_55 : decode cX0_takeSum 55 = .ok (.aload_n 0, 1) := by decide +kernel
theorem dX0_takeSum_56 : decode cX0_takeSum 56 = .ok (.invokevirtual 44, 3) := by decide +kernel
theorem dX0_takeSum_59 : decode cX0_takeSum 59 = .ok (.aload_n 0, 1) := by decide +kernel
theorem dX0_takeSum_60 : decode cX0_takeSum 60 = .ok (.iload_n 1, 1) := by decide +kernel
theorem dX0_takeSum_61 : decode cX0_takeSum 61 = .ok (.invokevirtual 202, 3) := by decide +kernel
theorem dX0_takeSum_64 : decode cX0_takeSum 64 = .ok (.ifCond .ne 5, 3) := by decide +kernel
theorem dX0_takeSum_67 : decode cX0_takeSum 67 = .ok (.iconst 0, 1) := by decide +kernel
theorem dX0_takeSum_68 : decode cX0_takeSum 68 = .ok (.ireturn, 1) := by decide +kernel
theorem dX0_takeSum_69 : decode cX0_takeSum 69 = .ok (.aload_n 0, 1) := by decide +kernel
theorem dX0_takeSum_70 : decode cX0_takeSum 70 = .ok (.getfield 18, 3) := by decide +kernel
theorem dX0_takeSum_73 : decode cX0_takeSum 73 = .ok (.iload_n 3, 1) := by decide +kernel
theorem dX0_takeSum_74 : decode cX0_takeSum 74 = .ok (.invokevirtual 185, 3) := by decide +kernel
theorem dX0_takeSum_77 : decode cX0_takeSum 77 = .ok (.iinc 2 1, 3) := by decide +kernel
theorem dX0_takeSum_80 : decode cX0_takeSum 80 = .ok (.goto (-68), 3) := by decide +kernel
theorem dX0_takeSum_83 : decode cX0_takeSum 83 = .ok (.iconst 1, 1) := by decide +kernel
theorem dX0_takeSum_84 : decode cX0_takeSum 84 = .ok (.ireturn, 1) := by decide +kernel
theorem dX0_takeProduct_0 : decode cX0_takeProduct 0 = .ok (.aload_n 0, 1) := by decide +kernel
theorem dX0_takeProduct_1 : decode cX0_takeProduct 1 = .ok (.iload_n 1, 1) := by decide +kernel
theorem dX0_takeProduct_2 : decode cX0_takeProduct 2 = .ok (.invokevirtual 205, 3) := by decide +kernel
theorem dX0_takeProduct_5 : decode cX0_takeProduct 5 = .ok (.ifCond .ne 5, 3) := by decide +kernel
theorem dX0_takeProduct_8 : decode cX0_takeProduct 8 = .ok (.iconst 0, 1) := by decide +kernel
theorem dX0_takeProduct_9 : decode cX0_takeProduct 9 = .ok (.ireturn, 1) := by decide +kernel
theorem dX0_takeProduct_10 : decode cX0_takeProduct 10 = .ok (.iconst 0, 1) := by decide +kernel
theorem dX0_takeProduct_11 : decode cX0_takeProduct 11 = .ok (.istore_n 2, 1) := by decide +kernel
theorem dX0_takeProduct_12 : decode cX0_takeProduct 12 = .ok (.iload_n 2, 1) := by decide +kernel
theorem dX0_takeProduct_13 : decode cX0_takeProduct 13 = .ok (.aload_n 0, 1) := by decide +kernel
theorem dX0_takeProduct_14 : decode cX0_takeProduct 14 = .ok (.getfield 31, 3) := by decide +kernel
theorem dX0_takeProduct_17 : decode cX0_takeProduct 17 = .ok (.if_icmp .ge 66, 3) := by decide +kernel
theorem dX0_takeProduct_20 : decode cX0_takeProduct 20 = .ok (.aload_n 0, 1) := by decide +kernel
theorem dX0_takeProduct_21 : decode cX0_takeProduct 21 = .ok (.bipush 42, 2) := by decide +kernel
theorem dX0_takeProduct_23 : decode cX0_takeProduct 23 = .ok (.invokevirtual 89, 3) := by decide +kernel
theorem dX0_takeProduct_26 : decode cX0_takeProduct 26 = .ok (.ifCond .ne 12, 3) := by decide +kernel
theorem dX0_takeProduct_29 : decode cX0_takeProduct 29 = .ok (.aload_n 0, 1) := by decide +kernel
theorem dX0_takeProduct_30 : decode cX0_takeProduct 30 = .ok (.bipush 47, 2) := by decide +kernel
theorem dX0_takeProduct_32 : decode cX0_takeProduct 32 = .ok (.invokevirtual 89, 3) := by decide +kernel
theorem dX0_takeProduct_35 : decode cX0_takeProduct 35 = .ok (.ifCond .eq 48, 3) := by decide +kernel
theorem dX0_takeProduct_38 : decode cX0_takeProduct 38 = .ok (.aload_n 0, 1) := by decide +kernel
theorem dX0_takeProduct_39 : decode cX0_takeProduct 39 = .ok (.bipush 42, 2) := by decide +kernel
theorem dX0_takeProduct_41 : decode cX0_takeProduct 41 = .ok (.invokevirtual 89, 3) := by decide +kernel
theorem dX0_takeProduct_44 : decode cX0_takeProduct 44 = .ok (.ifCond .eq 8, 3) := by decide +kernel
theorem dX0_takeProduct_47 : decode cX0_takeProduct 47 = .ok (.bipush (-8), 2) := by decide +kernel
theorem dX0_takeProduct_49 : decode cX0_takeProduct 49 = .ok (.goto 5, 3) := by decide +kernel
theorem dX0_takeProduct_52 : decode cX0_takeProduct 52 = .ok (.bipush (-9), 2) := by decide +kernel
theorem dX0_takeProduct_54 : decode cX0_takeProduct 54 = .ok (.istore_n 3, 1) := by decide +kernel
theorem dX0_takeProduct_55 : decode cX0_takeProduct 55 = .ok (.aload_n 0, 1) := by decide +kernel
theorem dX0_takeProduct_56 : decode cX0_takeProduct 56 = .ok (.invokevirtual 44, 3) := by decide +kernel
theorem dX0_takeProduct_59 : decode cX0_takeProduct 59 = .ok (.aload_n 0, 1) := by decide +kernel
theorem dX0_takeProduct_60 : decode cX0_takeProduct 60 = .ok (.iload_n 1, 1) := by decide +kernel
theorem dX0_takeProduct_61 : decode cX0_takeProduct 61 = .ok (.invokevirtual 205, 3) := by decide +kernel
theorem dX0_takeProduct_64 : decode cX0_takeProduct 64 = .ok (.ifCond .ne 5, 3) := by decide +kernel
theorem dX0_takeProduct_67 : decode cX0_takeProduct 67 = .ok (.iconst 0, 1) := by decide +kernel
theorem dX0_takeProduct_68 : decode cX0_takeProduct 68 = .ok (.ireturn, 1) := by decide +kernel
theorem dX0_takeProduct_69 : decode cX0_takeProduct 69 = .ok (.aload_n 0, 1) := by decide +kernel
theorem dX0_takeProduct_70 : decode cX0_takeProduct 70 = .ok (.getfield 18, 3) := by decide +kernel
theorem dX0_takeProduct_73 : decode cX0_takeProduct 73 = .ok (.iload_n 3, 1) := by decide +kernel
theorem dX0_takeProduct_74 : decode cX0_takeProduct 74 = .ok (.invokevirtual 185, 3) := by decide +kernel
theorem dX0_takeProduct_77 : decode cX0_takeProduct 77 = .ok (.iinc 2 1, 3) := by decide +kernel
theorem dX0_takeProduct_80 : decode cX0_takeProduct 80 = .ok (.goto (-68), 3) := by decide +kernel
theorem dX0_takeProduct_83 : decode cX0_takeProduct 83 = .ok (.iconst 1, 1) := by decide +kernel
theorem dX0_takeProduct_84 : decode cX0_takeProduct 84 = .ok (.ireturn, 1) := by decide +kernel
theorem dX0_takePart_0 : decode cX0_takePart 0 = .ok (.aload_n 0, 1) := by decide +kernel
theorem dX0_takePart_1 : decode cX0_takePart 1 = .ok (.bipush 40, 2) := by decide +kernel
theorem dX0_takePart_3 : decode cX0_takePart 3 = .ok (.invokevirtual 89, 3) := by decide +kernel
theorem dX0_takePart_6 : decode cX0_takePart 6 = .ok (.ifCond .eq 32, 3) := by decide +kernel
theorem dX0_takePart_9 : decode cX0_takePart 9 = .ok (.aload_n 0, 1) := by decide +kernel
theorem dX0_takePart_10 : decode cX0_takePart 10 = .ok (.invokevirtual 44, 3) := by decide +kernel
theorem dX0_takePart_13 : decode cX0_takePart 13 = .ok (.aload_n 0, 1) := by decide +kernel
theorem dX0_takePart_14 : decode cX0_takePart 14 = .ok (.iload_n 1, 1) := by decide +kernel
theorem dX0_takePart_15 : decode cX0_takePart 15 = .ok (.iconst 1, 1) := by decide +kernel
theorem dX0_takePart_16 : decode cX0_takePart 16 = .ok (.iadd, 1) := by decide +kernel
theorem dX0_takePart_17 : decode cX0_takePart 17 = .ok (.invokevirtual 174, 3) := by decide +kernel
theorem dX0_takePart_20 : decode cX0_takePart 20 = .ok (.ifCond .eq 16, 3) := by decide +kernel
theorem dX0_takePart_23 : decode cX0_takePart 23 = .ok (.aload_n 0, 1) := by decide +kernel
theorem dX0_takePart_24 : decode cX0_takePart 24 = .ok (.bipush 41, 2) := by decide +kernel
theorem dX0_takePart_26 : decode cX0_takePart 26 = .ok (.invokevirtual 54, 3) := by decide +kernel
theorem dX0_takePart_29 : decode cX0_takePart 29 = .ok (.ifCond .eq 7, 3) := by decide +kernel
theorem dX0_takePart_32 : decode cX0_takePart 32 = .ok (.iconst 1, 1) := by decide +kernel
theorem dX0_takePart_33 : decode cX0_takePart 33 = .ok (.goto 4, 3) := by decide +kernel
theorem dX0_takePart_36 : decode cX0_takePart 36 = .ok (.iconst 0, 1) := by decide +kernel
theorem dX0_takePart_37 : decode cX0_takePart 37 = .ok (.ireturn, 1) := by decide +kernel
theorem dX0_takePart_38 : decode cX0_takePart 38 = .ok (.aload_n 0, 1) := by decide +kernel
theorem dX0_takePart_39 : decode cX0_takePart 39 = .ok (.getfield 47, 3) := by decide +kernel
theorem dX0_takePart_42 : decode cX0_takePart 42 = .ok (.iconst 1, 1) := by decide +kernel
theorem dX0_takePart_43 : decode cX0_takePart 43 = .ok (.if_icmp .ne 60, 3) := by decide +kernel
theorem dX0_takePart_46 : decode cX0_takePart 46 = .ok (.aload_n 0, 1) := by decide +kernel
theorem dX0_takePart_47 : decode cX0_takePart 47 = .ok (.invokevirtual 208, 3) := by decide +kernel
theorem dX0_takePart_50 : decode cX0_takePart 50 = .ok (.istore_n 2, 1) := by decide +kernel
theorem dX0_takePart_51 : decode cX0_takePart 51 = .ok (.iload_n 2, 1) := by decide +kernel
theorem dX0_takePart_52 : decode cX0_takePart 52 = .ok (.ifCond .ne 9, 3) := by decide +kernel
theorem dX0_takePart_55 : decode cX0_takePart 55 = .ok (.aload_n 0, 1) := by decide +kernel
theorem dX0_takePart_56 : decode cX0_takePart 56 = .ok (.iconst 3, 1) := by decide +kernel
theorem dX0_takePart_57 : decode cX0_takePart 57 = .ok (.invokevirtual 92, 3) := by decide +kernel
theorem dX0_takePart_60 : decode cX0_takePart 60 = .ok (.ireturn, 1) := by decide +kernel
theorem dX0_takePart_61 : decode cX0_takePart 61 = .ok (.aload_n 0, 1) := by decide +kernel
theorem dX0_takePart_62 : decode cX0_takePart 62 = .ok (.getfield 18, 3) := by decide +kernel
theorem dX0_takePart_65 : decode cX0_takePart 65 = .ok (.iload_n 2, 1) := by decide +kernel
theorem dX0_takePart_66 : decode cX0_takePart 66 = .ok (.invokevirtual 185, 3) := by decide +kernel
theorem dX0_takePart_69 : decode cX0_takePart 69 = .ok (.iload_n 2, 1) := by decide +kernel
theorem dX0_takePart_70 : decode cX0_takePart 70 = .ok (.bipush (-11), 2) := by decide +kernel
theorem dX0_takePart_72 : decode cX0_takePart 72 = .ok (.if_icmp .eq 15, 3) := by decide +kernel
theorem dX0_takePart_75 : decode cX0_takePart 75 = .ok (.iload_n 2, 1) := by decide +kernel
theorem dX0_takePart_76 : decode cX0_takePart 76 = .ok (.bipush (-12), 2) := by decide +kernel
theorem dX0_takePart_78 : decode cX0_takePart 78 = .ok (.if_icmp .eq 9, 3) := by decide +kernel
theorem dX0_takePart_81 : decode cX0_takePart 81 = .ok (.iload_n 2, 1) := by decide +kernel
theorem dX0_takePart_82 : decode cX0_takePart 82 = .ok (.bipush (-13), 2) := by decide +kernel
theorem dX0_takePart_84 : decode cX0_takePart 84 = .ok (.if_icmp .ne 16, 3) := by decide +kernel
theorem dX0_takePart_87 : decode cX0_takePart 87 = .ok (.aload_n 0, 1) := by decide +kernel
theorem dX0_takePart_88 : decode cX0_takePart 88 = .ok (.getfield 18, 3) := by decide +kernel
theorem dX0_takePart_91 : decode cX0_takePart 91 = .ok (.getfield 211, 3) := by decide +kernel
theorem dX0_takePart_94 : decode cX0_takePart 94 = .ok (.aload_n 0, 1) := by decide +kernel
theorem dX0_takePart_95 : decode cX0_takePart 95 = .ok (.getfield 165, 3) := by decide +kernel
theorem dX0_takePart_98 : decode cX0_takePart 98 = .ok (.iconst 1, 1) := by decide +kernel
theorem dX0_takePart_99 : decode cX0_takePart 99 = .ok (.bastore, 1) := by decide +kernel
theorem dX0_takePart_100 : decode cX0_takePart 100 = .ok (.goto 41, 3) := by decide +kernel
theorem dX0_takePart_103 : decode cX0_takePart 103 = .ok (.aload_n 0, 1) := by decide +kernel
theorem dX0_takePart_104 : decode cX0_takePart 104 = .ok (.getfield 47, 3) := by decide +kernel
theorem dX0_takePart_107 : decode cX0_takePart 107 = .ok (.iconst 2, 1) := by decide +kernel
theorem dX0_takePart_108 : decode cX0_takePart 108 = .ok (.if_icmp .eq 9, 3) := by decide +kernel
theorem dX0_takePart_111 : decode cX0_takePart 111 = .ok (.aload_n 0, 1) := by decide +kernel
theorem dX0_takePart_112 : decode cX0_takePart 112 = .ok (.iconst 1, 1) := by decide +kernel
theorem dX0_takePart_113 : decode cX0_takePart 113 = .ok (.invokevirtual 92, 3) := by decide +kernel
theorem dX0_takePart_116 : decode cX0_takePart 116 = .ok (.ireturn, 1) := by decide +kernel
theorem dX0_takePart_117 : decode cX0_takePart 117 = .ok (.aload_n 0, 1) := by decide +kernel
theorem dX0_takePart_118 : decode cX0_takePart 118 = .ok (.invokevirtual 77, 3) := by decide +kernel
theorem dX0_takePart_121 : decode cX0_takePart 121 = .ok (.ifCond .eq 9, 3) := by decide +kernel
theorem dX0_takePart_124 : decode cX0_takePart 124 = .ok (.aload_n 0, 1) := by decide +kernel
theorem dX0_takePart_125 : decode cX0_takePart 125 = .ok (.iconst 2, 1) := by decide +kernel
theorem dX0_takePart_126 : decode cX0_takePart 126 = .ok (.invokevirtual 92, 3) := by decide +kernel
theorem dX0_takePart_129 : decode cX0_takePart 129 = .ok (.ireturn, 1) := by decide +kernel
theorem dX0_takePart_130 : decode cX0_takePart 130 = .ok (.aload_n 0, 1) := by decide +kernel
theorem dX0_takePart_131 : decode cX0_takePart 131 = .ok (.getfield 18, 3) := by decide +kernel
theorem dX0_takePart_134 : decode cX0_takePart 134 = .ok (.aload_n 0, 1) := by decide +kernel
theorem dX0_takePart_135 : decode cX0_takePart 135 = .ok (.getfield 68, 3) := by decide +kernel
theorem dX0_takePart_138 : decode cX0_takePart 138 = .ok (.invokevirtual 185, 3) := by decide +kernel
theorem dX0_takePart_141 : decode cX0_takePart 141 = .ok (.aload_n 0, 1) := by decide +kernel
theorem dX0_takePart_142 : decode cX0_takePart 142 = .ok (.invokevirtual 44, 3) := by decide +kernel
theorem dX0_takePart_145 : decode cX0_takePart 145 = .ok (.iconst 1, 1) := by decide +kernel
theorem dX0_takePart_146 : decode cX0_takePart 146 = .ok (.ireturn, 1) := by decide +kernel
theorem dX0_valueNamed_0 : decode cX0_valueNamed 0 = .ok (.aload_n 0, 1) := by decide +kernel
theorem dX0_valueNamed_1 : decode cX0_valueNamed 1 = .ok (.ldc 214, 2) := by decide +kernel
theorem dX0_valueNamed_3 : decode cX0_valueNamed 3 = .ok (.invokevirtual 100, 3) := by decide +kernel
theorem dX0_valueNamed_6 : decode cX0_valueNamed 6 = .ok (.ifCond .eq 6, 3) := by decide +kernel
theorem dX0_valueNamed_9 : decode cX0_valueNamed 9 = .ok (.bipush (-10), 2) := by decide +kernel
theorem dX0_valueNamed_11 : decode cX0_valueNamed 11 = .ok (.ireturn, 1) := by decide +kernel
theorem dX0_valueNamed_12 : decode cX0_valueNamed 12 = .ok (.aload_n 0, 1) := by decide +kernel
theorem dX0_valueNamed_13 : decode cX0_valueNamed 13 = .ok (.ldc 216, 2) := by decide +kernel
theorem dX0_valueNamed_15 : decode cX0_valueNamed 15 = .ok (.invokevirtual 100, 3) := by decide +kernel
theorem dX0_valueNamed_18 : decode cX0_valueNamed 18 = .ok (.ifCond .eq 6, 3) := by decide +kernel
theorem dX0_valueNamed_21 : decode cX0_valueNamed 21 = .ok (.bipush (-11), 2) := by decide +kernel
theorem dX0_valueNamed_23 : decode cX0_valueNamed 23 = .ok (.ireturn, 1) := by decide +kernel
theorem dX0_valueNamed_24 : decode cX0_valueNamed 24 = .ok (.aload_n 0, 1) := by decide +kernel
theorem dX0_valueNamed_25 : decode cX0_valueNamed 25 = .ok (.ldc 218, 2) := by decide +kernel
theorem dX0_valueNamed_27 : decode cX0_valueNamed 27 = .ok (.invokevirtual 100, 3) := by decide +kernel
theorem dX0_valueNamed_30 : decode cX0_valueNamed 30 = .ok (.ifCond .eq 6, 3) := by decide +kernel
theorem dX0_valueNamed_33 : decode cX0_valueNamed 33 = .ok (.bipush (-12), 2) := by decide +kernel
theorem dX0_valueNamed_35 : decode cX0_valueNamed 35 = .ok (.ireturn, 1) := by decide +kernel
theorem dX0_valueNamed_36 : decode cX0_valueNamed 36 = .ok (.aload_n 0, 1) := by decide +kernel
theorem dX0_valueNamed_37 : decode cX0_valueNamed 37 = .ok (.ldc 220, 2) := by decide +kernel
theorem dX0_valueNamed_39 : decode cX0_valueNamed 39 = .ok (.invokevirtual 100, 3) := by decide +kernel
theorem dX0_valueNamed_42 : decode cX0_valueNamed 42 = .ok (.ifCond .eq 6, 3) := by decide +kernel
theorem dX0_valueNamed_45 : decode cX0_valueNamed 45 = .ok (.bipush (-13), 2) := by decide +kernel
theorem dX0_valueNamed_47 : decode cX0_valueNamed 47 = .ok (.ireturn, 1) := by decide +kernel
theorem dX0_valueNamed_48 : decode cX0_valueNamed 48 = .ok (.aload_n 0, 1) := by decide +kernel
theorem dX0_valueNamed_49 : decode cX0_valueNamed 49 = .ok (.ldc 222, 2) := by decide +kernel
theorem dX0_valueNamed_51 : decode cX0_valueNamed 51 = .ok (.invokevirtual 100, 3) := by decide +kernel
theorem dX0_valueNamed_54 : decode cX0_valueNamed 54 = .ok (.ifCond .eq 6, 3) := by decide +kernel
theorem dX0_valueNamed_57 : decode cX0_valueNamed 57 = .ok (.bipush (-14), 2) := by decide +kernel
theorem dX0_valueNamed_59 : decode cX0_valueNamed 59 = .ok (.ireturn, 1) := by decide +kernel
theorem dX0_valueNamed_60 : decode cX0_valueNamed 60 = .ok (.aload_n 0, 1) := by decide +kernel
theorem dX0_valueNamed_61 : decode cX0_valueNamed 61 = .ok (.getfield 165, 3) := by decide +kernel
theorem dX0_valueNamed_64 : decode cX0_valueNamed 64 = .ok (.ifCond .ne 15, 3) := by decide +kernel
theorem dX0_valueNamed_67 : decode cX0_valueNamed 67 = .ok (.aload_n 0, 1) := by decide +kernel
theorem dX0_valueNamed_68 : decode cX0_valueNamed 68 = .ok (.ldc 224, 2) := by decide +kernel
theorem dX0_valueNamed_70 : decode cX0_valueNamed 70 = .ok (.invokevirtual 100, 3) := by decide +kernel
theorem dX0_valueNamed_73 : decode cX0_valueNamed 73 = .ok (.ifCond .eq 6, 3) := by decide +kernel
theorem dX0_valueNamed_76 : decode cX0_valueNamed 76 = .ok (.bipush (-15), 2) := by decide +kernel
theorem dX0_valueNamed_78 : decode cX0_valueNamed 78 = .ok (.ireturn, 1) := by decide +kernel
theorem dX0_valueNamed_79 : decode cX0_valueNamed 79 = .ok (.aload_n 0, 1) := by decide +kernel
theorem dX0_valueNamed_80 : decode cX0_valueNamed 80 = .ok (.getfield 165, 3) := by decide +kernel
theorem dX0_valueNamed_83 : decode cX0_valueNamed 83 = .ok (.ifCond .ne 17, 3) := by decide +kernel
theorem dX0_valueNamed_86 : decode cX0_valueNamed 86 = .ok (.aload_n 0, 1) := by decide +kernel
theorem dX0_valueNamed_87 : decode cX0_valueNamed 87 = .ok (.ldc 226, 2) := by decide +kernel
theorem dX0_valueNamed_89 : decode cX0_valueNamed 89 = .ok (.invokevirtual 100, 3) := by decide +kernel
theorem dX0_valueNamed_92 : decode cX0_valueNamed 92 = .ok (.ifCond .eq 8, 3) := by decide +kernel
theorem dX0_valueNamed_95 : decode cX0_valueNamed 95 = .ok (.bipush (-16), 2) := by decide +kernel
theorem dX0_valueNamed_97 : decode cX0_valueNamed 97 = .ok (.goto 4, 3) := by decide +kernel
theorem dX0_valueNamed_100 : decode cX0_valueNamed 100 = .ok (.iconst 0, 1) := by decide +kernel
theorem dX0_valueNamed_101 : decode cX0_valueNamed 101 = .ok (.ireturn, 1) := by decide +kernel
theorem dX1_init_0 : decode cX1_init 0 = .ok (.aload_n 0, 1) := by decide +kernel
theorem dX1_init_1 : decode cX1_init 1 = .ok (.invokespecial 3, 3) := by decide +kernel
theorem dX1_init_4 : decode cX1_init 4 = .ok (.aload_n 0, 1) := by decide +kernel
theorem dX1_init_5 : decode cX1_init 5 = .ok (.bipush 8, 2) := by decide +kernel
theorem dX1_init_7 : decode cX1_init 7 = .ok (.newarray .int, 2) := by decide +kernel
theorem dX1_init_9 : decode cX1_init 9 = .ok (.putfield 9, 3) := by decide +kernel
theorem dX1_init_12 : decode cX1_init 12 = .ok (.aload_n 0, 1) := by decide +kernel
theorem dX1_init_13 : decode cX1_init 13 = .ok (.bipush 8, 2) := by decide +kernel
theorem dX1_init_15 : decode cX1_init 15 = .ok (.newarray .int, 2) := by decide +kernel
theorem dX1_init_17 : decode cX1_init 17 = .ok (.putfield 15, 3) := by decide +kernel
theorem dX1_init_20 : decode cX1_init 20 = .ok (.aload_n 0, 1) := by decide +kernel
theorem dX1_init_21 : decode cX1_init 21 = .ok (.bipush 8, 2) := by decide +kernel
theorem dX1_init_23 : decode cX1_init 23 = .ok (.newarray .int, 2) := by decide +kernel
theorem dX1_init_25 : decode cX1_init 25 = .ok (.putfield 18, 3) := by decide +kernel
theorem dX1_init_28 : decode cX1_init 28 = .ok (.aload_n 0, 1) := by decide +kernel
theorem dX1_init_29 : decode cX1_init 29 = .ok (.bipush 8, 2) := by decide +kernel
theorem dX1_init_31 : decode cX1_init 31 = .ok (.newarray .int, 2) := by decide +kernel
theorem dX1_init_33 : decode cX1_init 33 = .ok (.putfield 21, 3) := by decide +kernel
theorem dX1_init_36 : decode cX1_init 36 = .ok (.aload_n 0, 1) := by decide +kernel
theorem dX1_init_37 : decode cX1_init 37 = .ok (.bipush 8, 2) := by decide +kernel
theorem dX1_init_39 : decode cX1_init 39 = .ok (.newarray .int, 2) := by decide +kernel
theorem dX1_init_41 : decode cX1_init 41 = .ok (.putfield 24, 3) := by decide +kernel
theorem dX1_init_44 : decode cX1_init 44 = .ok (.aload_n 0, 1) := by decide +kernel
theorem dX1_init_45 : decode cX1_init 45 = .ok (.bipush 8, 2) := by decide +kernel
theorem dX1_init_47 : decode cX1_init 47 = .ok (.newarray .boolean, 2) := by decide +kernel
theorem dX1_init_49 : decode cX1_init 49 = .ok (.putfield 27, 3) := by decide +kernel
theorem dX1_init_52 : decode cX1_init 52 = .ok (.aload_n 0, 1) := by decide +kernel
theorem dX1_init_53 : decode cX1_init 53 = .ok (.sipush 700, 3) := by decide +kernel
theorem dX1_init_56 : decode cX1_init 56 = .ok (.newarray .int, 2) := by decide +kernel
theorem dX1_init_58 : decode cX1_init 58 = .ok (.putfield 31, 3) := by decide +kernel
theorem dX1_init_61 : decode cX1_init 61 = .ok (.aload_n 0, 1) := by decide +kernel
theorem dX1_init_62 : decode cX1_init 62 = .ok (.iconst 2, 1) := by decide +kernel
theorem dX1_init_63 : decode cX1_init 63 = .ok (.newarray .int, 2) := by decide +kernel
theorem dX1_init_65 : decode cX1_init 65 = .ok (.putfield 34, 3) := by decide +kernel
theorem dX1_init_68 : decode cX1_init 68 = .ok (.aload_n 0, 1) := by decide +kernel
theorem dX1_init_69 : decode cX1_init 69 = .ok (.iconst 2, 1) := by decide +kernel
theorem dX1_init_70 : decode cX1_init 70 = .ok (.newarray .int, 2) := by decide +kernel
theorem dX1_init_72 : decode cX1_init 72 = .ok (.putfield 37, 3) := by decide +kernel
theorem dX1_init_75 : decode cX1_init 75 = .ok (.aload_n 0, 1) := by decide +kernel
theorem dX1_init_76 : decode cX1_init 76 = .ok (.iconst 2, 1) := by decide +kernel
theorem dX1_init_77 : decode cX1_init 77 = .ok (.newarray .boolean, 2) := by decide +kernel
theorem dX1_init_79 : decode cX1_init 79 = .ok (.putfield 40, 3) := by decide +kernel
theorem dX1_init_82 : decode cX1_init 82 = .ok (.aload_n 0, 1) := by decide +kernel
theorem dX1_init_83 : decode cX1_init 83 = .ok (.iconst 2, 1) := by decide +kernel
theorem dX1_init_84 : decode cX1_init 84 = .ok (.newarray .boolean, 2) := by decide +kernel
theorem dX1_init_86 : decode cX1_init 86 = .ok (.putfield 43, 3) := by decide +kernel
theorem dX1_init_89 : decode cX1_init 89 = .ok (.aload_n 0, 1) := by decide +kernel
theorem dX1_init_90 : decode cX1_init 90 = .ok (.bipush 60, 2) := by decide +kernel
theorem dX1_init_92 : decode cX1_init 92 = .ok (.putfield 46, 3) := by decide +kernel
theorem dX1_init_95 : decode cX1_init 95 = .ok (.return_, 1) := by decide +kernel
theorem dX1_clear_0 : decode cX1_clear 0 = .ok (.aload_n 0, 1) := by decide +kernel
theorem dX1_clear_1 : decode cX1_clear 1 = .ok (.iconst 0, 1) := by decide +kernel
theorem dX1_clear_2 : decode cX1_clear 2 = .ok (.putfield 50, 3) := by decide +kernel
theorem dX1_clear_5 : decode cX1_clear 5 = .ok (.aload_n 0, 1) := by decide +kernel
theorem dX1_clear_6 : decode cX1_clear 6 = .ok (.iconst 0, 1) := by decide +kernel
theorem dX1_clear_7 : decode cX1_clear 7 = .ok (.putfield 53, 3) := by decide +kernel
theorem dX1_clear_10 : decode cX1_clear 10 = .ok (.aload_n 0, 1) := by decide +kernel
theorem dX1_clear_11 : decode cX1_clear 11 = .ok (.bipush 60, 2) := by decide +kernel
theorem dX1_clear_13 : decode cX1_clear 13 = .ok (.putfield 46, 3) := by decide +kernel
theorem dX1_clear_16 : decode cX1_clear 16 = .ok (.aload_n 0, 1) := by decide +kernel
theorem dX1_clear_17 : decode cX1_clear 17 = .ok (.iconst 0, 1) := by decide +kernel
theorem dX1_clear_18 : decode cX1_clear 18 = .ok (.putfield 56, 3) := by decide +kernel
theorem dX1_clear_21 : decode cX1_clear 21 = .ok (.aload_n 0, 1) := by decide +kernel
theorem dX1_clear_22 : decode cX1_clear 22 = .ok (.iconst 0, 1) := by decide +kernel
theorem dX1_clear_23 : decode cX1_clear 23 = .ok (.putfield 60, 3) := by decide +kernel
theorem dX1_clear_26 : decode cX1_clear 26 = .ok (.aload_n 0, 1) := by decide +kernel
theorem dX1_clear_27 : decode cX1_clear 27 = .ok (.getfield 40, 3) := by decide +kernel
theorem dX1_clear_30 : decode cX1_clear 30 = .ok (.iconst 0, 1) := by decide +kernel
theorem dX1_clear_31 : decode cX1_clear 31 = .ok (.iconst 0, 1) := by decide +kernel
theorem dX1_clear_32 : decode cX1_clear 32 = .ok (.bastore, 1) := by decide +kernel
theorem dX1_clear_33 : decode cX1_clear 33 = .ok (.aload_n 0, 1) := by decide +kernel
theorem dX1_clear_34 : decode cX1_clear 34 = .ok (.getfield 40, 3) := by decide +kernel
theorem dX1_clear_37 : decode cX1_clear 37 = .ok (.iconst 1, 1) := by decide +kernel
theorem dX1_clear_38 : decode cX1_clear 38 = .ok (.iconst 0, 1) := by decide +kernel
theorem dX1_clear_39 : decode cX1_clear 39 = .ok (.bastore, 1) := by decide +kernel
theorem dX1_clear_40 : decode cX1_clear 40 = .ok (.aload_n 0, 1) := by decide +kernel
theorem dX1_clear_41 : decode cX1_clear 41 = .ok (.getfield 43, 3) := by decide +kernel
theorem dX1_clear_44 : decode cX1_clear 44 = .ok (.iconst 0, 1) := by decide +kernel
theorem dX1_clear_45 : decode cX1_clear 45 = .ok (.iconst 0, 1) := by decide +kernel
theorem dX1_clear_46 : decode cX1_clear 46 = .ok (.bastore, 1) := by decide +kernel
theorem dX1_clear_47 : decode cX1_clear 47 = .ok (.aload_n 0, 1) := by decide +kernel
theorem dX1_clear_48 : decode cX1_clear 48 = .ok (.getfield 43, 3) := by decide +kernel
theorem dX1_clear_51 : decode cX1_clear 51 = .ok (.iconst 1, 1) := by decide +kernel
theorem dX1_clear_52 : decode cX1_clear 52 = .ok (.iconst 0, 1) := by decide +kernel
theorem dX1_clear_53 : decode cX1_clear 53 = .ok (.bastore, 1) := by decide +kernel
theorem dX1_clear_54 : decode cX1_clear 54 = .ok (.return_, 1) := by decide +kernel
theorem dX1_addStep_0 : decode cX1_addStep 0 = .ok (.aload_n 0, 1) := by decide +kernel
theorem dX1_addStep_1 : decode cX1_addStep 1 = .ok (.getfield 60, 3) := by decide +kernel
theorem dX1_addStep_4 : decode cX1_addStep 4 = .ok (.aload_n 0, 1) := by decide +kernel
theorem dX1_addStep_5 : decode cX1_addStep 5 = .ok (.getfield 31, 3) := by decide +kernel
theorem dX1_addStep_8 : decode cX1_addStep 8 = .ok (.arraylength, 1) := by decide +kernel
theorem dX1_addStep_9 : decode cX1_addStep 9 = .ok (.if_icmp .ge 23, 3) := by decide +kernel
theorem dX1_addStep_12 : decode cX1_addStep 12 = .ok (.aload_n 0, 1) := by decide +kernel
theorem dX1_addStep_13 : decode cX1_addStep 13 = .ok (.getfield 31, 3) := by decide +kernel
theorem dX1_addStep_16 : decode cX1_addStep 16 = .ok (.aload_n 0, 1) := by decide +kernel
theorem dX1_addStep_17 : decode cX1_addStep 17 = .ok (.getfield 60, 3) := by decide +kernel
theorem dX1_addStep_20 : decode cX1_addStep 20 = .ok (.iload_n 1, 1) := by decide +kernel
theorem dX1_addStep_21 : decode cX1_addStep 21 = .ok (.iastore, 1) := by decide +kernel
theorem dX1_addStep_22 : decode cX1_addStep 22 = .ok (.aload_n 0, 1) := by decide +kernel
theorem dX1_addStep_23 : decode cX1_addStep 23 = .ok (.dup, 1) := by decide +kernel
theorem dX1_addStep_24 : decode cX1_addStep 24 = .ok (.getfield 60, 3) := by decide +kernel
theorem dX1_addStep_27 : decode cX1_addStep 27 = .ok (.iconst 1, 1) := by decide +kernel
theorem dX1_addStep_28 : decode cX1_addStep 28 = .ok (.iadd, 1) := by decide +kernel
theorem dX1_addStep_29 : decode cX1_addStep 29 = .ok (.putfield 60, 3) := by decide +kernel
theorem dX1_addStep_32 : decode cX1_addStep 32 = .ok (.return_, 1) := by decide +kernel
theorem dX2_init_0 : decode cX2_init 0 = .ok (.aload_n 0, 1) := by decide +kernel
theorem dX2_init_1 : decode cX2_init 1 = .ok (.invokespecial 3, 3) := by decide +kernel
theorem dX2_init_4 : decode cX2_init 4 = .ok (.aload_n 0, 1) := by decide +kernel
theorem dX2_init_5 : decode cX2_init 5 = .ok (.bipush 8, 2) := by decide +kernel
theorem dX2_init_7 : decode cX2_init 7 = .ok (.newarray .int, 2) := by decide +kernel
theorem dX2_init_9 : decode cX2_init 9 = .ok (.putfield 9, 3) := by decide +kernel
theorem dX2_init_12 : decode cX2_init 12 = .ok (.aload_n 0, 1) := by decide +kernel
theorem dX2_init_13 : decode cX2_init 13 = .ok (.bipush 8, 2) := by decide +kernel
theorem dX2_init_15 : decode cX2_init 15 = .ok (.newarray .int, 2) := by decide +kernel
theorem dX2_init_17 : decode cX2_init 17 = .ok (.putfield 15, 3) := by decide +kernel
theorem dX2_init_20 : decode cX2_init 20 = .ok (.aload_n 0, 1) := by decide +kernel
theorem dX2_init_21 : decode cX2_init 21 = .ok (.bipush 8, 2) := by decide +kernel
theorem dX2_init_23 : decode cX2_init 23 = .ok (.newarray .int, 2) := by decide +kernel
theorem dX2_init_25 : decode cX2_init 25 = .ok (.putfield 18, 3) := by decide +kernel
theorem dX2_init_28 : decode cX2_init 28 = .ok (.aload_n 0, 1) := by decide +kernel
theorem dX2_init_29 : decode cX2_init 29 = .ok (.bipush 8, 2) := by decide +kernel
theorem dX2_init_31 : decode cX2_init 31 = .ok (.newarray .int, 2) := by decide +kernel
theorem dX2_init_33 : decode cX2_init 33 = .ok (.putfield 21, 3) := by decide +kernel
theorem dX2_init_36 : decode cX2_init 36 = .ok (.aload_n 0, 1) := by decide +kernel
theorem dX2_init_37 : decode cX2_init 37 = .ok (.bipush 8, 2) := by decide +kernel
theorem dX2_init_39 : decode cX2_init 39 = .ok (.newarray .int, 2) := by decide +kernel
theorem dX2_init_41 : decode cX2_init 41 = .ok (.putfield 24, 3) := by decide +kernel
theorem dX2_init_44 : decode cX2_init 44 = .ok (.aload_n 0, 1) := by decide +kernel
theorem dX2_init_45 : decode cX2_init 45 = .ok (.bipush 60, 2) := by decide +kernel
theorem dX2_init_47 : decode cX2_init 47 = .ok (.putfield 27, 3) := by decide +kernel
theorem dX2_init_50 : decode cX2_init 50 = .ok (.aload_n 0, 1) := by decide +kernel
theorem dX2_init_51 : decode cX2_init 51 = .ok (.iconst (-1), 1) := by decide +kernel
theorem dX2_init_52 : decode cX2_init 52 = .ok (.putfield 31, 3) := by decide +kernel
theorem dX2_init_55 : decode cX2_init 55 = .ok (.return_, 1) := by decide +kernel
theorem dX2_open_0 : decode cX2_open 0 = .ok (.iconst 0, 1) := by decide +kernel
theorem dX2_open_1 : decode cX2_open 1 = .ok (.istore_n 2, 1) := by decide +kernel
theorem dX2_open_2 : decode cX2_open 2 = .ok (.iload_n 2, 1) := by decide +kernel
theorem dX2_open_3 : decode cX2_open 3 = .ok (.bipush 8, 2) := by decide +kernel
theorem dX2_open_5 : decode cX2_open 5 = .ok (.if_icmp .ge 21, 3) := by decide +kernel
theorem dX2_open_8 : decode cX2_open 8 = .ok (.aload_n 0, 1) := by decide +kernel
theorem dX2_open_9 : decode cX2_open 9 = .ok (.getfield 9, 3) := by decide +kernel
theorem dX2_open_12 : decode cX2_open 12 = .ok (.iload_n 2, 1) := by decide +kernel
theorem dX2_open_13 : decode cX2_open 13 = .ok (.aload_n 1, 1) := by decide +kernel
theorem dX2_open_14 : decode cX2_open 14 = .ok (.getfield 34, 3) := by decide +kernel
theorem dX2_open_17 : decode cX2_open 17 = .ok (.iload_n 2, 1) := by decide +kernel
theorem dX2_open_18 : decode cX2_open 18 = .ok (.iaload, 1) := by decide +kernel
theorem dX2_open_19 : decode cX2_open 19 = .ok (.iastore, 1) := by decide +kernel
theorem dX2_open_20 : decode cX2_open 20 = .ok (.iinc 2 1, 3) := by decide +kernel
theorem dX2_open_23 : decode cX2_open 23 = .ok (.goto (-21), 3) := by decide +kernel
theorem dX2_open_26 : decode cX2_open 26 = .ok (.iconst 0, 1) := by decide +kernel
theorem dX2_open_27 : decode cX2_open 27 = .ok (.istore_n 2, 1) := by decide +kernel
theorem dX2_open_28 : decode cX2_open 28 = .ok (.iload_n 2, 1) := by decide +kernel
theorem dX2_open_29 : decode cX2_open 29 = .ok (.bipush 8, 2) := by decide +kernel
theorem dX2_open_31 : decode cX2_open 31 = .ok (.if_icmp .ge 40, 3) := by decide +kernel
theorem dX2_open_34 : decode cX2_open 34 = .ok (.aload_n 0, 1) := by decide +kernel
theorem dX2_open_35 : decode cX2_open 35 = .ok (.getfield 15, 3) := by decide +kernel
theorem dX2_open_38 : decode cX2_open 38 = .ok (.iload_n 2, 1) := by decide +kernel
theorem dX2_open_39 : decode cX2_open 39 = .ok (.aload_n 1, 1) := by decide +kernel
theorem dX2_open_40 : decode cX2_open 40 = .ok (.getfield 37, 3) := by decide +kernel
theorem dX2_open_43 : decode cX2_open 43 = .ok (.iload_n 2, 1) := by decide +kernel
theorem dX2_open_44 : decode cX2_open 44 = .ok (.iaload, 1) := by decide +kernel
theorem dX2_open_45 : decode cX2_open 45 = .ok (.iastore, 1) := by decide +kernel
theorem dX2_open_46 : decode cX2_open 46 = .ok (.aload_n 0, 1) := by decide +kernel
theorem dX2_open_47 : decode cX2_open 47 = .ok (.getfield 18, 3) := by decide +kernel
theorem dX2_open_50 : decode cX2_open 50 = .ok (.iload_n 2, 1) := by decide +kernel
theorem dX2_open_51 : decode cX2_open 51 = .ok (.aload_n 1, 1) := by decide +kernel
theorem dX2_open_52 : decode cX2_open 52 = .ok (.getfield 38, 3) := by decide +kernel
theorem dX2_open_55 : decode cX2_open 55 = .ok (.iload_n 2, 1) := by decide +kernel
theorem dX2_open_56 : decode cX2_open 56 = .ok (.iaload, 1) := by decide +kernel
theorem dX2_open_57 : decode cX2_open 57 = .ok (.iastore, 1) := by decide +kernel
theorem dX2_open_58 : decode cX2_open 58 = .ok (.aload_n 0, 1) := by decide +kernel
theorem dX2_open_59 : decode cX2_open 59 = .ok (.getfield 21, 3) := by decide +kernel
theorem dX2_open_62 : decode cX2_open 62 = .ok (.iload_n 2, 1) := by decide +kernel
theorem dX2_open_63 : decode cX2_open 63 = .ok (.iload_n 2, 1) := by decide +kernel
theorem dX2_open_64 : decode cX2_open 64 = .ok (.iastore, 1) := by decide +kernel
theorem dX2_open_65 : decode cX2_open 65 = .ok (.iinc 2 1, 3) := by decide +kernel
theorem dX2_open_68 : decode cX2_open 68 = .ok (.goto (-40), 3) := by decide +kernel
theorem dX2_open_71 : decode cX2_open 71 = .ok (.aload_n 0, 1) := by decide +kernel
theorem dX2_open_72 : decode cX2_open 72 = .ok (.aload_n 1, 1) := by decide +kernel
theorem dX2_open_73 : decode cX2_open 73 = .ok (.getfield 39, 3) := by decide +kernel
theorem dX2_open_76 : decode cX2_open 76 = .ok (.putfield 27, 3) := by decide +kernel
theorem dX2_open_79 : decode cX2_open 79 = .ok (.aload_n 0, 1) := by decide +kernel
theorem dX2_open_80 : decode cX2_open 80 = .ok (.iconst 0, 1) := by decide +kernel
theorem dX2_open_81 : decode cX2_open 81 = .ok (.putfield 40, 3) := by decide +kernel
theorem dX2_open_84 : decode cX2_open 84 = .ok (.aload_n 0, 1) := by decide +kernel
theorem dX2_open_85 : decode cX2_open 85 = .ok (.iconst (-1), 1) := by decide +kernel
theorem dX2_open_86 : decode cX2_open 86 = .ok (.putfield 31, 3) := by decide +kernel
theorem dX2_open_89 : decode cX2_open 89 = .ok (.return_, 1) := by decide +kernel
theorem dX2_copyFrom_0 : decode cX2_copyFrom 0 = .ok (.aload_n 1, 1) := by decide +kernel
theorem dX2_copyFrom_1 : decode cX2_copyFrom 1 = .ok (.getfield 9, 3) := by decide +kernel
theorem dX2_copyFrom_4 : decode cX2_copyFrom 4 = .ok (.iconst 0, 1) := by decide +kernel
theorem dX2_copyFrom_5 : decode cX2_copyFrom 5 = .ok (.aload_n 0, 1) := by decide +kernel
theorem dX2_copyFrom_6 : decode cX2_copyFrom 6 = .ok (.getfield 9, 3) := by decide +kernel
theorem dX2_copyFrom_9 : decode cX2_copyFrom 9 = .ok (.iconst 0, 1) := by decide +kernel
theorem dX2_copyFrom_10 : decode cX2_copyFrom 10 = .ok (.bipush 8, 2) := by decide +kernel
theorem dX2_copyFrom_12 : decode cX2_copyFrom 12 = .ok (.invokestatic 43, 3) := by decide +kernel
theorem dX2_copyFrom_15 : decode cX2_copyFrom 15 = .ok (.aload_n 1, 1) := by decide +kernel
theorem dX2_copyFrom_16 : decode cX2_copyFrom 16 = .ok (.getfield 15, 3) := by decide +kernel
theorem dX2_copyFrom_19 : decode cX2_copyFrom 19 = .ok (.iconst 0, 1) := by decide +kernel
theorem dX2_copyFrom_20 : decode cX2_copyFrom 20 = .ok (.aload_n 0, 1) := by decide +kernel
theorem dX2_copyFrom_21 : decode cX2_copyFrom 21 = .ok (.getfield 15, 3) := by decide +kernel
theorem dX2_copyFrom_24 : decode cX2_copyFrom 24 = .ok (.iconst 0, 1) := by decide +kernel
theorem dX2_copyFrom_25 : decode cX2_copyFrom 25 = .ok (.bipush 8, 2) := by decide +kernel
theorem dX2_copyFrom_27 : decode cX2_copyFrom 27 = .ok (.invokestatic 43, 3) := by decide +kernel
theorem dX2_copyFrom_30 : decode cX2_copyFrom 30 = .ok (.aload_n 1, 1) := by decide +kernel
theorem dX2_copyFrom_31 : decode cX2_copyFrom 31 = .ok (.getfield 18, 3) := by decide +kernel
theorem dX2_copyFrom_34 : decode cX2_copyFrom 34 = .ok (.iconst 0, 1) := by decide +kernel
theorem dX2_copyFrom_35 : decode cX2_copyFrom 35 = .ok (.aload_n 0, 1) := by decide +kernel
theorem dX2_copyFrom_36 : decode cX2_copyFrom 36 = .ok (.getfield 18, 3) := by decide +kernel
theorem dX2_copyFrom_39 : decode cX2_copyFrom 39 = .ok (.iconst 0, 1) := by decide +kernel
theorem dX2_copyFrom_40 : decode cX2_copyFrom 40 = .ok (.bipush 8, 2) := by decide +kernel
theorem dX2_copyFrom_42 : decode cX2_copyFrom 42 = .ok (.invokestatic 43, 3) := by decide +kernel
theorem dX2_copyFrom_45 : decode cX2_copyFrom 45 = .ok (.aload_n 1, 1) := by decide +kernel
theorem dX2_copyFrom_46 : decode cX2_copyFrom 46 = .ok (.getfield 21, 3) := by decide +kernel
theorem dX2_copyFrom_49 : decode cX2_copyFrom 49 = .ok (.iconst 0, 1) := by decide +kernel
theorem dX2_copyFrom_50 : decode cX2_copyFrom 50 = .ok (.aload_n 0, 1) := by decide +kernel
theorem dX2_copyFrom_51 : decode cX2_copyFrom 51 = .ok (.getfield 21, 3) := by decide +kernel
theorem dX2_copyFrom_54 : decode cX2_copyFrom 54 = .ok (.iconst 0, 1) := by decide +kernel
theorem dX2_copyFrom_55 : decode cX2_copyFrom 55 = .ok (.bipush 8, 2) := by decide +kernel
theorem dX2_copyFrom_57 : decode cX2_copyFrom 57 = .ok (.invokestatic 43, 3) := by decide +kernel
theorem dX2_copyFrom_60 : decode cX2_copyFrom 60 = .ok (.aload_n 0, 1) := by decide +kernel
theorem dX2_copyFrom_61 : decode cX2_copyFrom 61 = .ok (.aload_n 1, 1) := by decide +kernel
theorem dX2_copyFrom_62 : decode cX2_copyFrom 62 = .ok (.getfield 27, 3) := by decide +kernel
theorem dX2_copyFrom_65 : decode cX2_copyFrom 65 = .ok (.putfield 27, 3) := by decide +kernel
theorem dX2_copyFrom_68 : decode cX2_copyFrom 68 = .ok (.aload_n 0, 1) := by decide +kernel
theorem dX2_copyFrom_69 : decode cX2_copyFrom 69 = .ok (.aload_n 1, 1) := by decide +kernel
theorem dX2_copyFrom_70 : decode cX2_copyFrom 70 = .ok (.getfield 40, 3) := by decide +kernel
theorem dX2_copyFrom_73 : decode cX2_copyFrom 73 = .ok (.putfield 40, 3) := by decide +kernel
theorem dX2_copyFrom_76 : decode cX2_copyFrom 76 = .ok (.aload_n 0, 1) := by decide +kernel
theorem dX2_copyFrom_77 : decode cX2_copyFrom 77 = .ok (.aload_n 1, 1) := by decide +kernel
theorem dX2_copyFrom_78 : decode cX2_copyFrom 78 = .ok (.getfield 31, 3) := by decide +kernel
theorem dX2_copyFrom_81 : decode cX2_copyFrom 81 = .ok (.putfield 31, 3) := by decide +kernel
theorem dX2_copyFrom_84 : decode cX2_copyFrom 84 = .ok (.return_, 1) := by decide +kernel
theorem dX2_save_0 : decode cX2_save 0 = .ok (.iload_n 2, 1) := by decide +kernel
theorem dX2_save_1 : decode cX2_save 1 = .ok (.ifCond .lt 12, 3) := by decide +kernel
theorem dX2_save_4 : decode cX2_save 4 = .ok (.iload_n 2, 1) := by decide +kernel
theorem dX2_save_5 : decode cX2_save 5 = .ok (.aload_n 1, 1) := by decide +kernel
theorem dX2_save_6 : decode cX2_save 6 = .ok (.arraylength, 1) := by decide +kernel
theorem dX2_save_7 : decode cX2_save 7 = .ok (.bipush 27, 2) := by decide +kernel
theorem dX2_save_9 : decode cX2_save 9 = .ok (.isub, 1) := by decide +kernel
theorem dX2_save_10 : decode cX2_save 10 = .ok (.if_icmp .le 4, 3) := by decide +kernel
theorem dX2_save_13 : decode cX2_save 13 = .ok (.return_, 1) := by decide +kernel
theorem dX2_save_14 : decode cX2_save 14 = .ok (.aload_n 0, 1) := by decide +kernel
theorem dX2_save_15 : decode cX2_save 15 = .ok (.getfield 9, 3) := by decide +kernel
theorem dX2_save_18 : decode cX2_save 18 = .ok (.iconst 0, 1) := by decide +kernel
theorem dX2_save_19 : decode cX2_save 19 = .ok (.aload_n 1, 1) := by decide +kernel
theorem dX2_save_20 : decode cX2_save 20 = .ok (.iload_n 2, 1) := by decide +kernel
theorem dX2_save_21 : decode cX2_save 21 = .ok (.bipush 8, 2) := by decide +kernel
theorem dX2_save_23 : decode cX2_save 23 = .ok (.invokestatic 43, 3) := by decide +kernel
theorem dX2_save_26 : decode cX2_save 26 = .ok (.aload_n 0, 1) := by decide +kernel
theorem dX2_save_27 : decode cX2_save 27 = .ok (.getfield 18, 3) := by decide +kernel
theorem dX2_save_30 : decode cX2_save 30 = .ok (.iconst 0, 1) := by decide +kernel
theorem dX2_save_31 : decode cX2_save 31 = .ok (.aload_n 1, 1) := by decide +kernel
theorem dX2_save_32 : decode cX2_save 32 = .ok (.iload_n 2, 1) := by decide +kernel
theorem dX2_save_33 : decode cX2_save 33 = .ok (.bipush 8, 2) := by decide +kernel
theorem dX2_save_35 : decode cX2_save 35 = .ok (.iadd, 1) := by decide +kernel
theorem dX2_save_36 : decode cX2_save 36 = .ok (.bipush 8, 2) := by decide +kernel
theorem dX2_save_38 : decode cX2_save 38 = .ok (.invokestatic 43, 3) := by decide +kernel
theorem dX2_save_41 : decode cX2_save 41 = .ok (.aload_n 0, 1) := by decide +kernel
theorem dX2_save_42 : decode cX2_save 42 = .ok (.getfield 21, 3) := by decide +kernel
theorem dX2_save_45 : decode cX2_save 45 = .ok (.iconst 0, 1) := by decide +kernel
theorem dX2_save_46 : decode cX2_save 46 = .ok (.aload_n 1, 1) := by decide +kernel
theorem dX2_save_47 : decode cX2_save 47 = .ok (.iload_n 2, 1) := by decide +kernel
theorem dX2_save_48 : decode cX2_save 48 = .ok (.bipush 8, 2) := by decide +kernel
theorem dX2_save_50 : decode cX2_save 50 = .ok (.iadd, 1) := by decide +kernel
theorem dX2_save_51 : decode cX2_save 51 = .ok (.bipush 8, 2) := by decide +kernel
theorem dX2_save_53 : decode cX2_save 53 = .ok (.iadd, 1) := by decide +kernel
theorem dX2_save_54 : decode cX2_save 54 = .ok (.bipush 8, 2) := by decide +kernel
theorem dX2_save_56 : decode cX2_save 56 = .ok (.invokestatic 43, 3) := by decide +kernel
theorem dX2_save_59 : decode cX2_save 59 = .ok (.aload_n 1, 1) := by decide +kernel
theorem dX2_save_60 : decode cX2_save 60 = .ok (.iload_n 2, 1) := by decide +kernel
theorem dX2_save_61 : decode cX2_save 61 = .ok (.bipush 27, 2) := by decide +kernel
theorem dX2_save_63 : decode cX2_save 63 = .ok (.iadd, 1) := by decide +kernel
theorem dX2_save_64 : decode cX2_save 64 = .ok (.iconst 3, 1) := by decide +kernel
theorem dX2_save_65 : decode cX2_save 65 = .ok (.isub, 1) := by decide +kernel
theorem dX2_save_66 : decode cX2_save 66 = .ok (.aload_n 0, 1) := by decide +kernel
theorem dX2_save_67 : decode cX2_save 67 = .ok (.getfield 27, 3) := by decide +kernel
theorem dX2_save_70 : decode cX2_save 70 = .ok (.iastore, 1) := by decide +kernel
theorem dX2_save_71 : decode cX2_save 71 = .ok (.aload_n 1, 1) := by decide +kernel
theorem dX2_save_72 : decode cX2_save 72 = .ok (.iload_n 2, 1) := by decide +kernel
theorem dX2_save_73 : decode cX2_save 73 = .ok (.bipush 27, 2) := by decide +kernel
theorem dX2_save_75 : decode cX2_save 75 = .ok (.iadd, 1) := by decide +kernel
theorem dX2_save_76 : decode cX2_save 76 = .ok (.iconst 2, 1) := by decide +kernel
theorem dX2_save_77 : decode cX2_save 77 = .ok (.isub, 1) := by decide +kernel
theorem dX2_save_78 : decode cX2_save 78 = .ok (.aload_n 0, 1) := by decide +kernel
theorem dX2_save_79 : decode cX2_save 79 = .ok (.getfield 40, 3) := by decide +kernel
theorem dX2_save_82 : decode cX2_save 82 = .ok (.iastore, 1) := by decide +kernel
theorem dX2_save_83 : decode cX2_save 83 = .ok (.aload_n 1, 1) := by decide +kernel
theorem dX2_save_84 : decode cX2_save 84 = .ok (.iload_n 2, 1) := by decide +kernel
theorem dX2_save_85 : decode cX2_save 85 = .ok (.bipush 27, 2) := by decide +kernel
theorem dX2_save_87 : decode cX2_save 87 = .ok (.iadd, 1) := by decide +kernel
theorem dX2_save_88 : decode cX2_save 88 = .ok (.iconst 1, 1) := by decide +kernel
theorem dX2_save_89 : decode cX2_save 89 = .ok (.isub, 1) := by decide +kernel
theorem dX2_save_90 : decode cX2_save 90 = .ok (.aload_n 0, 1) := by decide +kernel
theorem dX2_save_91 : decode cX2_save 91 = .ok (.getfield 31, 3) := by decide +kernel
theorem dX2_save_94 : decode cX2_save 94 = .ok (.iastore, 1) := by decide +kernel
theorem dX2_save_95 : decode cX2_save 95 = .ok (.return_, 1) := by decide +kernel
theorem dX2_load_0 : decode cX2_load 0 = .ok (.iload_n 2, 1) := by decide +kernel
theorem dX2_load_1 : decode cX2_load 1 = .ok (.ifCond .lt 12, 3) := by decide +kernel
theorem dX2_load_4 : decode cX2_load 4 = .ok (.iload_n 2, 1) := by decide +kernel
theorem dX2_load_5 : decode cX2_load 5 = .ok (.aload_n 1, 1) := by decide +kernel
theorem dX2_load_6 : decode cX2_load 6 = .ok (.arraylength, 1) := by decide +kernel
theorem dX2_load_7 : decode cX2_load 7 = .ok (.bipush 27, 2) := by decide +kernel
theorem dX2_load_9 : decode cX2_load 9 = .ok (.isub, 1) := by decide +kernel
theorem dX2_load_10 : decode cX2_load 10 = .ok (.if_icmp .le 4, 3) := by decide +kernel
theorem dX2_load_13 : decode cX2_load 13 = .ok (.return_, 1) := by decide +kernel
theorem dX2_load_14 : decode cX2_load 14 = .ok (.aload_n 1, 1) := by decide +kernel
theorem dX2_load_15 : decode cX2_load 15 = .ok (.iload_n 2, 1) := by decide +kernel
theorem dX2_load_16 : decode cX2_load 16 = .ok (.aload_n 0, 1) := by decide +kernel
theorem dX2_load_17 : decode cX2_load 17 = .ok (.getfield 9, 3) := by decide +kernel
theorem dX2_load_20 : decode cX2_load 20 = .ok (.iconst 0, 1) := by decide +kernel
theorem dX2_load_21 : decode cX2_load 21 = .ok (.bipush 8, 2) := by decide +kernel
theorem dX2_load_23 : decode cX2_load 23 = .ok (.invokestatic 43, 3) := by decide +kernel
theorem dX2_load_26 : decode cX2_load 26 = .ok (.aload_n 1, 1) := by decide +kernel
theorem dX2_load_27 : decode cX2_load 27 = .ok (.iload_n 2, 1) := by decide +kernel
theorem dX2_load_28 : decode cX2_load 28 = .ok (.bipush 8, 2) := by decide +kernel
theorem dX2_load_30 : decode cX2_load 30 = .ok (.iadd, 1) := by decide +kernel
theorem dX2_load_31 : decode cX2_load 31 = .ok (.aload_n 0, 1) := by decide +kernel
theorem dX2_load_32 : decode cX2_load 32 = .ok (.getfield 18, 3) := by decide +kernel
theorem dX2_load_35 : decode cX2_load 35 = .ok (.iconst 0, 1) := by decide +kernel
theorem dX2_load_36 : decode cX2_load 36 = .ok (.bipush 8, 2) := by decide +kernel
theorem dX2_load_38 : decode cX2_load 38 = .ok (.invokestatic 43, 3) := by decide +kernel
theorem dX2_load_41 : decode cX2_load 41 = .ok (.aload_n 1, 1) := by decide +kernel
theorem dX2_load_42 : decode cX2_load 42 = .ok (.iload_n 2, 1) := by decide +kernel
theorem dX2_load_43 : decode cX2_load 43 = .ok (.bipush 8, 2) := by decide +kernel
theorem dX2_load_45 : decode cX2_load 45 = .ok (.iadd, 1) := by decide +kernel
theorem dX2_load_46 : decode cX2_load 46 = .ok (.bipush 8, 2) := by decide +kernel
theorem dX2_load_48 : decode cX2_load 48 = .ok (.iadd, 1) := by decide +kernel
theorem dX2_load_49 : decode cX2_load 49 = .ok (.aload_n 0, 1) := by decide +kernel
theorem dX2_load_50 : decode cX2_load 50 = .ok (.getfield 21, 3) := by decide +kernel
theorem dX2_load_53 : decode cX2_load 53 = .ok (.iconst 0, 1) := by decide +kernel
theorem dX2_load_54 : decode cX2_load 54 = .ok (.bipush 8, 2) := by decide +kernel
theorem dX2_load_56 : decode cX2_load 56 = .ok (.invokestatic 43, 3) := by decide +kernel
theorem dX2_load_59 : decode cX2_load 59 = .ok (.aload_n 0, 1) := by decide +kernel
theorem dX2_load_60 : decode cX2_load 60 = .ok (.aload_n 1, 1) := by decide +kernel
theorem dX2_load_61 : decode cX2_load 61 = .ok (.iload_n 2, 1) := by decide +kernel
theorem dX2_load_62 : decode cX2_load 62 = .ok (.bipush 27, 2) := by decide +kernel
theorem dX2_load_64 : decode cX2_load 64 = .ok (.iadd, 1) := by decide +kernel
theorem dX2_load_65 : decode cX2_load 65 = .ok (.iconst 3, 1) := by decide +kernel
theorem dX2_load_66 : decode cX2_load 66 = .ok (.isub, 1) := by decide +kernel
theorem dX2_load_67 : decode cX2_load 67 = .ok (.iaload, 1) := by decide +kernel
theorem dX2_load_68 : decode cX2_load 68 = .ok (.putfield 27, 3) := by decide +kernel
theorem dX2_load_71 : decode cX2_load 71 = .ok (.aload_n 0, 1) := by decide +kernel
theorem dX2_load_72 : decode cX2_load 72 = .ok (.aload_n 1, 1) := by decide +kernel
theorem dX2_load_73 : decode cX2_load 73 = .ok (.iload_n 2, 1) := by decide +kernel
theorem dX2_load_74 : decode cX2_load 74 = .ok (.bipush 27, 2) := by decide +kernel
theorem dX2_load_76 : decode cX2_load 76 = .ok (.iadd, 1) := by decide +kernel
theorem dX2_load_77 : decode cX2_load 77 = .ok (.iconst 2, 1) := by decide +kernel
theorem dX2_load_78 : decode cX2_load 78 = .ok (.isub, 1) := by decide +kernel
theorem dX2_load_79 : decode cX2_load 79 = .ok (.iaload, 1) := by decide +kernel
theorem dX2_load_80 : decode cX2_load 80 = .ok (.putfield 40, 3) := by decide +kernel
theorem dX2_load_83 : decode cX2_load 83 = .ok (.aload_n 0, 1) := by decide +kernel
theorem dX2_load_84 : decode cX2_load 84 = .ok (.aload_n 1, 1) := by decide +kernel
theorem dX2_load_85 : decode cX2_load 85 = .ok (.iload_n 2, 1) := by decide +kernel
theorem dX2_load_86 : decode cX2_load 86 = .ok (.bipush 27, 2) := by decide +kernel
theorem dX2_load_88 : decode cX2_load 88 = .ok (.iadd, 1) := by decide +kernel
theorem dX2_load_89 : decode cX2_load 89 = .ok (.iconst 1, 1) := by decide +kernel
theorem dX2_load_90 : decode cX2_load 90 = .ok (.isub, 1) := by decide +kernel
theorem dX2_load_91 : decode cX2_load 91 = .ok (.iaload, 1) := by decide +kernel
theorem dX2_load_92 : decode cX2_load 92 = .ok (.putfield 31, 3) := by decide +kernel
theorem dX2_load_95 : decode cX2_load 95 = .ok (.return_, 1) := by decide +kernel
theorem dX2_seatOf_0 : decode cX2_seatOf 0 = .ok (.iconst 0, 1) := by decide +kernel
theorem dX2_seatOf_1 : decode cX2_seatOf 1 = .ok (.istore_n 3, 1) := by decide +kernel
theorem dX2_seatOf_2 : decode cX2_seatOf 2 = .ok (.iload_n 3, 1) := by decide +kernel
theorem dX2_seatOf_3 : decode cX2_seatOf 3 = .ok (.iload_n 2, 1) := by decide +kernel
theorem dX2_seatOf_4 : decode cX2_seatOf 4 = .ok (.if_icmp .ge 21, 3) := by decide +kernel
theorem dX2_seatOf_7 : decode cX2_seatOf 7 = .ok (.aload_n 0, 1) := by decide +kernel
theorem dX2_seatOf_8 : decode cX2_seatOf 8 = .ok (.getfield 21, 3) := by decide +kernel
theorem dX2_seatOf_11 : decode cX2_seatOf 11 = .ok (.iload_n 3, 1) := by decide +kernel
theorem dX2_seatOf_12 : decode cX2_seatOf 12 = .ok (.iaload, 1) := by decide +kernel
theorem dX2_seatOf_13 : decode cX2_seatOf 13 = .ok (.iload_n 1, 1) := by decide +kernel
theorem dX2_seatOf_14 : decode cX2_seatOf 14 = .ok (.if_icmp .ne 5, 3) := by decide +kernel
theorem dX2_seatOf_17 : decode cX2_seatOf 17 = .ok (.iload_n 3, 1) := by decide +kernel
theorem dX2_seatOf_18 : decode cX2_seatOf 18 = .ok (.ireturn, 1) := by decide +kernel
theorem dX2_seatOf_19 : decode cX2_seatOf 19 = .ok (.iinc 3 1, 3) := by decide +kernel
theorem dX2_seatOf_22 : decode cX2_seatOf 22 = .ok (.goto (-20), 3) := by decide +kernel
theorem dX2_seatOf_25 : decode cX2_seatOf 25 = .ok (.iconst (-1), 1) := by decide +kernel
theorem dX2_seatOf_26 : decode cX2_seatOf 26 = .ok (.ireturn, 1) := by decide +kernel
theorem dX2_swap_0 : decode cX2_swap 0 = .ok (.aload_n 0, 1) := by decide +kernel
theorem dX2_swap_1 : decode cX2_swap 1 = .ok (.iload_n 1, 1) := by decide +kernel
theorem dX2_swap_2 : decode cX2_swap 2 = .ok (.iload_n 3, 1) := by decide +kernel
theorem dX2_swap_3 : decode cX2_swap 3 = .ok (.invokevirtual 49, 3) := by decide +kernel
theorem dX2_swap_6 : decode cX2_swap 6 = .ok (.istore 4, 2) := by decide +kernel
theorem dX2_swap_8 : decode cX2_swap 8 = .ok (.aload_n 0, 1) := by decide +kernel
theorem dX2_swap_9 : decode cX2_swap 9 = .ok (.iload_n 2, 1) := by decide +kernel
theorem dX2_swap_10 : decode cX2_swap 10 = .ok (.iload_n 3, 1) := by decide +kernel
theorem dX2_swap_11 : decode cX2_swap 11 = .ok (.invokevirtual 49, 3) := by decide +kernel
theorem dX2_swap_14 : decode cX2_swap 14 = .ok (.istore 5, 2) := by decide +kernel
theorem dX2_swap_16 : decode cX2_swap 16 = .ok (.iload 4, 2) := by decide +kernel
theorem dX2_swap_18 : decode cX2_swap 18 = .ok (.ifCond .lt 24, 3) := by decide +kernel
theorem dX2_swap_21 : decode cX2_swap 21 = .ok (.iload 5, 2) := by decide +kernel
theorem dX2_swap_23 : decode cX2_swap 23 = .ok (.ifCond .lt 19, 3) := by decide +kernel
theorem dX2_swap_26 : decode cX2_swap 26 = .ok (.aload_n 0, 1) := by decide +kernel
theorem dX2_swap_27 : decode cX2_swap 27 = .ok (.getfield 21, 3) := by decide +kernel
theorem dX2_swap_30 : decode cX2_swap 30 = .ok (.iload 4, 2) := by decide +kernel
theorem dX2_swap_32 : decode cX2_swap 32 = .ok (.iload_n 2, 1) := by decide +kernel
theorem dX2_swap_33 : decode cX2_swap 33 = .ok (.iastore, 1) := by decide +kernel
theorem dX2_swap_34 : decode cX2_swap 34 = .ok (.aload_n 0, 1) := by decide +kernel
theorem dX2_swap_35 : decode cX2_swap 35 = .ok (.getfield 21, 3) := by decide +kernel
theorem dX2_swap_38 : decode cX2_swap 38 = .ok (.iload 5, 2) := by decide +kernel
theorem dX2_swap_40 : decode cX2_swap 40 = .ok (.iload_n 1, 1) := by decide +kernel
theorem dX2_swap_41 : decode cX2_swap 41 = .ok (.iastore, 1) := by decide +kernel
theorem dX2_swap_42 : decode cX2_swap 42 = .ok (.return_, 1) := by decide +kernel
theorem dX2_liesLike_0 : decode cX2_liesLike 0 = .ok (.iconst 0, 1) := by decide +kernel
theorem dX2_liesLike_1 : decode cX2_liesLike 1 = .ok (.istore_n 3, 1) := by decide +kernel
theorem dX2_liesLike_2 : decode cX2_liesLike 2 = .ok (.iload_n 3, 1) := by decide +kernel
theorem dX2_liesLike_3 : decode cX2_liesLike 3 = .ok (.iload_n 2, 1) := by decide +kernel
theorem dX2_liesLike_4 : decode cX2_liesLike 4 = .ok (.if_icmp .ge 26, 3) := by decide +kernel
theorem dX2_liesLike_7 : decode cX2_liesLike 7 = .ok (.aload_n 0, 1) := by decide +kernel
theorem dX2_liesLike_8 : decode cX2_liesLike 8 = .ok (.getfield 9, 3) := by decide +kernel
theorem dX2_liesLike_11 : decode cX2_liesLike 11 = .ok (.iload_n 3, 1) := by decide +kernel
theorem dX2_liesLike_12 : decode cX2_liesLike 12 = .ok (.iaload, 1) := by decide +kernel
theorem dX2_liesLike_13 : decode cX2_liesLike 13 = .ok (.aload_n 1, 1) := by decide +kernel
theorem dX2_liesLike_14 : decode cX2_liesLike 14 = .ok (.getfield 9, 3) := by decide +kernel
theorem dX2_liesLike_17 : decode cX2_liesLike 17 = .ok (.iload_n 3, 1) := by decide +kernel
theorem dX2_liesLike_18 : decode cX2_liesLike 18 = .ok (.iaload, 1) := by decide +kernel
theorem dX2_liesLike_19 : decode cX2_liesLike 19 = .ok (.if_icmp .eq 5, 3) := by decide +kernel
theorem dX2_liesLike_22 : decode cX2_liesLike 22 = .ok (.iconst 0, 1) := by decide +kernel
theorem dX2_liesLike_23 : decode cX2_liesLike 23 = .ok (.ireturn, 1) := by decide +kernel
theorem dX2_liesLike_24 : decode cX2_liesLike 24 = .ok (.iinc 3 1, 3) := by decide +kernel
theorem dX2_liesLike_27 : decode cX2_liesLike 27 = .ok (.goto (-25), 3) := by decide +kernel
theorem dX2_liesLike_30 : decode cX2_liesLike 30 = .ok (.iconst 1, 1) := by decide +kernel
theorem dX2_liesLike_31 : decode cX2_liesLike 31 = .ok (.ireturn, 1) := by decide +kernel
theorem dX2_placesWithLeaves_0 : decode cX2_placesWithLeaves 0 = .ok (.iconst 0, 1) := by decide +kernel
theorem dX2_placesWithLeaves_1 : decode cX2_placesWithLeaves 1 = .ok (.istore_n 2, 1) := by decide +kernel
theorem dX2_placesWithLeaves_2 : decode cX2_placesWithLeaves 2 = .ok (.iconst 0, 1) := by decide +kernel
theorem dX2_placesWithLeaves_3 : decode cX2_placesWithLeaves 3 = .ok (.istore_n 3, 1) := by decide +kernel
theorem dX2_placesWithLeaves_4 : decode cX2_placesWithLeaves 4 = .ok (.iload_n 3, 1) := by decide +kernel
theorem dX2_placesWithLeaves_5 : decode cX2_placesWithLeaves 5 = .ok (.iload_n 1, 1) := by decide +kernel
theorem dX2_placesWithLeaves_6 : decode cX2_placesWithLeaves 6 = .ok (.if_icmp .ge 20, 3) := by decide +kernel
theorem dX2_placesWithLeaves_9 : decode cX2_placesWithLeaves 9 = .ok (.iload_n 2, 1) := by decide +kernel
theorem dX2_placesWithLeaves_10 : decode cX2_placesWithLeaves 10 = .ok (.iconst 1, 1) := by decide +kernel
theorem dX2_placesWithLeaves_11 : decode cX2_placesWithLeaves 11 = .ok (.aload_n 0, 1) := by decide +kernel
theorem dX2_placesWithLeaves_12 : decode cX2_placesWithLeaves 12 = .ok (.getfield 9, 3) := by decide +kernel
theorem dX2_placesWithLeaves_15 : decode cX2_placesWithLeaves 15 = .ok (.iload_n 3, 1) := by decide +kernel
theorem dX2_placesWithLeaves_16 : decode cX2_placesWithLeaves 16 = .ok (.iaload, 1) := by decide +kernel
theorem dX2_placesWithLeaves_17 : decode cX2_placesWithLeaves 17 = .ok (.ishl, 1) := by decide +kernel
theorem dX2_placesWithLeaves_18 : decode cX2_placesWithLeaves 18 = .ok (.ior, 1) := by decide +kernel
theorem dX2_placesWithLeaves_19 : decode cX2_placesWithLeaves 19 = .ok (.istore_n 2, 1) := by decide +kernel
theorem dX2_placesWithLeaves_20 : decode cX2_placesWithLeaves 20 = .ok (.iinc 3 1, 3) := by decide +kernel
theorem dX2_placesWithLeaves_23 : decode cX2_placesWithLeaves 23 = .ok (.goto (-19), 3) := by decide +kernel
theorem dX2_placesWithLeaves_26 : decode cX2_placesWithLeaves 26 = .ok (.iload_n 2, 1) := by decide +kernel
theorem dX2_placesWithLeaves_27 : decode cX2_placesWithLeaves 27 = .ok (.ireturn, 1) := by decide +kernel
theorem dX2_hear_0 : decode cX2_hear 0 = .ok (.aload_n 0, 1) := by decide +kernel
theorem dX2_hear_1 : decode cX2_hear 1 = .ok (.aload_n 0, 1) := by decide +kernel
theorem dX2_hear_2 : decode cX2_hear 2 = .ok (.getfield 27, 3) := by decide +kernel
theorem dX2_hear_5 : decode cX2_hear 5 = .ok (.putfield 53, 3) := by decide +kernel
theorem dX2_hear_8 : decode cX2_hear 8 = .ok (.iconst 0, 1) := by decide +kernel
theorem dX2_hear_9 : decode cX2_hear 9 = .ok (.istore_n 3, 1) := by decide +kernel
theorem dX2_hear_10 : decode cX2_hear 10 = .ok (.iload_n 3, 1) := by decide +kernel
theorem dX2_hear_11 : decode cX2_hear 11 = .ok (.aload_n 1, 1) := by decide +kernel
theorem dX2_hear_12 : decode cX2_hear 12 = .ok (.getfield 56, 3) := by decide +kernel
theorem dX2_hear_15 : decode cX2_hear 15 = .ok (.if_icmp .ge 119, 3) := by decide +kernel
theorem dX2_hear_18 : decode cX2_hear 18 = .ok (.aload_n 0, 1) := by decide +kernel
theorem dX2_hear_19 : decode cX2_hear 19 = .ok (.getfield 21, 3) := by decide +kernel
theorem dX2_hear_22 : decode cX2_hear 22 = .ok (.iload_n 3, 1) := by decide +kernel
theorem dX2_hear_23 : decode cX2_hear 23 = .ok (.iaload, 1) := by decide +kernel
theorem dX2_hear_24 : decode cX2_hear 24 = .ok (.istore 4, 2) := by decide +kernel
theorem dX2_hear_26 : decode cX2_hear 26 = .ok (.iload 4, 2) := by decide +kernel
theorem dX2_hear_28 : decode cX2_hear 28 = .ok (.ifCond .lt 100, 3) := by decide +kernel
theorem dX2_hear_31 : decode cX2_hear 31 = .ok (.iload 4, 2) := by decide +kernel
theorem dX2_hear_33 : decode cX2_hear 33 = .ok (.bipush 8, 2) := by decide +kernel
theorem dX2_hear_35 : decode cX2_hear 35 = .ok (.if_icmp .lt 6, 3) := by decide +kernel
theorem dX2_hear_38 : decode cX2_hear 38 = .ok (.goto 90, 3) := by decide +kernel
theorem dX2_hear_41 : decode cX2_hear 41 = .ok (.iload_n 3, 1) := by decide +kernel
theorem dX2_hear_42 : decode cX2_hear 42 = .ok (.aload_n 1, 1) := by decide +kernel
theorem dX2_hear_43 : decode cX2_hear 43 = .ok (.getfield 56, 3) := by decide +kernel
theorem dX2_hear_46 : decode cX2_hear 46 = .ok (.iconst 1, 1) := by decide +kernel
theorem dX2_hear_47 : decode cX2_hear 47 = .ok (.isub, 1) := by decide +kernel
theorem dX2_hear_48 : decode cX2_hear 48 = .ok (.if_icmp .ne 7, 3) := by decide +kernel
theorem dX2_hear_51 : decode cX2_hear 51 = .ok (.iconst 1, 1) := by decide +kernel
theorem dX2_hear_52 : decode cX2_hear 52 = .ok (.goto 4, 3) := by decide +kernel
theorem dX2_hear_55 : decode cX2_hear 55 = .ok (.iconst 0, 1) := by decide +kernel
theorem dX2_hear_56 : decode cX2_hear 56 = .ok (.istore 5, 2) := by decide +kernel
theorem dX2_hear_58 : decode cX2_hear 58 = .ok (.iload 5, 2) := by decide +kernel
theorem dX2_hear_60 : decode cX2_hear 60 = .ok (.ifCond .eq 7, 3) := by decide +kernel
theorem dX2_hear_63 : decode cX2_hear 63 = .ok (.iconst 0, 1) := by decide +kernel
theorem dX2_hear_64 : decode cX2_hear 64 = .ok (.goto 12, 3) := by decide +kernel
theorem dX2_hear_67 : decode cX2_hear 67 = .ok (.aload_n 0, 1) := by decide +kernel
theorem dX2_hear_68 : decode cX2_hear 68 = .ok (.iload 4, 2) := by decide +kernel
theorem dX2_hear_70 : decode cX2_hear 70 = .ok (.iload_n 3, 1) := by decide +kernel
theorem dX2_hear_71 : decode cX2_hear 71 = .ok (.aload_n 1, 1) := by decide +kernel
theorem dX2_hear_72 : decode cX2_hear 72 = .ok (.aload_n 2, 1) := by decide +kernel
theorem dX2_hear_73 : decode cX2_hear 73 = .ok (.invokevirtual 59, 3) := by decide +kernel
theorem dX2_hear_76 : decode cX2_hear 76 = .ok (.istore 6, 2) := by decide +kernel
theorem dX2_hear_78 : decode cX2_hear 78 = .ok (.aload_n 0, 1) := by decide +kernel
theorem dX2_hear_79 : decode cX2_hear 79 = .ok (.getfield 24, 3) := by decide +kernel
theorem dX2_hear_82 : decode cX2_hear 82 = .ok (.iload 4, 2) := by decide +kernel
theorem dX2_hear_84 : decode cX2_hear 84 = .ok (.iload 6, 2) := by decide +kernel
theorem dX2_hear_86 : decode cX2_hear 86 = .ok (.iastore, 1) := by decide +kernel
theorem dX2_hear_87 : decode cX2_hear 87 = .ok (.aload_n 0, 1) := by decide +kernel
theorem dX2_hear_88 : decode cX2_hear 88 = .ok (.dup, 1) := by decide +kernel
theorem dX2_hear_89 : decode cX2_hear 89 = .ok (.getfield 53, 3) := by decide +kernel
theorem dX2_hear_92 : decode cX2_hear 92 = .ok (.iload 6, 2) := by decide +kernel
theorem dX2_hear_94 : decode cX2_hear 94 = .ok (.isub, 1) := by decide +kernel
theorem dX2_hear_95 : decode cX2_hear 95 = .ok (.putfield 53, 3) := by decide +kernel
theorem dX2_hear_98 : decode cX2_hear 98 = .ok (.aload_n 0, 1) := by decide +kernel
theorem dX2_hear_99 : decode cX2_hear 99 = .ok (.aload_n 0, 1) := by decide +kernel
theorem dX2_hear_100 : decode cX2_hear 100 = .ok (.getfield 18, 3) := by decide +kernel
theorem dX2_hear_103 : decode cX2_hear 103 = .ok (.iload 4, 2) := by decide +kernel
theorem dX2_hear_105 : decode cX2_hear 105 = .ok (.iaload, 1) := by decide +kernel
theorem dX2_hear_106 : decode cX2_hear 106 = .ok (.aload_n 1, 1) := by decide +kernel
theorem dX2_hear_107 : decode cX2_hear 107 = .ok (.invokevirtual 63, 3) := by decide +kernel
theorem dX2_hear_110 : decode cX2_hear 110 = .ok (.aload_n 1, 1) := by decide +kernel
theorem dX2_hear_111 : decode cX2_hear 111 = .ok (.getfield 67, 3) := by decide +kernel
theorem dX2_hear_114 : decode cX2_hear 114 = .ok (.iload 4, 2) := by decide +kernel
theorem dX2_hear_116 : decode cX2_hear 116 = .ok (.baload, 1) := by decide +kernel
theorem dX2_hear_117 : decode cX2_hear 117 = .ok (.ifCond .eq 11, 3) := by decide +kernel
theorem dX2_hear_120 : decode cX2_hear 120 = .ok (.aload_n 0, 1) := by decide +kernel
theorem dX2_hear_121 : decode cX2_hear 121 = .ok (.aload_n 1, 1) := by decide +kernel
theorem dX2_hear_122 : decode cX2_hear 122 = .ok (.getfield 71, 3) := by decide +kernel
theorem dX2_hear_125 : decode cX2_hear 125 = .ok (.invokevirtual 74, 3) := by decide +kernel
theorem dX2_hear_128 : decode cX2_hear 128 = .ok (.iinc 3 1, 3) := by decide +kernel
theorem dX2_hear_131 : decode cX2_hear 131 = .ok (.goto (-121), 3) := by decide +kernel
theorem dX2_hear_134 : decode cX2_hear 134 = .ok (.aload_n 0, 1) := by decide +kernel
theorem dX2_hear_135 : decode cX2_hear 135 = .ok (.aload_n 2, 1) := by decide +kernel
theorem dX2_hear_136 : decode cX2_hear 136 = .ok (.aload_n 1, 1) := by decide +kernel
theorem dX2_hear_137 : decode cX2_hear 137 = .ok (.aload_n 0, 1) := by decide +kernel
theorem dX2_hear_138 : decode cX2_hear 138 = .ok (.invokevirtual 78, 3) := by decide +kernel
theorem dX2_hear_141 : decode cX2_hear 141 = .ok (.iconst 5, 1) := by decide +kernel
theorem dX2_hear_142 : decode cX2_hear 142 = .ok (.invokestatic 84, 3) := by decide +kernel
theorem dX2_hear_145 : decode cX2_hear 145 = .ok (.putfield 31, 3) := by decide +kernel
theorem dX2_hear_148 : decode cX2_hear 148 = .ok (.aload_n 0, 1) := by decide +kernel
theorem dX2_hear_149 : decode cX2_hear 149 = .ok (.dup, 1) := by decide +kernel
theorem dX2_hear_150 : decode cX2_hear 150 = .ok (.getfield 40, 3) := by decide +kernel
theorem dX2_hear_153 : decode cX2_hear 153 = .ok (.iconst 1, 1) := by decide +kernel
theorem dX2_hear_154 : decode cX2_hear 154 = .ok (.iadd, 1) := by decide +kernel
theorem dX2_hear_155 : decode cX2_hear 155 = .ok (.putfield 40, 3) := by decide +kernel
theorem dX2_hear_158 : decode cX2_hear 158 = .ok (.return_, 1) := by decide +kernel
theorem dX2_sipOf_0 : decode cX2_sipOf 0 = .ok (.aload_n 0, 1) := by decide +kernel
theorem dX2_sipOf_1 : decode cX2_sipOf 1 = .ok (.getfield 15, 3) := by decide +kernel
theorem dX2_sipOf_4 : decode cX2_sipOf 4 = .ok (.iload_n 1, 1) := by decide +kernel
theorem dX2_sipOf_5 : decode cX2_sipOf 5 = .ok (.iaload, 1) := by decide +kernel
theorem dX2_sipOf_6 : decode cX2_sipOf 6 = .ok (.istore 5, 2) := by decide +kernel
theorem dX2_sipOf_8 : decode cX2_sipOf 8 = .ok (.aload_n 3, 1) := by decide +kernel
theorem dX2_sipOf_9 : decode cX2_sipOf 9 = .ok (.getfield 89, 3) := by decide +kernel
theorem dX2_sipOf_12 : decode cX2_sipOf 12 = .ok (.iconst 0, 1) := by decide +kernel
theorem dX2_sipOf_13 : decode cX2_sipOf 13 = .ok (.baload, 1) := by decide +kernel
theorem dX2_sipOf_14 : decode cX2_sipOf 14 = .ok (.ifCond .eq 16, 3) := by decide +kernel
theorem dX2_sipOf_17 : decode cX2_sipOf 17 = .ok (.aload 4, 2) := by decide +kernel
theorem dX2_sipOf_19 : decode cX2_sipOf 19 = .ok (.aload_n 3, 1) := by decide +kernel
theorem dX2_sipOf_20 : decode cX2_sipOf 20 = .ok (.iconst 0, 1) := by decide +kernel
theorem dX2_sipOf_21 : decode cX2_sipOf 21 = .ok (.aload_n 0, 1) := by decide +kernel
theorem dX2_sipOf_22 : decode cX2_sipOf 22 = .ok (.iload 5, 2) := by decide +kernel
theorem dX2_sipOf_24 : decode cX2_sipOf 24 = .ok (.iload_n 2, 1) := by decide +kernel
theorem dX2_sipOf_25 : decode cX2_sipOf 25 = .ok (.invokevirtual 92, 3) := by decide +kernel
theorem dX2_sipOf_28 : decode cX2_sipOf 28 = .ok (.istore 5, 2) := by decide +kernel
theorem dX2_sipOf_30 : decode cX2_sipOf 30 = .ok (.iconst 0, 1) := by decide +kernel
theorem dX2_sipOf_31 : decode cX2_sipOf 31 = .ok (.iload 5, 2) := by decide +kernel
theorem dX2_sipOf_33 : decode cX2_sipOf 33 = .ok (.aload_n 0, 1) := by decide +kernel
theorem dX2_sipOf_34 : decode cX2_sipOf 34 = .ok (.getfield 53, 3) := by decide +kernel
theorem dX2_sipOf_37 : decode cX2_sipOf 37 = .ok (.invokestatic 96, 3) := by decide +kernel
theorem dX2_sipOf_40 : decode cX2_sipOf 40 = .ok (.invokestatic 99, 3) := by decide +kernel
theorem dX2_sipOf_43 : decode cX2_sipOf 43 = .ok (.ireturn, 1) := by decide +kernel
theorem dX2_stirBy_0 : decode cX2_stirBy 0 = .ok (.iload_n 1, 1) := by decide +kernel
theorem dX2_stirBy_1 : decode cX2_stirBy 1 = .ok (.aload_n 0, 1) := by decide +kernel
theorem dX2_stirBy_2 : decode cX2_stirBy 2 = .ok (.getfield 53, 3) := by decide +kernel
theorem dX2_stirBy_5 : decode cX2_stirBy 5 = .ok (.invokestatic 102, 3) := by decide +kernel
theorem dX2_stirBy_8 : decode cX2_stirBy 8 = .ok (.istore_n 3, 1) := by decide +kernel
theorem dX2_stirBy_9 : decode cX2_stirBy 9 = .ok (.iconst 0, 1) := by decide +kernel
theorem dX2_stirBy_10 : decode cX2_stirBy 10 = .ok (.istore 4, 2) := by decide +kernel
theorem dX2_stirBy_12 : decode cX2_stirBy 12 = .ok (.iload 4, 2) := by decide +kernel
theorem dX2_stirBy_14 : decode cX2_stirBy 14 = .ok (.aload_n 2, 1) := by decide +kernel
theorem dX2_stirBy_15 : decode cX2_stirBy 15 = .ok (.getfield 71, 3) := by decide +kernel
theorem dX2_stirBy_18 : decode cX2_stirBy 18 = .ok (.if_icmp .ge 38, 3) := by decide +kernel
theorem dX2_stirBy_21 : decode cX2_stirBy 21 = .ok (.iload_n 3, 1) := by decide +kernel
theorem dX2_stirBy_22 : decode cX2_stirBy 22 = .ok (.ifCond .eq 34, 3) := by decide +kernel
theorem dX2_stirBy_25 : decode cX2_stirBy 25 = .ok (.aload_n 0, 1) := by decide +kernel
theorem dX2_stirBy_26 : decode cX2_stirBy 26 = .ok (.getfield 9, 3) := by decide +kernel
theorem dX2_stirBy_29 : decode cX2_stirBy 29 = .ok (.iload 4, 2) := by decide +kernel
theorem dX2_stirBy_31 : decode cX2_stirBy 31 = .ok (.aload_n 0, 1) := by decide +kernel
theorem dX2_stirBy_32 : decode cX2_stirBy 32 = .ok (.getfield 9, 3) := by decide +kernel
theorem dX2_stirBy_35 : decode cX2_stirBy 35 = .ok (.iload 4, 2) := by decide +kernel
theorem dX2_stirBy_37 : decode cX2_stirBy 37 = .ok (.iaload, 1) := by decide +kernel
theorem dX2_stirBy_38 : decode cX2_stirBy 38 = .ok (.iload_n 3, 1) := by decide +kernel
theorem dX2_stirBy_39 : decode cX2_stirBy 39 = .ok (.aload_n 2, 1) := by decide +kernel
theorem dX2_stirBy_40 : decode cX2_stirBy 40 = .ok (.getfield 105, 3) := by decide +kernel
theorem dX2_stirBy_43 : decode cX2_stirBy 43 = .ok (.iload 4, 2) := by decide +kernel
theorem dX2_stirBy_45 : decode cX2_stirBy 45 = .ok (.iaload, 1) := by decide +kernel
theorem dX2_stirBy_46 : decode cX2_stirBy 46 = .ok (.invokestatic 108, 3) := by decide +kernel
theorem dX2_stirBy_49 : decode cX2_stirBy 49 = .ok (.iastore, 1) := by decide +kernel
theorem dX2_stirBy_50 : decode cX2_stirBy 50 = .ok (.iinc 4 1, 3) := by decide +kernel
theorem dX2_stirBy_53 : decode cX2_stirBy 53 = .ok (.goto (-41), 3) := by decide +kernel
theorem dX2_stirBy_56 : decode cX2_stirBy 56 = .ok (.return_, 1) := by decide +kernel
theorem dX2_push_0 : decode cX2_push 0 = .ok (.iload_n 0, 1) := by decide +kernel
theorem dX2_push_1 : decode cX2_push 1 = .ok (.bipush 6, 2) := by decide +kernel
theorem dX2_push_3 : decode cX2_push 3 = .ok (.isub, 1) := by decide +kernel
theorem dX2_push_4 : decode cX2_push 4 = .ok (.iload_n 1, 1) := by decide +kernel
theorem dX2_push_5 : decode cX2_push 5 = .ok (.bipush 10, 2) := by decide +kernel
theorem dX2_push_7 : decode cX2_push 7 = .ok (.idiv, 1) := by decide +kernel
theorem dX2_push_8 : decode cX2_push 8 = .ok (.imul, 1) := by decide +kernel
theorem dX2_push_9 : decode cX2_push 9 = .ok (.ireturn, 1) := by decide +kernel
theorem dX2_stirred_0 : decode cX2_stirred 0 = .ok (.iload_n 2, 1) := by decide +kernel
theorem dX2_stirred_1 : decode cX2_stirred 1 = .ok (.iconst 1, 1) := by decide +kernel
theorem dX2_stirred_2 : decode cX2_stirred 2 = .ok (.if_icmp .ge 7, 3) := by decide +kernel
theorem dX2_stirred_5 : decode cX2_stirred 5 = .ok (.iconst 0, 1) := by decide +kernel
theorem dX2_stirred_6 : decode cX2_stirred 6 = .ok (.goto 6, 3) := by decide +kernel
theorem dX2_stirred_9 : decode cX2_stirred 9 = .ok (.iload_n 1, 1) := by decide +kernel
theorem dX2_stirred_10 : decode cX2_stirred 10 = .ok (.iload_n 2, 1) := by decide +kernel
theorem dX2_stirred_11 : decode cX2_stirred 11 = .ok (.idiv, 1) := by decide +kernel
theorem dX2_stirred_12 : decode cX2_stirred 12 = .ok (.istore_n 3, 1) := by decide +kernel
theorem dX2_stirred_13 : decode cX2_stirred 13 = .ok (.iload_n 0, 1) := by decide +kernel
theorem dX2_stirred_14 : decode cX2_stirred 14 = .ok (.iload_n 3, 1) := by decide +kernel
theorem dX2_stirred_15 : decode cX2_stirred 15 = .ok (.iadd, 1) := by decide +kernel
theorem dX2_stirred_16 : decode cX2_stirred 16 = .ok (.bipush 12, 2) := by decide +kernel
theorem dX2_stirred_18 : decode cX2_stirred 18 = .ok (.invokestatic 84, 3) := by decide +kernel
theorem dX2_stirred_21 : decode cX2_stirred 21 = .ok (.ireturn, 1) := by decide +kernel
theorem dX2_blow_0 : decode cX2_blow 0 = .ok (.iconst 1, 1) := by decide +kernel
theorem dX2_blow_1 : decode cX2_blow 1 = .ok (.istore_n 2, 1) := by decide +kernel
theorem dX2_blow_2 : decode cX2_blow 2 = .ok (.iload_n 2, 1) := by decide +kernel
theorem dX2_blow_3 : decode cX2_blow 3 = .ok (.iload_n 1, 1) := by decide +kernel
theorem dX2_blow_4 : decode cX2_blow 4 = .ok (.if_icmp .ge 57, 3) := by decide +kernel
theorem dX2_blow_7 : decode cX2_blow 7 = .ok (.iconst 0, 1) := by decide +kernel
theorem dX2_blow_8 : decode cX2_blow 8 = .ok (.istore_n 3, 1) := by decide +kernel
theorem dX2_blow_9 : decode cX2_blow 9 = .ok (.iload_n 3, 1) := by decide +kernel
theorem dX2_blow_10 : decode cX2_blow 10 = .ok (.iload_n 2, 1) := by decide +kernel
theorem dX2_blow_11 : decode cX2_blow 11 = .ok (.if_icmp .ge 44, 3) := by decide +kernel
theorem dX2_blow_14 : decode cX2_blow 14 = .ok (.aload_n 0, 1) := by decide +kernel
theorem dX2_blow_15 : decode cX2_blow 15 = .ok (.getfield 9, 3) := by decide +kernel
theorem dX2_blow_18 : decode cX2_blow 18 = .ok (.iload_n 3, 1) := by decide +kernel
theorem dX2_blow_19 : decode cX2_blow 19 = .ok (.iaload, 1) := by decide +kernel
theorem dX2_blow_20 : decode cX2_blow 20 = .ok (.aload_n 0, 1) := by decide +kernel
theorem dX2_blow_21 : decode cX2_blow 21 = .ok (.getfield 9, 3) := by decide +kernel
theorem dX2_blow_24 : decode cX2_blow 24 = .ok (.iload_n 2, 1) := by decide +kernel
theorem dX2_blow_25 : decode cX2_blow 25 = .ok (.iaload, 1) := by decide +kernel
theorem dX2_blow_26 : decode cX2_blow 26 = .ok (.if_icmp .ne 23, 3) := by decide +kernel
theorem dX2_blow_29 : decode cX2_blow 29 = .ok (.aload_n 0, 1) := by decide +kernel
theorem dX2_blow_30 : decode cX2_blow 30 = .ok (.getfield 9, 3) := by decide +kernel
theorem dX2_blow_33 : decode cX2_blow 33 = .ok (.iload_n 2, 1) := by decide +kernel
theorem dX2_blow_34 : decode cX2_blow 34 = .ok (.aload_n 0, 1) := by decide +kernel
theorem dX2_blow_35 : decode cX2_blow 35 = .ok (.getfield 9, 3) := by decide +kernel
theorem dX2_blow_38 : decode cX2_blow 38 = .ok (.iload_n 2, 1) := by decide +kernel
theorem dX2_blow_39 : decode cX2_blow 39 = .ok (.iaload, 1) := by decide +kernel
theorem dX2_blow_40 : decode cX2_blow 40 = .ok (.iconst 1, 1) := by decide +kernel
theorem dX2_blow_41 : decode cX2_blow 41 = .ok (.iadd, 1) := by decide +kernel
theorem dX2_blow_42 : decode cX2_blow 42 = .ok (.bipush 12, 2) := by decide +kernel
theorem dX2_blow_44 : decode cX2_blow 44 = .ok (.irem, 1) := by decide +kernel
theorem dX2_blow_45 : decode cX2_blow 45 = .ok (.iastore, 1) := by decide +kernel
theorem dX2_blow_46 : decode cX2_blow 46 = .ok (.goto 9, 3) := by decide +kernel
theorem dX2_blow_49 : decode cX2_blow 49 = .ok (.iinc 3 1, 3) := by decide +kernel
theorem dX2_blow_52 : decode cX2_blow 52 = .ok (.goto (-43), 3) := by decide +kernel
theorem dX2_blow_55 : decode cX2_blow 55 = .ok (.iinc 2 1, 3) := by decide +kernel
theorem dX2_blow_58 : decode cX2_blow 58 = .ok (.goto (-56), 3) := by decide +kernel
theorem dX2_blow_61 : decode cX2_blow 61 = .ok (.return_, 1) := by decide +kernel
theorem dX3_init_0 : decode cX3_init 0 = .ok (.aload_n 0, 1) := by decide +kernel
theorem dX3_init_1 : decode cX3_init 1 = .ok (.invokespecial 3, 3) := by decide +kernel
theorem dX3_init_4 : decode cX3_init 4 = .ok (.aload_n 0, 1) := by decide +kernel
theorem dX3_init_5 : decode cX3_init 5 = .ok (.new 9, 3) := by decide +kernel
theorem dX3_init_8 : decode cX3_init 8 = .ok (.dup, 1) := by decide +kernel
theorem dX3_init_9 : decode cX3_init 9 = .ok (.invokespecial 11, 3) := by decide +kernel
theorem dX3_init_12 : decode cX3_init 12 = .ok (.putfield 12, 3) := by decide +kernel
theorem dX3_init_15 : decode cX3_init 15 = .ok (.aload_n 0, 1) := by decide +kernel
theorem dX3_init_16 : decode cX3_init 16 = .ok (.sipush 1080, 3) := by decide +kernel
theorem dX3_init_19 : decode cX3_init 19 = .ok (.newarray .int, 2) := by decide +kernel
theorem dX3_init_21 : decode cX3_init 21 = .ok (.putfield 18, 3) := by decide +kernel
theorem dX3_init_24 : decode cX3_init 24 = .ok (.aload_n 0, 1) := by decide +kernel
theorem dX3_init_25 : decode cX3_init 25 = .ok (.bipush 8, 2) := by decide +kernel
theorem dX3_init_27 : decode cX3_init 27 = .ok (.newarray .int, 2) := by decide +kernel
theorem dX3_init_29 : decode cX3_init 29 = .ok (.putfield 22, 3) := by decide +kernel
theorem dX3_init_32 : decode cX3_init 32 = .ok (.aload_n 0, 1) := by decide +kernel
theorem dX3_init_33 : decode cX3_init 33 = .ok (.bipush 8, 2) := by decide +kernel
theorem dX3_init_35 : decode cX3_init 35 = .ok (.newarray .int, 2) := by decide +kernel
theorem dX3_init_37 : decode cX3_init 37 = .ok (.putfield 25, 3) := by decide +kernel
theorem dX3_init_40 : decode cX3_init 40 = .ok (.aload_n 0, 1) := by decide +kernel
theorem dX3_init_41 : decode cX3_init 41 = .ok (.iconst 3, 1) := by decide +kernel
theorem dX3_init_42 : decode cX3_init 42 = .ok (.newarray .int, 2) := by decide +kernel
theorem dX3_init_44 : decode cX3_init 44 = .ok (.putfield 28, 3) := by decide +kernel
theorem dX3_init_47 : decode cX3_init 47 = .ok (.return_, 1) := by decide +kernel
theorem dX3_open_0 : decode cX3_open 0 = .ok (.aload_n 0, 1) := by decide +kernel
theorem dX3_open_1 : decode cX3_open 1 = .ok (.getfield 12, 3) := by decide +kernel
theorem dX3_open_4 : decode cX3_open 4 = .ok (.aload_n 1, 1) := by decide +kernel
theorem dX3_open_5 : decode cX3_open 5 = .ok (.invokevirtual 31, 3) := by decide +kernel
theorem dX3_open_8 : decode cX3_open 8 = .ok (.aload_n 0, 1) := by decide +kernel
theorem dX3_open_9 : decode cX3_open 9 = .ok (.iconst 0, 1) := by decide +kernel
theorem dX3_open_10 : decode cX3_open 10 = .ok (.putfield 35, 3) := by decide +kernel
theorem dX3_open_13 : decode cX3_open 13 = .ok (.aload_n 0, 1) := by decide +kernel
theorem dX3_open_14 : decode cX3_open 14 = .ok (.iconst 0, 1) := by decide +kernel
theorem dX3_open_15 : decode cX3_open 15 = .ok (.putfield 39, 3) := by decide +kernel
theorem dX3_open_18 : decode cX3_open 18 = .ok (.return_, 1) := by decide +kernel
theorem dX3_copyFrom_0 : decode cX3_copyFrom 0 = .ok (.aload_n 0, 1) := by decide +kernel
theorem dX3_copyFrom_1 : decode cX3_copyFrom 1 = .ok (.getfield 12, 3) := by decide +kernel
theorem dX3_copyFrom_4 : decode cX3_copyFrom 4 = .ok (.aload_n 1, 1) := by decide +kernel
theorem dX3_copyFrom_5 : decode cX3_copyFrom 5 = .ok (.getfield 12, 3) := by decide +kernel
theorem dX3_copyFrom_8 : decode cX3_copyFrom 8 = .ok (.invokevirtual 42, 3) := by decide +kernel
theorem dX3_copyFrom_11 : decode cX3_copyFrom 11 = .ok (.aload_n 1, 1) := by decide +kernel
theorem dX3_copyFrom_12 : decode cX3_copyFrom 12 = .ok (.getfield 18, 3) := by decide +kernel
theorem dX3_copyFrom_15 : decode cX3_copyFrom 15 = .ok (.iconst 0, 1) := by decide +kernel
theorem dX3_copyFrom_16 : decode cX3_copyFrom 16 = .ok (.aload_n 0, 1) := by decide +kernel
theorem dX3_copyFrom_17 : decode cX3_copyFrom 17 = .ok (.getfield 18, 3) := by decide +kernel
theorem dX3_copyFrom_20 : decode cX3_copyFrom 20 = .ok (.iconst 0, 1) := by decide +kernel
theorem dX3_copyFrom_21 : decode cX3_copyFrom 21 = .ok (.aload_n 0, 1) := by decide +kernel
theorem dX3_copyFrom_22 : decode cX3_copyFrom 22 = .ok (.getfield 18, 3) := by decide +kernel
theorem dX3_copyFrom_25 : decode cX3_copyFrom 25 = .ok (.arraylength, 1) := by decide +kernel
theorem dX3_copyFrom_26 : decode cX3_copyFrom 26 = .ok (.invokestatic 46, 3) := by decide +kernel
theorem dX3_copyFrom_29 : decode cX3_copyFrom 29 = .ok (.aload_n 0, 1) := by decide +kernel
theorem dX3_copyFrom_30 : decode cX3_copyFrom 30 = .ok (.aload_n 1, 1) := by decide +kernel
theorem dX3_copyFrom_31 : decode cX3_copyFrom 31 = .ok (.getfield 52, 3) := by decide +kernel
theorem dX3_copyFrom_34 : decode cX3_copyFrom 34 = .ok (.putfield 52, 3) := by decide +kernel
theorem dX3_copyFrom_37 : decode cX3_copyFrom 37 = .ok (.aload_n 0, 1) := by decide +kernel
theorem dX3_copyFrom_38 : decode cX3_copyFrom 38 = .ok (.aload_n 1, 1) := by decide +kernel
theorem dX3_copyFrom_39 : decode cX3_copyFrom 39 = .ok (.getfield 35, 3) := by decide +kernel
theorem dX3_copyFrom_42 : decode cX3_copyFrom 42 = .ok (.putfield 35, 3) := by decide +kernel
theorem dX3_copyFrom_45 : decode cX3_copyFrom 45 = .ok (.aload_n 1, 1) := by decide +kernel
theorem dX3_copyFrom_46 : decode cX3_copyFrom 46 = .ok (.getfield 22, 3) := by decide +kernel
theorem dX3_copyFrom_49 : decode cX3_copyFrom 49 = .ok (.iconst 0, 1) := by decide +kernel
theorem dX3_copyFrom_50 : decode cX3_copyFrom 50 = .ok (.aload_n 0, 1) := by decide +kernel
theorem dX3_copyFrom_51 : decode cX3_copyFrom 51 = .ok (.getfield 22, 3) := by decide +kernel
theorem dX3_copyFrom_54 : decode cX3_copyFrom 54 = .ok (.iconst 0, 1) := by decide +kernel
theorem dX3_copyFrom_55 : decode cX3_copyFrom 55 = .ok (.bipush 8, 2) := by decide +kernel
theorem dX3_copyFrom_57 : decode cX3_copyFrom 57 = .ok (.invokestatic 46, 3) := by decide +kernel
theorem dX3_copyFrom_60 : decode cX3_copyFrom 60 = .ok (.aload_n 1, 1) := by decide +kernel
theorem dX3_copyFrom_61 : decode cX3_copyFrom 61 = .ok (.getfield 25, 3) := by decide +kernel
theorem dX3_copyFrom_64 : decode cX3_copyFrom 64 = .ok (.iconst 0, 1) := by decide +kernel
theorem dX3_copyFrom_65 : decode cX3_copyFrom 65 = .ok (.aload_n 0, 1) := by decide +kernel
theorem dX3_copyFrom_66 : decode cX3_copyFrom 66 = .ok (.getfield 25, 3) := by decide +kernel
theorem dX3_copyFrom_69 : decode cX3_copyFrom 69 = .ok (.iconst 0, 1) := by decide +kernel
theorem dX3_copyFrom_70 : decode cX3_copyFrom 70 = .ok (.bipush 8, 2) := by decide +kernel
theorem dX3_copyFrom_72 : decode cX3_copyFrom 72 = .ok (.invokestatic 46, 3) := by decide +kernel
theorem dX3_copyFrom_75 : decode cX3_copyFrom 75 = .ok (.aload_n 0, 1) := by decide +kernel
theorem dX3_copyFrom_76 : decode cX3_copyFrom 76 = .ok (.aload_n 1, 1) := by decide +kernel
theorem dX3_copyFrom_77 : decode cX3_copyFrom 77 = .ok (.getfield 39, 3) := by decide +kernel
theorem dX3_copyFrom_80 : decode cX3_copyFrom 80 = .ok (.putfield 39, 3) := by decide +kernel
theorem dX3_copyFrom_83 : decode cX3_copyFrom 83 = .ok (.aload_n 1, 1) := by decide +kernel
theorem dX3_copyFrom_84 : decode cX3_copyFrom 84 = .ok (.getfield 28, 3) := by decide +kernel
theorem dX3_copyFrom_87 : decode cX3_copyFrom 87 = .ok (.iconst 0, 1) := by decide +kernel
theorem dX3_copyFrom_88 : decode cX3_copyFrom 88 = .ok (.aload_n 0, 1) := by decide +kernel
theorem dX3_copyFrom_89 : decode cX3_copyFrom 89 = .ok (.getfield 28, 3) := by decide +kernel
theorem dX3_copyFrom_92 : decode cX3_copyFrom 92 = .ok (.iconst 0, 1) := by decide +kernel
theorem dX3_copyFrom_93 : decode cX3_copyFrom 93 = .ok (.aload_n 0, 1) := by decide +kernel
theorem dX3_copyFrom_94 : decode cX3_copyFrom 94 = .ok (.getfield 28, 3) := by decide +kernel
theorem dX3_copyFrom_97 : decode cX3_copyFrom 97 = .ok (.arraylength, 1) := by decide +kernel
theorem dX3_copyFrom_98 : decode cX3_copyFrom 98 = .ok (.invokestatic 46, 3) := by decide +kernel
theorem dX3_copyFrom_101 : decode cX3_copyFrom 101 = .ok (.return_, 1) := by decide +kernel
theorem dX3_keepAct_0 : decode cX3_keepAct 0 = .ok (.aload_n 0, 1) := by decide +kernel
theorem dX3_keepAct_1 : decode cX3_keepAct 1 = .ok (.getfield 35, 3) := by decide +kernel
theorem dX3_keepAct_4 : decode cX3_keepAct 4 = .ok (.bipush 40, 2) := by decide +kernel
theorem dX3_keepAct_6 : decode cX3_keepAct 6 = .ok (.if_icmp .ne 26, 3) := by decide +kernel
theorem dX3_keepAct_9 : decode cX3_keepAct 9 = .ok (.aload_n 0, 1) := by decide +kernel
theorem dX3_keepAct_10 : decode cX3_keepAct 10 = .ok (.aload_n 0, 1) := by decide +kernel
theorem dX3_keepAct_11 : decode cX3_keepAct 11 = .ok (.getfield 52, 3) := by decide +kernel
theorem dX3_keepAct_14 : decode cX3_keepAct 14 = .ok (.iconst 1, 1) := by decide +kernel
theorem dX3_keepAct_15 : decode cX3_keepAct 15 = .ok (.iadd, 1) := by decide +kernel
theorem dX3_keepAct_16 : decode cX3_keepAct 16 = .ok (.bipush 40, 2) := by decide +kernel
theorem dX3_keepAct_18 : decode cX3_keepAct 18 = .ok (.irem, 1) := by decide +kernel
theorem dX3_keepAct_19 : decode cX3_keepAct 19 = .ok (.putfield 52, 3) := by decide +kernel
theorem dX3_keepAct_22 : decode cX3_keepAct 22 = .ok (.aload_n 0, 1) := by decide +kernel
theorem dX3_keepAct_23 : decode cX3_keepAct 23 = .ok (.dup, 1) := by decide +kernel
theorem dX3_keepAct_24 : decode cX3_keepAct 24 = .ok (.getfield 35, 3) := by decide +kernel
theorem dX3_keepAct_27 : decode cX3_keepAct 27 = .ok (.iconst 1, 1) := by decide +kernel
theorem dX3_keepAct_28 : decode cX3_keepAct 28 = .ok (.isub, 1) := by decide +kernel
theorem dX3_keepAct_29 : decode cX3_keepAct 29 = .ok (.putfield 35, 3) := by decide +kernel
theorem dX3_keepAct_32 : decode cX3_keepAct 32 = .ok (.aload_n 0, 1) := by decide +kernel
theorem dX3_keepAct_33 : decode cX3_keepAct 33 = .ok (.getfield 12, 3) := by decide +kernel
theorem dX3_keepAct_36 : decode cX3_keepAct 36 = .ok (.aload_n 0, 1) := by decide +kernel
theorem dX3_keepAct_37 : decode cX3_keepAct 37 = .ok (.getfield 18, 3) := by decide +kernel
theorem dX3_keepAct_40 : decode cX3_keepAct 40 = .ok (.aload_n 0, 1) := by decide +kernel
theorem dX3_keepAct_41 : decode cX3_keepAct 41 = .ok (.getfield 52, 3) := by decide +kernel
theorem dX3_keepAct_44 : decode cX3_keepAct 44 = .ok (.aload_n 0, 1) := by decide +kernel
theorem dX3_keepAct_45 : decode cX3_keepAct 45 = .ok (.getfield 35, 3) := by decide +kernel
theorem dX3_keepAct_48 : decode cX3_keepAct 48 = .ok (.iadd, 1) := by decide +kernel
theorem dX3_keepAct_49 : decode cX3_keepAct 49 = .ok (.bipush 40, 2) := by decide +kernel
theorem dX3_keepAct_51 : decode cX3_keepAct 51 = .ok (.irem, 1) := by decide +kernel
theorem dX3_keepAct_52 : decode cX3_keepAct 52 = .ok (.bipush 27, 2) := by decide +kernel
theorem dX3_keepAct_54 : decode cX3_keepAct 54 = .ok (.imul, 1) := by decide +kernel
theorem dX3_keepAct_55 : decode cX3_keepAct 55 = .ok (.invokevirtual 55, 3) := by decide +kernel
theorem dX3_keepAct_58 : decode cX3_keepAct 58 = .ok (.aload_n 0, 1) := by decide +kernel
theorem dX3_keepAct_59 : decode cX3_keepAct 59 = .ok (.dup, 1) := by decide +kernel
theorem dX3_keepAct_60 : decode cX3_keepAct 60 = .ok (.getfield 35, 3) := by decide +kernel
theorem dX3_keepAct_63 : decode cX3_keepAct 63 = .ok (.iconst 1, 1) := by decide +kernel
theorem dX3_keepAct_64 : decode cX3_keepAct 64 = .ok (.iadd, 1) := by decide +kernel
theorem dX3_keepAct_65 : decode cX3_keepAct 65 = .ok (.putfield 35, 3) := by decide +kernel
theorem dX3_keepAct_68 : decode cX3_keepAct 68 = .ok (.return_, 1) := by decide +kernel
theorem dX3_takeBackAct_0 : decode cX3_takeBackAct 0 = .ok (.aload_n 0, 1) := by decide +kernel
theorem dX3_takeBackAct_1 : decode cX3_takeBackAct 1 = .ok (.getfield 35, 3) := by decide +kernel
theorem dX3_takeBackAct_4 : decode cX3_takeBackAct 4 = .ok (.ifCond .le 39, 3) := by decide +kernel
theorem dX3_takeBackAct_7 : decode cX3_takeBackAct 7 = .ok (.aload_n 0, 1) := by decide +kernel
theorem dX3_takeBackAct_8 : decode cX3_takeBackAct 8 = .ok (.dup, 1) := by decide +kernel
theorem dX3_takeBackAct_9 : decode cX3_takeBackAct 9 = .ok (.getfield 35, 3) := by decide +kernel
theorem dX3_takeBackAct_12 : decode cX3_takeBackAct 12 = .ok (.iconst 1, 1) := by decide +kernel
theorem dX3_takeBackAct_13 : decode cX3_takeBackAct 13 = .ok (.isub, 1) := by decide +kernel
theorem dX3_takeBackAct_14 : decode cX3_takeBackAct 14 = .ok (.putfield 35, 3) := by decide +kernel
theorem dX3_takeBackAct_17 : decode cX3_takeBackAct 17 = .ok (.aload_n 0, 1) := by decide +kernel
theorem dX3_takeBackAct_18 : decode cX3_takeBackAct 18 = .ok (.getfield 12, 3) := by decide +kernel
theorem dX3_takeBackAct_21 : decode cX3_takeBackAct 21 = .ok (.aload_n 0, 1) := by decide +kernel
theorem dX3_takeBackAct_22 : decode cX3_takeBackAct 22 = .ok (.getfield 18, 3) := by decide +kernel
theorem dX3_takeBackAct_25 : decode cX3_takeBackAct 25 = .ok (.aload_n 0, 1) := by decide +kernel
theorem dX3_takeBackAct_26 : decode cX3_takeBackAct 26 = .ok (.getfield 52, 3) := by decide +kernel
theorem dX3_takeBackAct_29 : decode cX3_takeBackAct 29 = .ok (.aload_n 0, 1) := by decide +kernel
theorem dX3_takeBackAct_30 : decode cX3_takeBackAct 30 = .ok (.getfield 35, 3) := by decide +kernel
theorem dX3_takeBackAct_33 : decode cX3_takeBackAct 33 = .ok (.iadd, 1) := by decide +kernel
theorem dX3_takeBackAct_34 : decode cX3_takeBackAct 34 = .ok (.bipush 40, 2) := by decide +kernel
theorem dX3_takeBackAct_36 : decode cX3_takeBackAct 36 = .ok (.irem, 1) := by decide +kernel
theorem dX3_takeBackAct_37 : decode cX3_takeBackAct 37 = .ok (.bipush 27, 2) := by decide +kernel
theorem dX3_takeBackAct_39 : decode cX3_takeBackAct 39 = .ok (.imul, 1) := by decide +kernel
theorem dX3_takeBackAct_40 : decode cX3_takeBackAct 40 = .ok (.invokevirtual 59, 3) := by decide +kernel
theorem dX3_takeBackAct_43 : decode cX3_takeBackAct 43 = .ok (.return_, 1) := by decide +kernel
theorem dX3_lastReadCase_0 : decode cX3_lastReadCase 0 = .ok (.iconst 0, 1) := by decide +kernel
theorem dX3_lastReadCase_1 : decode cX3_lastReadCase 1 = .ok (.istore_n 1, 1) := by decide +kernel
theorem dX3_lastReadCase_2 : decode cX3_lastReadCase 2 = .ok (.iconst 0, 1) := by decide +kernel
theorem dX3_lastReadCase_3 : decode cX3_lastReadCase 3 = .ok (.istore_n 2, 1) := by decide +kernel
theorem dX3_lastReadCase_4 : decode cX3_lastReadCase 4 = .ok (.iload_n 2, 1) := by decide +kernel
theorem dX3_lastReadCase_5 : decode cX3_lastReadCase 5 = .ok (.aload_n 0, 1) := by decide +kernel
theorem dX3_lastReadCase_6 : decode cX3_lastReadCase 6 = .ok (.getfield 39, 3) := by decide +kernel
theorem dX3_lastReadCase_9 : decode cX3_lastReadCase 9 = .ok (.if_icmp .ge 20, 3) := by decide +kernel
theorem dX3_lastReadCase_12 : decode cX3_lastReadCase 12 = .ok (.iload_n 1, 1) := by decide +kernel
theorem dX3_lastReadCase_13 : decode cX3_lastReadCase 13 = .ok (.aload_n 0, 1) := by decide +kernel
theorem dX3_lastReadCase_14 : decode cX3_lastReadCase 14 = .ok (.getfield 22, 3) := by decide +kernel
theorem dX3_lastReadCase_17 : decode cX3_lastReadCase 17 = .ok (.iload_n 2, 1) := by decide +kernel
theorem dX3_lastReadCase_18 : decode cX3_lastReadCase 18 = .ok (.iaload, 1) := by decide +kernel
theorem dX3_lastReadCase_19 : decode cX3_lastReadCase 19 = .ok (.invokestatic 62, 3) := by decide +kernel
theorem dX3_lastReadCase_22 : decode cX3_lastReadCase 22 = .ok (.istore_n 1, 1) := by decide +kernel
theorem dX3_lastReadCase_23 : decode cX3_lastReadCase 23 = .ok (.iinc 2 1, 3) := by decide +kernel
theorem dX3_lastReadCase_26 : decode cX3_lastReadCase 26 = .ok (.goto (-22), 3) := by decide +kernel
theorem dX3_lastReadCase_29 : decode cX3_lastReadCase 29 = .ok (.iload_n 1, 1) := by decide +kernel
theorem dX3_lastReadCase_30 : decode cX3_lastReadCase 30 = .ok (.ireturn, 1) := by decide +kernel
theorem dX3_couldBe_0 : decode cX3_couldBe 0 = .ok (.iconst 0, 1) := by decide +kernel
theorem dX3_couldBe_1 : decode cX3_couldBe 1 = .ok (.istore_n 3, 1) := by decide +kernel
theorem dX3_couldBe_2 : decode cX3_couldBe 2 = .ok (.iload_n 3, 1) := by decide +kernel
theorem dX3_couldBe_3 : decode cX3_couldBe 3 = .ok (.aload_n 0, 1) := by decide +kernel
theorem dX3_couldBe_4 : decode cX3_couldBe 4 = .ok (.getfield 39, 3) := by decide +kernel
theorem dX3_couldBe_7 : decode cX3_couldBe 7 = .ok (.if_icmp .ge 31, 3) := by decide +kernel
theorem dX3_couldBe_10 : decode cX3_couldBe 10 = .ok (.aload_n 0, 1) := by decide +kernel
theorem dX3_couldBe_11 : decode cX3_couldBe 11 = .ok (.getfield 22, 3) := by decide +kernel
theorem dX3_couldBe_14 : decode cX3_couldBe 14 = .ok (.iload_n 3, 1) := by decide +kernel
theorem dX3_couldBe_15 : decode cX3_couldBe 15 = .ok (.iaload, 1) := by decide +kernel
theorem dX3_couldBe_16 : decode cX3_couldBe 16 = .ok (.iload_n 1, 1) := by decide +kernel
theorem dX3_couldBe_17 : decode cX3_couldBe 17 = .ok (.if_icmp .ne 15, 3) := by decide +kernel
theorem dX3_couldBe_20 : decode cX3_couldBe 20 = .ok (.aload_n 0, 1) := by decide +kernel
theorem dX3_couldBe_21 : decode cX3_couldBe 21 = .ok (.getfield 25, 3) := by decide +kernel
theorem dX3_couldBe_24 : decode cX3_couldBe 24 = .ok (.iload_n 3, 1) := by decide +kernel
theorem dX3_couldBe_25 : decode cX3_couldBe 25 = .ok (.iaload, 1) := by decide +kernel
theorem dX3_couldBe_26 : decode cX3_couldBe 26 = .ok (.iload_n 2, 1) := by decide +kernel
theorem dX3_couldBe_27 : decode cX3_couldBe 27 = .ok (.if_icmp .eq 5, 3) := by decide +kernel
theorem dX3_couldBe_30 : decode cX3_couldBe 30 = .ok (.iconst 0, 1) := by decide +kernel
theorem dX3_couldBe_31 : decode cX3_couldBe 31 = .ok (.ireturn, 1) := by decide +kernel
theorem dX3_couldBe_32 : decode cX3_couldBe 32 = .ok (.iinc 3 1, 3) := by decide +kernel
theorem dX3_couldBe_35 : decode cX3_couldBe 35 = .ok (.goto (-33), 3) := by decide +kernel
theorem dX3_couldBe_38 : decode cX3_couldBe 38 = .ok (.iconst 1, 1) := by decide +kernel
theorem dX3_couldBe_39 : decode cX3_couldBe 39 = .ok (.ireturn, 1) := by decide +kernel
theorem dX4_init_0 : decode cX4_init 0 = .ok (.aload_n 0, 1) := by decide +kernel
theorem dX4_init_1 : decode cX4_init 1 = .ok (.invokespecial 3, 3) := by decide +kernel
theorem dX4_init_4 : decode cX4_init 4 = .ok (.aload_n 0, 1) := by decide +kernel
theorem dX4_init_5 : decode cX4_init 5 = .ok (.bipush 64, 2) := by decide +kernel
theorem dX4_init_7 : decode cX4_init 7 = .ok (.newarray .int, 2) := by decide +kernel
theorem dX4_init_9 : decode cX4_init 9 = .ok (.putfield 9, 3) := by decide +kernel
theorem dX4_init_12 : decode cX4_init 12 = .ok (.aload_n 0, 1) := by decide +kernel
theorem dX4_init_13 : decode cX4_init 13 = .ok (.bipush 12, 2) := by decide +kernel
theorem dX4_init_15 : decode cX4_init 15 = .ok (.newarray .int, 2) := by decide +kernel
theorem dX4_init_17 : decode cX4_init 17 = .ok (.putfield 15, 3) := by decide +kernel
theorem dX4_init_20 : decode cX4_init 20 = .ok (.return_, 1) := by decide +kernel
theorem dX4_survey_0 : decode cX4_survey 0 = .ok (.iconst 0, 1) := by decide +kernel
theorem dX4_survey_1 : decode cX4_survey 1 = .ok (.istore_n 3, 1) := by decide +kernel
theorem dX4_survey_2 : decode cX4_survey 2 = .ok (.iload_n 3, 1) := by decide +kernel
theorem dX4_survey_3 : decode cX4_survey 3 = .ok (.bipush 12, 2) := by decide +kernel
theorem dX4_survey_5 : decode cX4_survey 5 = .ok (.if_icmp .ge 16, 3) := by decide +kernel
theorem dX4_survey_8 : decode cX4_survey 8 = .ok (.aload_n 0, 1) := by decide +kernel
theorem dX4_survey_9 : decode cX4_survey 9 = .ok (.getfield 15, 3) := by decide +kernel
theorem dX4_survey_12 : decode cX4_survey 12 = .ok (.iload_n 3, 1) := by decide +kernel
theorem dX4_survey_13 : decode cX4_survey 13 = .ok (.iconst 0, 1) := by decide +kernel
theorem dX4_survey_14 : decode cX4_survey 14 = .ok (.iastore, 1) := by decide +kernel
theorem dX4_survey_15 : decode cX4_survey 15 = .ok (.iinc 3 1, 3) := by decide +kernel
theorem dX4_survey_18 : decode cX4_survey 18 = .ok (.goto (-16), 3) := by decide +kernel
theorem dX4_survey_21 : decode cX4_survey 21 = .ok (.aload_n 0, 1) := by decide +kernel
theorem dX4_survey_22 : decode cX4_survey 22 = .ok (.iconst 0, 1) := by decide +kernel
theorem dX4_survey_23 : decode cX4_survey 23 = .ok (.putfield 18, 3) := by decide +kernel
theorem dX4_survey_26 : decode cX4_survey 26 = .ok (.iconst 0, 1) := by decide +kernel
theorem dX4_survey_27 : decode cX4_survey 27 = .ok (.istore_n 3, 1) := by decide +kernel
theorem dX4_survey_28 : decode cX4_survey 28 = .ok (.iload_n 3, 1) := by decide +kernel
theorem dX4_survey_29 : decode cX4_survey 29 = .ok (.aload_n 1, 1) := by decide +kernel
theorem dX4_survey_30 : decode cX4_survey 30 = .ok (.getfield 22, 3) := by decide +kernel
theorem dX4_survey_33 : decode cX4_survey 33 = .ok (.if_icmp .ge 53, 3) := by decide +kernel
theorem dX4_survey_36 : decode cX4_survey 36 = .ok (.aload_n 2, 1) := by decide +kernel
theorem dX4_survey_37 : decode cX4_survey 37 = .ok (.getfield 27, 3) := by decide +kernel
theorem dX4_survey_40 : decode cX4_survey 40 = .ok (.iload_n 3, 1) := by decide +kernel
theorem dX4_survey_41 : decode cX4_survey 41 = .ok (.iaload, 1) := by decide +kernel
theorem dX4_survey_42 : decode cX4_survey 42 = .ok (.istore 4, 2) := by decide +kernel
theorem dX4_survey_44 : decode cX4_survey 44 = .ok (.iload 4, 2) := by decide +kernel
theorem dX4_survey_46 : decode cX4_survey 46 = .ok (.ifCond .lt 34, 3) := by decide +kernel
theorem dX4_survey_49 : decode cX4_survey 49 = .ok (.iload 4, 2) := by decide +kernel
theorem dX4_survey_51 : decode cX4_survey 51 = .ok (.bipush 12, 2) := by decide +kernel
theorem dX4_survey_53 : decode cX4_survey 53 = .ok (.if_icmp .ge 27, 3) := by decide +kernel
theorem dX4_survey_56 : decode cX4_survey 56 = .ok (.aload_n 0, 1) := by decide +kernel
theorem dX4_survey_57 : decode cX4_survey 57 = .ok (.getfield 15, 3) := by decide +kernel
theorem dX4_survey_60 : decode cX4_survey 60 = .ok (.iload 4, 2) := by decide +kernel
theorem dX4_survey_62 : decode cX4_survey 62 = .ok (.dup2, 1) := by decide +kernel
theorem dX4_survey_63 : decode cX4_survey 63 = .ok (.iaload, 1) := by decide +kernel
theorem dX4_survey_64 : decode cX4_survey 64 = .ok (.iconst 1, 1) := by decide +kernel
theorem dX4_survey_65 : decode cX4_survey 65 = .ok (.iadd, 1) := by decide +kernel
theorem dX4_survey_66 : decode cX4_survey 66 = .ok (.iastore, 1) := by decide +kernel
theorem dX4_survey_67 : decode cX4_survey 67 = .ok (.aload_n 0, 1) := by decide +kernel
theorem dX4_survey_68 : decode cX4_survey 68 = .ok (.dup, 1) := by decide +kernel
theorem dX4_survey_69 : decode cX4_survey 69 = .ok (.getfield 18, 3) := by decide +kernel
theorem dX4_survey_72 : decode cX4_survey 72 = .ok (.iload 4, 2) := by decide +kernel
theorem dX4_survey_74 : decode cX4_survey 74 = .ok (.iconst 1, 1) := by decide +kernel
theorem dX4_survey_75 : decode cX4_survey 75 = .ok (.iand, 1) := by decide +kernel
theorem dX4_survey_76 : decode cX4_survey 76 = .ok (.iadd, 1) := by decide +kernel
theorem dX4_survey_77 : decode cX4_survey 77 = .ok (.putfield 18, 3) := by decide +kernel
theorem dX4_survey_80 : decode cX4_survey 80 = .ok (.iinc 3 1, 3) := by decide +kernel
theorem dX4_survey_83 : decode cX4_survey 83 = .ok (.goto (-55), 3) := by decide +kernel
theorem dX4_survey_86 : decode cX4_survey 86 = .ok (.aload_n 0, 1) := by decide +kernel
theorem dX4_survey_87 : decode cX4_survey 87 = .ok (.iconst 0, 1) := by decide +kernel
theorem dX4_survey_88 : decode cX4_survey 88 = .ok (.putfield 32, 3) := by decide +kernel
theorem dX4_survey_91 : decode cX4_survey 91 = .ok (.aload_n 0, 1) := by decide +kernel
theorem dX4_survey_92 : decode cX4_survey 92 = .ok (.iconst 0, 1) := by decide +kernel
theorem dX4_survey_93 : decode cX4_survey 93 = .ok (.putfield 35, 3) := by decide +kernel
theorem dX4_survey_96 : decode cX4_survey 96 = .ok (.iconst 0, 1) := by decide +kernel
theorem dX4_survey_97 : decode cX4_survey 97 = .ok (.istore_n 3, 1) := by decide +kernel
theorem dX4_survey_98 : decode cX4_survey 98 = .ok (.iload_n 3, 1) := by decide +kernel
theorem dX4_survey_99 : decode cX4_survey 99 = .ok (.bipush 12, 2) := by decide +kernel
theorem dX4_survey_101 : decode cX4_survey 101 = .ok (.if_icmp .ge 37, 3) := by decide +kernel
theorem dX4_survey_104 : decode cX4_survey 104 = .ok (.aload_n 0, 1) := by decide +kernel
theorem dX4_survey_105 : decode cX4_survey 105 = .ok (.getfield 15, 3) := by decide +kernel
theorem dX4_survey_108 : decode cX4_survey 108 = .ok (.iload_n 3, 1) := by decide +kernel
theorem dX4_survey_109 : decode cX4_survey 109 = .ok (.iaload, 1) := by decide +kernel
theorem dX4_survey_110 : decode cX4_survey 110 = .ok (.aload_n 0, 1) := by decide +kernel
theorem dX4_survey_111 : decode cX4_survey 111 = .ok (.getfield 32, 3) := by decide +kernel
theorem dX4_survey_114 : decode cX4_survey 114 = .ok (.if_icmp .le 18, 3) := by decide +kernel
theorem dX4_survey_117 : decode cX4_survey 117 = .ok (.aload_n 0, 1) := by decide +kernel
theorem dX4_survey_118 : decode cX4_survey 118 = .ok (.aload_n 0, 1) := by decide +kernel
theorem dX4_survey_119 : decode cX4_survey 119 = .ok (.getfield 15, 3) := by decide +kernel
theorem dX4_survey_122 : decode cX4_survey 122 = .ok (.iload_n 3, 1) := by decide +kernel
theorem dX4_survey_123 : decode cX4_survey 123 = .ok (.iaload, 1) := by decide +kernel
theorem dX4_survey_124 : decode cX4_survey 124 = .ok (.putfield 32, 3) := by decide +kernel
theorem dX4_survey_127 : decode cX4_survey 127 = .ok (.aload_n 0, 1) := by decide +kernel
theorem dX4_survey_128 : decode cX4_survey 128 = .ok (.iload_n 3, 1) := by decide +kernel
theorem dX4_survey_129 : decode cX4_survey 129 = .ok (.putfield 35, 3) := by decide +kernel
theorem dX4_survey_132 : decode cX4_survey 132 = .ok (.iinc 3 1, 3) := by decide +kernel
theorem dX4_survey_135 : decode cX4_survey 135 = .ok (.goto (-37), 3) := by decide +kernel
theorem dX4_survey_138 : decode cX4_survey 138 = .ok (.return_, 1) := by decide +kernel
theorem dX4_widestGap_0 : decode cX4_widestGap 0 = .ok (.iconst 0, 1) := by decide +kernel
theorem dX4_widestGap_1 : decode cX4_widestGap 1 = .ok (.istore_n 1, 1) := by decide +kernel
theorem dX4_widestGap_2 : decode cX4_widestGap 2 = .ok (.iconst 0, 1) := by decide +kernel
theorem dX4_widestGap_3 : decode cX4_widestGap 3 = .ok (.istore_n 2, 1) := by decide +kernel
theorem dX4_widestGap_4 : decode cX4_widestGap 4 = .ok (.iconst 0, 1) := by decide +kernel
theorem dX4_widestGap_5 : decode cX4_widestGap 5 = .ok (.istore_n 3, 1) := by decide +kernel
theorem dX4_widestGap_6 : decode cX4_widestGap 6 = .ok (.iload_n 3, 1) := by decide +kernel
theorem dX4_widestGap_7 : decode cX4_widestGap 7 = .ok (.bipush 24, 2) := by decide +kernel
theorem dX4_widestGap_9 : decode cX4_widestGap 9 = .ok (.if_icmp .ge 35, 3) := by decide +kernel
theorem dX4_widestGap_12 : decode cX4_widestGap 12 = .ok (.aload_n 0, 1) := by decide +kernel
theorem dX4_widestGap_13 : decode cX4_widestGap 13 = .ok (.getfield 15, 3) := by decide +kernel
theorem dX4_widestGap_16 : decode cX4_widestGap 16 = .ok (.iload_n 3, 1) := by decide +kernel
theorem dX4_widestGap_17 : decode cX4_widestGap 17 = .ok (.bipush 12, 2) := by decide +kernel
theorem dX4_widestGap_19 : decode cX4_widestGap 19 = .ok (.irem, 1) := by decide +kernel
theorem dX4_widestGap_20 : decode cX4_widestGap 20 = .ok (.iaload, 1) := by decide +kernel
theorem dX4_widestGap_21 : decode cX4_widestGap 21 = .ok (.ifCond .ne 9, 3) := by decide +kernel
theorem dX4_widestGap_24 : decode cX4_widestGap 24 = .ok (.iload_n 2, 1) := by decide +kernel
theorem dX4_widestGap_25 : decode cX4_widestGap 25 = .ok (.iconst 1, 1) := by decide +kernel
theorem dX4_widestGap_26 : decode cX4_widestGap 26 = .ok (.iadd, 1) := by decide +kernel
theorem dX4_widestGap_27 : decode cX4_widestGap 27 = .ok (.goto 4, 3) := by decide +kernel
theorem dX4_widestGap_30 : decode cX4_widestGap 30 = .ok (.iconst 0, 1) := by decide +kernel
theorem dX4_widestGap_31 : decode cX4_widestGap 31 = .ok (.istore_n 2, 1) := by decide +kernel
theorem dX4_widestGap_32 : decode cX4_widestGap 32 = .ok (.iload_n 1, 1) := by decide +kernel
theorem dX4_widestGap_33 : decode cX4_widestGap 33 = .ok (.iload_n 2, 1) := by decide +kernel
theorem dX4_widestGap_34 : decode cX4_widestGap 34 = .ok (.invokestatic 38, 3) := by decide +kernel
theorem dX4_widestGap_37 : decode cX4_widestGap 37 = .ok (.istore_n 1, 1) := by decide +kernel
theorem dX4_widestGap_38 : decode cX4_widestGap 38 = .ok (.iinc 3 1, 3) := by decide +kernel
theorem dX4_widestGap_41 : decode cX4_widestGap 41 = .ok (.goto (-35), 3) := by decide +kernel
theorem dX4_widestGap_44 : decode cX4_widestGap 44 = .ok (.iload_n 1, 1) := by decide +kernel
theorem dX4_widestGap_45 : decode cX4_widestGap 45 = .ok (.bipush 12, 2) := by decide +kernel
theorem dX4_widestGap_47 : decode cX4_widestGap 47 = .ok (.invokestatic 44, 3) := by decide +kernel
theorem dX4_widestGap_50 : decode cX4_widestGap 50 = .ok (.ireturn, 1) := by decide +kernel
theorem dX4_reading_0 : decode cX4_reading 0 = .ok (.aload_n 1, 1) := by decide +kernel
theorem dX4_reading_1 : decode cX4_reading 1 = .ok (.getfield 47, 3) := by decide +kernel
theorem dX4_reading_4 : decode cX4_reading 4 = .ok (.iconst 1, 1) := by decide +kernel
theorem dX4_reading_5 : decode cX4_reading 5 = .ok (.baload, 1) := by decide +kernel
theorem dX4_reading_6 : decode cX4_reading 6 = .ok (.ifCond .eq 13, 3) := by decide +kernel
theorem dX4_reading_9 : decode cX4_reading 9 = .ok (.aload_n 0, 1) := by decide +kernel
theorem dX4_reading_10 : decode cX4_reading 10 = .ok (.aload_n 1, 1) := by decide +kernel
theorem dX4_reading_11 : decode cX4_reading 11 = .ok (.iconst 1, 1) := by decide +kernel
theorem dX4_reading_12 : decode cX4_reading 12 = .ok (.aload_n 2, 1) := by decide +kernel
theorem dX4_reading_13 : decode cX4_reading 13 = .ok (.iconst 0, 1) := by decide +kernel
theorem dX4_reading_14 : decode cX4_reading 14 = .ok (.iconst 0, 1) := by decide +kernel
theorem dX4_reading_15 : decode cX4_reading 15 = .ok (.invokevirtual 51, 3) := by decide +kernel
theorem dX4_reading_18 : decode cX4_reading 18 = .ok (.ireturn, 1) := by decide +kernel
theorem dX4_reading_19 : decode cX4_reading 19 = .ok (.aload_n 0, 1) := by decide +kernel
theorem dX4_reading_20 : decode cX4_reading 20 = .ok (.aload_n 1, 1) := by decide +kernel
theorem dX4_reading_21 : decode cX4_reading 21 = .ok (.aload_n 2, 1) := by decide +kernel
theorem dX4_reading_22 : decode cX4_reading 22 = .ok (.invokevirtual 55, 3) := by decide +kernel
theorem dX4_reading_25 : decode cX4_reading 25 = .ok (.aload_n 0, 1) := by decide +kernel
theorem dX4_reading_26 : decode cX4_reading 26 = .ok (.getfield 35, 3) := by decide +kernel
theorem dX4_reading_29 : decode cX4_reading 29 = .ok (.aload_n 0, 1) := by decide +kernel
theorem dX4_reading_30 : decode cX4_reading 30 = .ok (.getfield 32, 3) := by decide +kernel
theorem dX4_reading_33 : decode cX4_reading 33 = .ok (.iadd, 1) := by decide +kernel
theorem dX4_reading_34 : decode cX4_reading 34 = .ok (.ireturn, 1) := by decide +kernel
theorem dX4_valueOf_0 : decode cX4_valueOf 0 = .ok (.aload_n 1, 1) := by decide +kernel
theorem dX4_valueOf_1 : decode cX4_valueOf 1 = .ok (.getfield 59, 3) := by decide +kernel
theorem dX4_valueOf_4 : decode cX4_valueOf 4 = .ok (.iload_n 2, 1) := by decide +kernel
theorem dX4_valueOf_5 : decode cX4_valueOf 5 = .ok (.baload, 1) := by decide +kernel
theorem dX4_valueOf_6 : decode cX4_valueOf 6 = .ok (.ifCond .eq 9, 3) := by decide +kernel
theorem dX4_valueOf_9 : decode cX4_valueOf 9 = .ok (.aload_n 0, 1) := by decide +kernel
theorem dX4_valueOf_10 : decode cX4_valueOf 10 = .ok (.aload_n 1, 1) := by decide +kernel
theorem dX4_valueOf_11 : decode cX4_valueOf 11 = .ok (.aload_n 3, 1) := by decide +kernel
theorem dX4_valueOf_12 : decode cX4_valueOf 12 = .ok (.invokevirtual 55, 3) := by decide +kernel
theorem dX4_valueOf_15 : decode cX4_valueOf 15 = .ok (.iconst 0, 1) := by decide +kernel
theorem dX4_valueOf_16 : decode cX4_valueOf 16 = .ok (.istore 6, 2) := by decide +kernel
theorem dX4_valueOf_18 : decode cX4_valueOf 18 = .ok (.aload_n 1, 1) := by decide +kernel
theorem dX4_valueOf_19 : decode cX4_valueOf 19 = .ok (.getfield 62, 3) := by decide +kernel
theorem dX4_valueOf_22 : decode cX4_valueOf 22 = .ok (.iload_n 2, 1) := by decide +kernel
theorem dX4_valueOf_23 : decode cX4_valueOf 23 = .ok (.iaload, 1) := by decide +kernel
theorem dX4_valueOf_24 : decode cX4_valueOf 24 = .ok (.aload_n 1, 1) := by decide +kernel
theorem dX4_valueOf_25 : decode cX4_valueOf 25 = .ok (.getfield 65, 3) := by decide +kernel
theorem dX4_valueOf_28 : decode cX4_valueOf 28 = .ok (.arraylength, 1) := by decide +kernel
theorem dX4_valueOf_29 : decode cX4_valueOf 29 = .ok (.invokestatic 44, 3) := by decide +kernel
theorem dX4_valueOf_32 : decode cX4_valueOf 32 = .ok (.istore 7, 2) := by decide +kernel
theorem dX4_valueOf_34 : decode cX4_valueOf 34 = .ok (.iconst 0, 1) := by decide +kernel
theorem dX4_valueOf_35 : decode cX4_valueOf 35 = .ok (.aload_n 1, 1) := by decide +kernel
theorem dX4_valueOf_36 : decode cX4_valueOf 36 = .ok (.getfield 68, 3) := by decide +kernel
theorem dX4_valueOf_39 : decode cX4_valueOf 39 = .ok (.iload_n 2, 1) := by decide +kernel
theorem dX4_valueOf_40 : decode cX4_valueOf 40 = .ok (.iaload, 1) := by decide +kernel
theorem dX4_valueOf_41 : decode cX4_valueOf 41 = .ok (.invokestatic 38, 3) := by decide +kernel
theorem dX4_valueOf_44 : decode cX4_valueOf 44 = .ok (.istore 8, 2) := by decide +kernel
theorem dX4_valueOf_46 : decode cX4_valueOf 46 = .ok (.iload 8, 2) := by decide +kernel
theorem dX4_valueOf_48 : decode cX4_valueOf 48 = .ok (.iload 7, 2) := by decide +kernel
theorem dX4_valueOf_50 : decode cX4_valueOf 50 = .ok (.if_icmp .ge 155, 3) := by decide +kernel
theorem dX4_valueOf_53 : decode cX4_valueOf 53 = .ok (.aload_n 1, 1) := by decide +kernel
theorem dX4_valueOf_54 : decode cX4_valueOf 54 = .ok (.getfield 65, 3) := by decide +kernel
theorem dX4_valueOf_57 : decode cX4_valueOf 57 = .ok (.iload 8, 2) := by decide +kernel
theorem dX4_valueOf_59 : decode cX4_valueOf 59 = .ok (.iaload, 1) := by decide +kernel
theorem dX4_valueOf_60 : decode cX4_valueOf 60 = .ok (.istore 9, 2) := by decide +kernel
theorem dX4_valueOf_62 : decode cX4_valueOf 62 = .ok (.iload 9, 2) := by decide +kernel
theorem dX4_valueOf_64 : decode cX4_valueOf 64 = .ok (.ifCond .ge 10, 3) := by decide +kernel
theorem dX4_valueOf_67 : decode cX4_valueOf 67 = .ok (.iload 9, 2) := by decide +kernel
theorem dX4_valueOf_69 : decode cX4_valueOf 69 = .ok (.bipush (-9), 2) := by decide +kernel
theorem dX4_valueOf_71 : decode cX4_valueOf 71 = .ok (.if_icmp .ge 47, 3) := by decide +kernel
theorem dX4_valueOf_74 : decode cX4_valueOf 74 = .ok (.iload 6, 2) := by decide +kernel
theorem dX4_valueOf_76 : decode cX4_valueOf 76 = .ok (.aload_n 0, 1) := by decide +kernel
theorem dX4_valueOf_77 : decode cX4_valueOf 77 = .ok (.getfield 9, 3) := by decide +kernel
theorem dX4_valueOf_80 : decode cX4_valueOf 80 = .ok (.arraylength, 1) := by decide +kernel
theorem dX4_valueOf_81 : decode cX4_valueOf 81 = .ok (.if_icmp .ge 118, 3) := by decide +kernel
theorem dX4_valueOf_84 : decode cX4_valueOf 84 = .ok (.aload_n 0, 1) := by decide +kernel
theorem dX4_valueOf_85 : decode cX4_valueOf 85 = .ok (.getfield 9, 3) := by decide +kernel
theorem dX4_valueOf_88 : decode cX4_valueOf 88 = .ok (.iload 6, 2) := by decide +kernel
theorem dX4_valueOf_90 : decode cX4_valueOf 90 = .ok (.iload 9, 2) := by decide +kernel
theorem dX4_valueOf_92 : decode cX4_valueOf 92 = .ok (.ifCond .lt 8, 3) := by decide +kernel
theorem dX4_valueOf_95 : decode cX4_valueOf 95 = .ok (.iload 9, 2) := by decide +kernel
theorem dX4_valueOf_97 : decode cX4_valueOf 97 = .ok (.goto 14, 3) := by decide +kernel
theorem dX4_valueOf_100 : decode cX4_valueOf 100 = .ok (.aload_n 0, 1) := by decide +kernel
theorem dX4_valueOf_101 : decode cX4_valueOf 101 = .ok (.iload 9, 2) := by decide +kernel
theorem dX4_valueOf_103 : decode cX4_valueOf 103 = .ok (.aload_n 3, 1) := by decide +kernel
theorem dX4_valueOf_104 : decode cX4_valueOf 104 = .ok (.iload 4, 2) := by decide +kernel
theorem dX4_valueOf_106 : decode cX4_valueOf 106 = .ok (.iload 5, 2) := by decide +kernel
theorem dX4_valueOf_108 : decode cX4_valueOf 108 = .ok (.invokevirtual 71, 3) := by decide +kernel
theorem dX4_valueOf_111 : decode cX4_valueOf 111 = .ok (.iastore, 1) := by decide +kernel
theorem dX4_valueOf_112 : decode cX4_valueOf 112 = .ok (.iinc 6 1, 3) := by decide +kernel
theorem dX4_valueOf_115 : decode cX4_valueOf 115 = .ok (.goto 84, 3) := by decide +kernel
theorem dX4_valueOf_118 : decode cX4_valueOf 118 = .ok (.iload 9, 2) := by decide +kernel
theorem dX4_valueOf_120 : decode cX4_valueOf 120 = .ok (.bipush (-3), 2) := by decide +kernel
theorem dX4_valueOf_122 : decode cX4_valueOf 122 = .ok (.if_icmp .ne 38, 3) := by decide +kernel
theorem dX4_valueOf_125 : decode cX4_valueOf 125 = .ok (.iload 6, 2) := by decide +kernel
theorem dX4_valueOf_127 : decode cX4_valueOf 127 = .ok (.iconst 1, 1) := by decide +kernel
theorem dX4_valueOf_128 : decode cX4_valueOf 128 = .ok (.if_icmp .lt 71, 3) := by decide +kernel
theorem dX4_valueOf_131 : decode cX4_valueOf 131 = .ok (.aload_n 0, 1) := by decide +kernel
theorem dX4_valueOf_132 : decode cX4_valueOf 132 = .ok (.getfield 9, 3) := by decide +kernel
theorem dX4_valueOf_135 : decode cX4_valueOf 135 = .ok (.iload 6, 2) := by decide +kernel
theorem dX4_valueOf_137 : decode cX4_valueOf 137 = .ok (.iconst 1, 1) := by decide +kernel
theorem dX4_valueOf_138 : decode cX4_valueOf 138 = .ok (.isub, 1) := by decide +kernel
theorem dX4_valueOf_139 : decode cX4_valueOf 139 = .ok (.aload_n 0, 1) := by decide +kernel
theorem dX4_valueOf_140 : decode cX4_valueOf 140 = .ok (.getfield 9, 3) := by decide +kernel
theorem dX4_valueOf_143 : decode cX4_valueOf 143 = .ok (.iload 6, 2) := by decide +kernel
theorem dX4_valueOf_145 : decode cX4_valueOf 145 = .ok (.iconst 1, 1) := by decide +kernel
theorem dX4_valueOf_146 : decode cX4_valueOf 146 = .ok (.isub, 1) := by decide +kernel
theorem dX4_valueOf_147 : decode cX4_valueOf 147 = .ok (.iaload, 1) := by decide +kernel
theorem dX4_valueOf_148 : decode cX4_valueOf 148 = .ok (.ifCond .ne 7, 3) := by decide +kernel
theorem dX4_valueOf_151 : decode cX4_valueOf 151 = .ok (.iconst 1, 1) := by decide +kernel
theorem dX4_valueOf_152 : decode cX4_valueOf 152 = .ok (.goto 4, 3) := by decide +kernel
theorem dX4_valueOf_155 : decode cX4_valueOf 155 = .ok (.iconst 0, 1) := by decide +kernel
theorem dX4_valueOf_156 : decode cX4_valueOf 156 = .ok (.iastore, 1) := by decide +kernel
theorem dX4_valueOf_157 : decode cX4_valueOf 157 = .ok (.goto 42, 3) := by decide +kernel
theorem dX4_valueOf_160 : decode cX4_valueOf 160 = .ok (.iload 6, 2) := by decide +kernel
theorem dX4_valueOf_162 : decode cX4_valueOf 162 = .ok (.iconst 2, 1) := by decide +kernel
theorem dX4_valueOf_163 : decode cX4_valueOf 163 = .ok (.if_icmp .lt 36, 3) := by decide +kernel
theorem dX4_valueOf_166 : decode cX4_valueOf 166 = .ok (.iinc 6 (-1), 3) := by decide +kernel
theorem dX4_valueOf_169 : decode cX4_valueOf 169 = .ok (.aload_n 0, 1) := by decide +kernel
theorem dX4_valueOf_170 : decode cX4_valueOf 170 = .ok (.getfield 9, 3) := by decide +kernel
theorem dX4_valueOf_173 : decode cX4_valueOf 173 = .ok (.iload 6, 2) := by decide +kernel
theorem dX4_valueOf_175 : decode cX4_valueOf 175 = .ok (.iconst 1, 1) := by decide +kernel
theorem dX4_valueOf_176 : decode cX4_valueOf 176 = .ok (.isub, 1) := by decide +kernel
theorem dX4_valueOf_177 : decode cX4_valueOf 177 = .ok (.iload 9, 2) := by decide +kernel
theorem dX4_valueOf_179 : decode cX4_valueOf 179 = .ok (.aload_n 0, 1) := by decide +kernel
theorem dX4_valueOf_180 : decode cX4_valueOf 180 = .ok (.getfield 9, 3) := by decide +kernel
theorem dX4_valueOf_183 : decode cX4_valueOf 183 = .ok (.iload 6, 2) := by decide +kernel
theorem dX4_valueOf_185 : decode cX4_valueOf 185 = .ok (.iconst 1, 1) := by decide +kernel
theorem dX4_valueOf_186 : decode cX4_valueOf 186 = .ok (.isub, 1) := by decide +kernel
theorem dX4_valueOf_187 : decode cX4_valueOf 187 = .ok (.iaload, 1) := by decide +kernel
theorem dX4_valueOf_188 : decode cX4_valueOf 188 = .ok (.aload_n 0, 1) := by decide +kernel
theorem dX4_valueOf_189 : decode cX4_valueOf 189 = .ok (.getfield 9, 3) := by decide +kernel
theorem dX4_valueOf_192 : decode cX4_valueOf 192 = .ok (.iload 6, 2) := by decide +kernel
theorem dX4_valueOf_194 : decode cX4_valueOf 194 = .ok (.iaload, 1) := by decide +kernel
theorem dX4_valueOf_195 : decode cX4_valueOf 195 = .ok (.invokestatic 75, 3) := by decide +kernel
theorem dX4_valueOf_198 : decode cX4_valueOf 198 = .ok (.iastore, 1) := by decide +kernel
theorem dX4_valueOf_199 : decode cX4_valueOf 199 = .ok (.iinc 8 1, 3) := by decide +kernel
theorem dX4_valueOf_202 : decode cX4_valueOf 202 = .ok (.goto (-156), 3) := by decide +kernel
theorem dX4_valueOf_205 : decode cX4_valueOf 205 = .ok (.iload 6, 2) := by decide +kernel
theorem dX4_valueOf_207 : decode cX4_valueOf 207 = .ok (.iconst 1, 1) := by decide +kernel
theorem dX4_valueOf_208 : decode cX4_valueOf 208 = .ok (.if_icmp .lt 15, 3) := by decide +kernel
theorem dX4_valueOf_211 : decode cX4_valueOf 211 = .ok (.aload_n 0, 1) := by decide +kernel
theorem dX4_valueOf_212 : decode cX4_valueOf 212 = .ok (.getfield 9, 3) := by decide +kernel
theorem dX4_valueOf_215 : decode cX4_valueOf 215 = .ok (.iload 6, 2) := by decide +kernel
theorem dX4_valueOf_217 : decode cX4_valueOf 217 = .ok (.iconst 1, 1) := by decide +kernel
theorem dX4_valueOf_218 : decode cX4_valueOf 218 = .ok (.isub, 1) := by decide +kernel
theorem dX4_valueOf_219 : decode cX4_valueOf 219 = .ok (.iaload, 1) := by decide +kernel
theorem dX4_valueOf_220 : decode cX4_valueOf 220 = .ok (.goto 4, 3) := by decide +kernel
theorem dX4_valueOf_223 : decode cX4_valueOf 223 = .ok (.iconst 0, 1) := by decide +kernel
theorem dX4_valueOf_224 : decode cX4_valueOf 224 = .ok (.ireturn, 1) := by decide +kernel
theorem dX4_named_0 : decode cX4_named 0 = .ok (.iload_n 1, 1) := by decide +kernel
theorem dX4_named_1 : decode cX4_named 1 = .ok (.tableswitch 66 (-15) (-10) #[64, 59, 54, 49, 44, 39], 39) := by decide +kernel
theorem dX4_named_40 : decode cX4_named 40 = .ok (.aload_n 2, 1) := by decide +kernel
theorem dX4_named_41 : decode cX4_named 41 = .ok (.getfield 79, 3) := by decide +kernel
theorem dX4_named_44 : decode cX4_named 44 = .ok (.ireturn, 1) := by decide +kernel
theorem dX4_named_45 : decode cX4_named 45 = .ok (.aload_n 0, 1) := by decide +kernel
theorem dX4_named_46 : decode cX4_named 46 = .ok (.getfield 32, 3) := by decide +kernel
theorem dX4_named_49 : decode cX4_named 49 = .ok (.ireturn, 1) := by decide +kernel
theorem dX4_named_50 : decode cX4_named 50 = .ok (.aload_n 0, 1) := by decide +kernel
theorem dX4_named_51 : decode cX4_named 51 = .ok (.getfield 35, 3) := by decide +kernel
theorem dX4_named_54 : decode cX4_named 54 = .ok (.ireturn, 1) := by decide +kernel
theorem dX4_named_55 : decode cX4_named 55 = .ok (.aload_n 0, 1) := by decide +kernel
theorem dX4_named_56 : decode cX4_named 56 = .ok (.getfield 18, 3) := by decide +kernel
theorem dX4_named_59 : decode cX4_named 59 = .ok (.ireturn, 1) := by decide +kernel
theorem dX4_named_60 : decode cX4_named 60 = .ok (.aload_n 2, 1) := by decide +kernel
theorem dX4_named_61 : decode cX4_named 61 = .ok (.getfield 82, 3) := by decide +kernel
theorem dX4_named_64 : decode cX4_named 64 = .ok (.ireturn, 1) := by decide +kernel
theorem dX4_named_65 : decode cX4_named 65 = .ok (.iload_n 3, 1) := by decide +kernel
theorem dX4_named_66 : decode cX4_named 66 = .ok (.ireturn, 1) := by decide +kernel
theorem dX4_named_67 : decode cX4_named 67 = .ok (.iload 4, 2) := by decide +kernel
theorem dX4_named_69 : decode cX4_named 69 = .ok (.ireturn, 1) := by decide +kernel
theorem dX4_joined_0 : decode cX4_joined 0 = .ok (.iload_n 0, 1) := by decide +kernel
theorem dX4_joined_1 : decode cX4_joined 1 = .ok (.tableswitch 109 (-8) (-1) #[105, 101, 97, 86, 75, 109, 61, 47], 47) := by decide +kernel
theorem dX4_joined_48 : decode cX4_joined 48 = .ok (.iload_n 1, 1) := by decide +kernel
theorem dX4_joined_49 : decode cX4_joined 49 = .ok (.ifCond .ne 7, 3) := by decide +kernel
theorem dX4_joined_52 : decode cX4_joined 52 = .ok (.iload_n 2, 1) := by decide +kernel
theorem dX4_joined_53 : decode cX4_joined 53 = .ok (.ifCond .eq 7, 3) := by decide +kernel
theorem dX4_joined_56 : decode cX4_joined 56 = .ok (.iconst 1, 1) := by decide +kernel
theorem dX4_joined_57 : decode cX4_joined 57 = .ok (.goto 4, 3) := by decide +kernel
theorem dX4_joined_60 : decode cX4_joined 60 = .ok (.iconst 0, 1) := by decide +kernel
theorem dX4_joined_61 : decode cX4_joined 61 = .ok (.ireturn, 1) := by decide +kernel
theorem dX4_joined_62 : decode cX4_joined 62 = .ok (.iload_n 1, 1) := by decide +kernel
theorem dX4_joined_63 : decode cX4_joined 63 = .ok (.ifCond .eq 11, 3) := by decide +kernel
theorem dX4_joined_66 : decode cX4_joined 66 = .ok (.iload_n 2, 1) := by decide +kernel
theorem dX4_joined_67 : decode cX4_joined 67 = .ok (.ifCond .eq 7, 3) := by decide +kernel
theorem dX4_joined_70 : decode cX4_joined 70 = .ok (.iconst 1, 1) := by decide +kernel
theorem dX4_joined_71 : decode cX4_joined 71 = .ok (.goto 4, 3) := by decide +kernel
theorem dX4_joined_74 : decode cX4_joined 74 = .ok (.iconst 0, 1) := by decide +kernel
theorem dX4_joined_75 : decode cX4_joined 75 = .ok (.ireturn, 1) := by decide +kernel
theorem dX4_joined_76 : decode cX4_joined 76 = .ok (.iload_n 1, 1) := by decide +kernel
theorem dX4_joined_77 : decode cX4_joined 77 = .ok (.iload_n 2, 1) := by decide +kernel
theorem dX4_joined_78 : decode cX4_joined 78 = .ok (.if_icmp .ge 7, 3) := by decide +kernel
theorem dX4_joined_81 : decode cX4_joined 81 = .ok (.iconst 1, 1) := by decide +kernel
theorem dX4_joined_82 : decode cX4_joined 82 = .ok (.goto 4, 3) := by decide +kernel
theorem dX4_joined_85 : decode cX4_joined 85 = .ok (.iconst 0, 1) := by decide +kernel
theorem dX4_joined_86 : decode cX4_joined 86 = .ok (.ireturn, 1) := by decide +kernel
theorem dX4_joined_87 : decode cX4_joined 87 = .ok (.iload_n 1, 1) := by decide +kernel
theorem dX4_joined_88 : decode cX4_joined 88 = .ok (.iload_n 2, 1) := by decide +kernel
theorem dX4_joined_89 : decode cX4_joined 89 = .ok (.if_icmp .ne 7, 3) := by decide +kernel
theorem dX4_joined_92 : decode cX4_joined 92 = .ok (.iconst 1, 1) := by decide +kernel
theorem dX4_joined_93 : decode cX4_joined 93 = .ok (.goto 4, 3) := by decide +kernel
theorem dX4_joined_96 : decode cX4_joined 96 = .ok (.iconst 0, 1) := by decide +kernel
theorem dX4_joined_97 : decode cX4_joined 97 = .ok (.ireturn, 1) := by decide +kernel
theorem dX4_joined_98 : decode cX4_joined 98 = .ok (.iload_n 1, 1) := by decide +kernel
theorem dX4_joined_99 : decode cX4_joined 99 = .ok (.iload_n 2, 1) := by decide +kernel
theorem dX4_joined_100 : decode cX4_joined 100 = .ok (.iadd, 1) := by decide +kernel
theorem dX4_joined_101 : decode cX4_joined 101 = .ok (.ireturn, 1) := by decide +kernel
theorem dX4_joined_102 : decode cX4_joined 102 = .ok (.iload_n 1, 1) := by decide +kernel
theorem dX4_joined_103 : decode cX4_joined 103 = .ok (.iload_n 2, 1) := by decide +kernel
theorem dX4_joined_104 : decode cX4_joined 104 = .ok (.isub, 1) := by decide +kernel
theorem dX4_joined_105 : decode cX4_joined 105 = .ok (.ireturn, 1) := by decide +kernel
theorem dX4_joined_106 : decode cX4_joined 106 = .ok (.iload_n 1, 1) := by decide +kernel
theorem dX4_joined_107 : decode cX4_joined 107 = .ok (.iload_n 2, 1) := by decide +kernel
theorem dX4_joined_108 : decode cX4_joined 108 = .ok (.imul, 1) := by decide +kernel
theorem dX4_joined_109 : decode cX4_joined 109 = .ok (.ireturn, 1) := by decide +kernel
theorem dX4_joined_110 : decode cX4_joined 110 = .ok (.iload_n 2, 1) := by decide +kernel
theorem dX4_joined_111 : decode cX4_joined 111 = .ok (.ifCond .ne 7, 3) := by decide +kernel
theorem dX4_joined_114 : decode cX4_joined 114 = .ok (.iconst 0, 1) := by decide +kernel
theorem dX4_joined_115 : decode cX4_joined 115 = .ok (.goto 6, 3) := by decide +kernel
theorem dX4_joined_118 : decode cX4_joined 118 = .ok (.iload_n 1, 1) := by decide +kernel
theorem dX4_joined_119 : decode cX4_joined 119 = .ok (.iload_n 2, 1) := by decide +kernel
theorem dX4_joined_120 : decode cX4_joined 120 = .ok (.idiv, 1) := by decide +kernel
theorem dX4_joined_121 : decode cX4_joined 121 = .ok (.ireturn, 1) := by decide +kernel
