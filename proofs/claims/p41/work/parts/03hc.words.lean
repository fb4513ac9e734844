theorem dX12_isRing_2 : decode cX12_isRing 2 = .ok (.lconst 0, 1) := by decide +kernel
theorem dX12_isRing_3 : decode cX12_isRing 3 = .ok (.aload_n 0, 1) := by decide +kernel
theorem dX12_isRing_4 : decode cX12_isRing 4 = .ok (.getfield 35, 3) := by decide +kernel
theorem dX12_isRing_7 : decode cX12_isRing 7 = .ok (.iconst 2, 1) := by decide +kernel
theorem dX12_isRing_8 : decode cX12_isRing 8 = .ok (.iaload, 1) := by decide +kernel
theorem dX12_isRing_9 : decode cX12_isRing 9 = .ok (.iconst 1, 1) := by decide +kernel
theorem dX12_isRing_10 : decode cX12_isRing 10 = .ok (.isub, 1) := by decide +kernel
theorem dX12_isRing_11 : decode cX12_isRing 11 = .ok (.i2l, 1) := by decide +kernel
theorem dX12_isRing_12 : decode cX12_isRing 12 = .ok (.invokestatic 117, 3) := by decide +kernel
theorem dX12_isRing_15 : decode cX12_isRing 15 = .ok (.ireturn, 1) := by decide +kernel
theorem dX12_isSign_0 : decode cX12_isSign 0 = .ok (.aload_n 0, 1) := by decide +kernel
theorem dX12_isSign_1 : decode cX12_isSign 1 = .ok (.getfield 133, 3) := by decide +kernel
theorem dX12_isSign_4 : decode cX12_isSign 4 = .ok (.iconst 3, 1) := by decide +kernel
theorem dX12_isSign_5 : decode cX12_isSign 5 = .ok (.if_icmp .ne 15, 3) := by decide +kernel
theorem dX12_isSign_8 : decode cX12_isSign 8 = .ok (.aload_n 0, 1) := by decide +kernel
theorem dX12_isSign_9 : decode cX12_isSign 9 = .ok (.getfield 152, 3) := by decide +kernel
theorem dX12_isSign_12 : decode cX12_isSign 12 = .ok (.iload_n 1, 1) := by decide +kernel
theorem dX12_isSign_13 : decode cX12_isSign 13 = .ok (.if_icmp .ne 7, 3) := by decide +kernel
theorem dX12_isSign_16 : decode cX12_isSign 16 = .ok (.iconst 1, 1) := by decide +kernel
theorem dX12_isSign_17 : decode cX12_isSign 17 = .ok (.goto 4, 3) := by decide +kernel
theorem dX12_isSign_20 : decode cX12_isSign 20 = .ok (.iconst 0, 1) := by decide +kernel
theorem dX12_isSign_21 : decode cX12_isSign 21 = .ok (.ireturn, 1) := by decide +kernel
theorem dX12_isSignByte_0 : decode cX12_isSignByte 0 = .ok (.iload_n 1, 1) := by decide +kernel
theorem dX12_isSignByte_1 : decode cX12_isSignByte 1 = .ok (.bipush 59, 2) := by decide +kernel
theorem dX12_isSignByte_3 : decode cX12_isSignByte 3 = .ok (.if_icmp .eq 21, 3) := by decide +kernel
theorem dX12_isSignByte_6 : decode cX12_isSignByte 6 = .ok (.iload_n 1, 1) := by decide +kernel
theorem dX12_isSignByte_7 : decode cX12_isSignByte 7 = .ok (.bipush 60, 2) := by decide +kernel
theorem dX12_isSignByte_9 : decode cX12_isSignByte 9 = .ok (.if_icmp .eq 15, 3) := by decide +kernel
theorem dX12_isSignByte_12 : decode cX12_isSignByte 12 = .ok (.iload_n 1, 1) := by decide +kernel
theorem dX12_isSignByte_13 : decode cX12_isSignByte 13 = .ok (.bipush 62, 2) := by decide +kernel
theorem dX12_isSignByte_15 : decode cX12_isSignByte 15 = .ok (.if_icmp .eq 9, 3) := by decide +kernel
theorem dX12_isSignByte_18 : decode cX12_isSignByte 18 = .ok (.iload_n 1, 1) := by decide +kernel
theorem dX12_isSignByte_19 : decode cX12_isSignByte 19 = .ok (.bipush 61, 2) := by decide +kernel
theorem dX12_isSignByte_21 : decode cX12_isSignByte 21 = .ok (.if_icmp .ne 7, 3) := by decide +kernel
theorem dX12_isSignByte_24 : decode cX12_isSignByte 24 = .ok (.iconst 1, 1) := by decide +kernel
theorem dX12_isSignByte_25 : decode cX12_isSignByte 25 = .ok (.goto 4, 3) := by decide +kernel
theorem dX12_isSignByte_28 : decode cX12_isSignByte 28 = .ok (.iconst 0, 1) := by decide +kernel
theorem dX12_isSignByte_29 : decode cX12_isSignByte 29 = .ok (.ireturn, 1) := by decide +kernel
theorem dX12_isSo_0 : decode cX12_isSo 0 = .ok (.aload_n 0, 1) := by decide +kernel
theorem dX12_isSo_1 : decode cX12_isSo 1 = .ok (.getfield 35, 3) := by decide +kernel
theorem dX12_isSo_4 : decode cX12_isSo 4 = .ok (.iload_n 1, 1) := by decide +kernel
theorem dX12_isSo_5 : decode cX12_isSo 5 = .ok (.iconst 3, 1) := by decide +kernel
theorem dX12_isSo_6 : decode cX12_isSo 6 = .ok (.iadd, 1) := by decide +kernel
theorem dX12_isSo_7 : decode cX12_isSo 7 = .ok (.iaload, 1) := by decide +kernel
theorem dX12_isSo_8 : decode cX12_isSo 8 = .ok (.istore_n 2, 1) := by decide +kernel
theorem dX12_isSo_9 : decode cX12_isSo 9 = .ok (.aload_n 0, 1) := by decide +kernel
theorem dX12_isSo_10 : decode cX12_isSo 10 = .ok (.getfield 35, 3) := by decide +kernel
theorem dX12_isSo_13 : decode cX12_isSo 13 = .ok (.iload_n 1, 1) := by decide +kernel
theorem dX12_isSo_14 : decode cX12_isSo 14 = .ok (.iaload, 1) := by decide +kernel
theorem dX12_isSo_15 : decode cX12_isSo 15 = .ok (.bipush 8, 2) := by decide +kernel
theorem dX12_isSo_17 : decode cX12_isSo 17 = .ok (.if_icmp .ne 8, 3) := by decide +kernel
theorem dX12_isSo_20 : decode cX12_isSo 20 = .ok (.aload_n 0, 1) := by decide +kernel
theorem dX12_isSo_21 : decode cX12_isSo 21 = .ok (.getfield 525, 3) := by decide +kernel
theorem dX12_isSo_24 : decode cX12_isSo 24 = .ok (.ireturn, 1) := by decide +kernel
theorem dX12_isSo_25 : decode cX12_isSo 25 = .ok (.aload_n 0, 1) := by decide +kernel
theorem dX12_isSo_26 : decode cX12_isSo 26 = .ok (.getfield 35, 3) := by decide +kernel
theorem dX12_isSo_29 : decode cX12_isSo 29 = .ok (.iload_n 1, 1) := by decide +kernel
theorem dX12_isSo_30 : decode cX12_isSo 30 = .ok (.iaload, 1) := by decide +kernel
theorem dX12_isSo_31 : decode cX12_isSo 31 = .ok (.bipush 7, 2) := by decide +kernel
theorem dX12_isSo_33 : decode cX12_isSo 33 = .ok (.if_icmp .ne 31, 3) := by decide +kernel
theorem dX12_isSo_36 : decode cX12_isSo 36 = .ok (.ldc2_w 360, 3) := by decide +kernel
theorem dX12_isSo_39 : decode cX12_isSo 39 = .ok (.aload_n 0, 1) := by decide +kernel
theorem dX12_isSo_40 : decode cX12_isSo 40 = .ok (.aload_n 0, 1) := by decide +kernel
theorem dX12_isSo_41 : decode cX12_isSo 41 = .ok (.getfield 549, 3) := by decide +kernel
theorem dX12_isSo_44 : decode cX12_isSo 44 = .ok (.invokevirtual 356, 3) := by decide +kernel
theorem dX12_isSo_47 : decode cX12_isSo 47 = .ok (.lmul, 1) := by decide +kernel
theorem dX12_isSo_48 : decode cX12_isSo 48 = .ok (.iload_n 2, 1) := by decide +kernel
theorem dX12_isSo_49 : decode cX12_isSo 49 = .ok (.i2l, 1) := by decide +kernel
theorem dX12_isSo_50 : decode cX12_isSo 50 = .ok (.ldc2_w 315, 3) := by decide +kernel
theorem dX12_isSo_53 : decode cX12_isSo 53 = .ok (.lmul, 1) := by decide +kernel
theorem dX12_isSo_54 : decode cX12_isSo 54 = .ok (.lcmp, 1) := by decide +kernel
theorem dX12_isSo_55 : decode cX12_isSo 55 = .ok (.ifCond .lt 7, 3) := by decide +kernel
theorem dX12_isSo_58 : decode cX12_isSo 58 = .ok (.iconst 1, 1) := by decide +kernel
theorem dX12_isSo_59 : decode cX12_isSo 59 = .ok (.goto 4, 3) := by decide +kernel
theorem dX12_isSo_62 : decode cX12_isSo 62 = .ok (.iconst 0, 1) := by decide +kernel
theorem dX12_isSo_63 : decode cX12_isSo 63 = .ok (.ireturn, 1) := by decide +kernel
theorem dX12_isSo_64 : decode cX12_isSo 64 = .ok (.aload_n 0, 1) := by decide +kernel
theorem dX12_isSo_65 : decode cX12_isSo 65 = .ok (.getfield 35, 3) := by decide +kernel
theorem dX12_isSo_68 : decode cX12_isSo 68 = .ok (.iload_n 1, 1) := by decide +kernel
theorem dX12_isSo_69 : decode cX12_isSo 69 = .ok (.iconst 1, 1) := by decide +kernel
theorem dX12_isSo_70 : decode cX12_isSo 70 = .ok (.iadd, 1) := by decide +kernel
theorem dX12_isSo_71 : decode cX12_isSo 71 = .ok (.iaload, 1) := by decide +kernel
theorem dX12_isSo_72 : decode cX12_isSo 72 = .ok (.istore_n 3, 1) := by decide +kernel
theorem dX12_isSo_73 : decode cX12_isSo 73 = .ok (.aload_n 0, 1) := by decide +kernel
theorem dX12_isSo_74 : decode cX12_isSo 74 = .ok (.iload_n 3, 1) := by decide +kernel
theorem dX12_isSo_75 : decode cX12_isSo 75 = .ok (.invokevirtual 264, 3) := by decide +kernel
theorem dX12_isSo_78 : decode cX12_isSo 78 = .ok (.ifCond .eq 12, 3) := by decide +kernel
theorem dX12_isSo_81 : decode cX12_isSo 81 = .ok (.aload_n 0, 1) := by decide +kernel
theorem dX12_isSo_82 : decode cX12_isSo 82 = .ok (.getfield 59, 3) := by decide +kernel
theorem dX12_isSo_85 : decode cX12_isSo 85 = .ok (.iload_n 3, 1) := by decide +kernel
theorem dX12_isSo_86 : decode cX12_isSo 86 = .ok (.iaload, 1) := by decide +kernel
theorem dX12_isSo_87 : decode cX12_isSo 87 = .ok (.ifCond .ge 5, 3) := by decide +kernel
theorem dX12_isSo_90 : decode cX12_isSo 90 = .ok (.iconst 0, 1) := by decide +kernel
theorem dX12_isSo_91 : decode cX12_isSo 91 = .ok (.ireturn, 1) := by decide +kernel
theorem dX12_isSo_92 : decode cX12_isSo 92 = .ok (.aload_n 0, 1) := by decide +kernel
theorem dX12_isSo_93 : decode cX12_isSo 93 = .ok (.getfield 35, 3) := by decide +kernel
theorem dX12_isSo_96 : decode cX12_isSo 96 = .ok (.iload_n 1, 1) := by decide +kernel
theorem dX12_isSo_97 : decode cX12_isSo 97 = .ok (.iconst 2, 1) := by decide +kernel
theorem dX12_isSo_98 : decode cX12_isSo 98 = .ok (.iadd, 1) := by decide +kernel
theorem dX12_isSo_99 : decode cX12_isSo 99 = .ok (.iaload, 1) := by decide +kernel
theorem dX12_isSo_100 : decode cX12_isSo 100 = .ok (.bipush 60, 2) := by decide +kernel
theorem dX12_isSo_102 : decode cX12_isSo 102 = .ok (.if_icmp .ne 21, 3) := by decide +kernel
theorem dX12_isSo_105 : decode cX12_isSo 105 = .ok (.aload_n 0, 1) := by decide +kernel
theorem dX12_isSo_106 : decode cX12_isSo 106 = .ok (.getfield 59, 3) := by decide +kernel
theorem dX12_isSo_109 : decode cX12_isSo 109 = .ok (.iload_n 3, 1) := by decide +kernel
theorem dX12_isSo_110 : decode cX12_isSo 110 = .ok (.iaload, 1) := by decide +kernel
theorem dX12_isSo_111 : decode cX12_isSo 111 = .ok (.iload_n 2, 1) := by decide +kernel
theorem dX12_isSo_112 : decode cX12_isSo 112 = .ok (.if_icmp .ge 7, 3) := by decide +kernel
theorem dX12_isSo_115 : decode cX12_isSo 115 = .ok (.iconst 1, 1) := by decide +kernel
theorem dX12_isSo_116 : decode cX12_isSo 116 = .ok (.goto 53, 3) := by decide +kernel
theorem dX12_isSo_119 : decode cX12_isSo 119 = .ok (.iconst 0, 1) := by decide +kernel
theorem dX12_isSo_120 : decode cX12_isSo 120 = .ok (.goto 49, 3) := by decide +kernel
theorem dX12_isSo_123 : decode cX12_isSo 123 = .ok (.aload_n 0, 1) := by decide +kernel
theorem dX12_isSo_124 : decode cX12_isSo 124 = .ok (.getfield 35, 3) := by decide +kernel
theorem dX12_isSo_127 : decode cX12_isSo 127 = .ok (.iload_n 1, 1) := by decide +kernel
theorem dX12_isSo_128 : decode cX12_isSo 128 = .ok (.iconst 2, 1) := by decide +kernel
theorem dX12_isSo_129 : decode cX12_isSo 129 = .ok (.iadd, 1) := by decide +kernel
theorem dX12_isSo_130 : decode cX12_isSo 130 = .ok (.iaload, 1) := by decide +kernel
theorem dX12_isSo_131 : decode cX12_isSo 131 = .ok (.bipush 62, 2) := by decide +kernel
theorem dX12_isSo_133 : decode cX12_isSo 133 = .ok (.if_icmp .ne 21, 3) := by decide +kernel
theorem dX12_isSo_136 : decode cX12_isSo 136 = .ok (.aload_n 0, 1) := by decide +kernel
theorem dX12_isSo_137 : decode cX12_isSo 137 = .ok (.getfield 59, 3) := by decide +kernel
theorem dX12_isSo_140 : decode cX12_isSo 140 = .ok (.iload_n 3, 1) := by decide +kernel
theorem dX12_isSo_141 : decode cX12_isSo 141 = .ok (.iaload, 1) := by decide +kernel
theorem dX12_isSo_142 : decode cX12_isSo 142 = .ok (.iload_n 2, 1) := by decide +kernel
theorem dX12_isSo_143 : decode cX12_isSo 143 = .ok (.if_icmp .le 7, 3) := by decide +kernel
theorem dX12_isSo_146 : decode cX12_isSo 146 = .ok (.iconst 1, 1) := by decide +kernel
theorem dX12_isSo_147 : decode cX12_isSo 147 = .ok (.goto 22, 3) := by decide +kernel
theorem dX12_isSo_150 : decode cX12_isSo 150 = .ok (.iconst 0, 1) := by decide +kernel
theorem dX12_isSo_151 : decode cX12_isSo 151 = .ok (.goto 18, 3) := by decide +kernel
theorem dX12_isSo_154 : decode cX12_isSo 154 = .ok (.aload_n 0, 1) := by decide +kernel
theorem dX12_isSo_155 : decode cX12_isSo 155 = .ok (.getfield 59, 3) := by decide +kernel
theorem dX12_isSo_158 : decode cX12_isSo 158 = .ok (.iload_n 3, 1) := by decide +kernel
theorem dX12_isSo_159 : decode cX12_isSo 159 = .ok (.iaload, 1) := by decide +kernel
theorem dX12_isSo_160 : decode cX12_isSo 160 = .ok (.iload_n 2, 1) := by decide +kernel
theorem dX12_isSo_161 : decode cX12_isSo 161 = .ok (.if_icmp .ne 7, 3) := by decide +kernel
theorem dX12_isSo_164 : decode cX12_isSo 164 = .ok (.iconst 1, 1) := by decide +kernel
theorem dX12_isSo_165 : decode cX12_isSo 165 = .ok (.goto 4, 3) := by decide +kernel
theorem dX12_isSo_168 : decode cX12_isSo 168 = .ok (.iconst 0, 1) := by decide +kernel
theorem dX12_isSo_169 : decode cX12_isSo 169 = .ok (.ireturn, 1) := by decide +kernel
theorem dX12_isStep_0 : decode cX12_isStep 0 = .ok (.aload_n 0, 1) := by decide +kernel
theorem dX12_isStep_1 : decode cX12_isStep 1 = .ok (.iload_n 1, 1) := by decide +kernel
theorem dX12_isStep_2 : decode cX12_isStep 2 = .ok (.invokevirtual 264, 3) := by decide +kernel
theorem dX12_isStep_5 : decode cX12_isStep 5 = .ok (.ifCond .eq 28, 3) := by decide +kernel
theorem dX12_isStep_8 : decode cX12_isStep 8 = .ok (.iload_n 2, 1) := by decide +kernel
theorem dX12_isStep_9 : decode cX12_isStep 9 = .ok (.i2l, 1) := by decide +kernel
theorem dX12_isStep_10 : decode cX12_isStep 10 = .ok (.lconst 0, 1) := by decide +kernel
theorem dX12_isStep_11 : decode cX12_isStep 11 = .ok (.aload_n 0, 1) := by decide +kernel
theorem dX12_isStep_12 : decode cX12_isStep 12 = .ok (.getfield 35, 3) := by decide +kernel
theorem dX12_isStep_15 : decode cX12_isStep 15 = .ok (.bipush 11, 2) := by decide +kernel
theorem dX12_isStep_17 : decode cX12_isStep 17 = .ok (.iload_n 1, 1) := by decide +kernel
theorem dX12_isStep_18 : decode cX12_isStep 18 = .ok (.iadd, 1) := by decide +kernel
theorem dX12_isStep_19 : decode cX12_isStep 19 = .ok (.iaload, 1) := by decide +kernel
theorem dX12_isStep_20 : decode cX12_isStep 20 = .ok (.iconst 1, 1) := by decide +kernel
theorem dX12_isStep_21 : decode cX12_isStep 21 = .ok (.isub, 1) := by decide +kernel
theorem dX12_isStep_22 : decode cX12_isStep 22 = .ok (.i2l, 1) := by decide +kernel
theorem dX12_isStep_23 : decode cX12_isStep 23 = .ok (.invokestatic 117, 3) := by decide +kernel
theorem dX12_isStep_26 : decode cX12_isStep 26 = .ok (.ifCond .eq 7, 3) := by decide +kernel
theorem dX12_isStep_29 : decode cX12_isStep 29 = .ok (.iconst 1, 1) := by decide +kernel
theorem dX12_isStep_30 : decode cX12_isStep 30 = .ok (.goto 4, 3) := by decide +kernel
theorem dX12_isStep_33 : decode cX12_isStep 33 = .ok (.iconst 0, 1) := by decide +kernel
theorem dX12_isStep_34 : decode cX12_isStep 34 = .ok (.ireturn, 1) := by decide +kernel
theorem dX12_isStop_0 : decode cX12_isStop 0 = .ok (.aload_n 0, 1) := by decide +kernel
theorem dX12_isStop_1 : decode cX12_isStop 1 = .ok (.bipush 115, 2) := by decide +kernel
theorem dX12_isStop_3 : decode cX12_isStop 3 = .ok (.bipush 116, 2) := by decide +kernel
theorem dX12_isStop_5 : decode cX12_isStop 5 = .ok (.bipush 111, 2) := by decide +kernel
theorem dX12_isStop_7 : decode cX12_isStop 7 = .ok (.bipush 112, 2) := by decide +kernel
theorem dX12_isStop_9 : decode cX12_isStop 9 = .ok (.iconst 0, 1) := by decide +kernel
theorem dX12_isStop_10 : decode cX12_isStop 10 = .ok (.iconst 0, 1) := by decide +kernel
theorem dX12_isStop_11 : decode cX12_isStop 11 = .ok (.invokestatic 158, 3) := by decide +kernel
theorem dX12_isStop_14 : decode cX12_isStop 14 = .ok (.invokevirtual 164, 3) := by decide +kernel
theorem dX12_isStop_17 : decode cX12_isStop 17 = .ok (.ireturn, 1) := by decide +kernel
theorem dX12_isSure_0 : decode cX12_isSure 0 = .ok (.aload_n 0, 1) := by decide +kernel
theorem dX12_isSure_1 : decode cX12_isSure 1 = .ok (.bipush 115, 2) := by decide +kernel
theorem dX12_isSure_3 : decode cX12_isSure 3 = .ok (.bipush 117, 2) := by decide +kernel
theorem dX12_isSure_5 : decode cX12_isSure 5 = .ok (.bipush 114, 2) := by decide +kernel
theorem dX12_isSure_7 : decode cX12_isSure 7 = .ok (.bipush 101, 2) := by decide +kernel
theorem dX12_isSure_9 : decode cX12_isSure 9 = .ok (.iconst 0, 1) := by decide +kernel
theorem dX12_isSure_10 : decode cX12_isSure 10 = .ok (.iconst 0, 1) := by decide +kernel
theorem dX12_isSure_11 : decode cX12_isSure 11 = .ok (.invokestatic 158, 3) := by decide +kernel
theorem dX12_isSure_14 : decode cX12_isSure 14 = .ok (.invokevirtual 164, 3) := by decide +kernel
theorem dX12_isSure_17 : decode cX12_isSure 17 = .ok (.ireturn, 1) := by decide +kernel
theorem dX12_isTaken_0 : decode cX12_isTaken 0 = .ok (.aload_n 0, 1) := by decide +kernel
theorem dX12_isTaken_1 : decode cX12_isTaken 1 = .ok (.iconst 4, 1) := by decide +kernel
theorem dX12_isTaken_2 : decode cX12_isTaken 2 = .ok (.iconst 0, 1) := by decide +kernel
theorem dX12_isTaken_3 : decode cX12_isTaken 3 = .ok (.aload_n 0, 1) := by decide +kernel
theorem dX12_isTaken_4 : decode cX12_isTaken 4 = .ok (.getfield 35, 3) := by decide +kernel
theorem dX12_isTaken_7 : decode cX12_isTaken 7 = .ok (.sipush 1460, 3) := by decide +kernel
theorem dX12_isTaken_10 : decode cX12_isTaken 10 = .ok (.iaload, 1) := by decide +kernel
theorem dX12_isTaken_11 : decode cX12_isTaken 11 = .ok (.invokevirtual 196, 3) := by decide +kernel
theorem dX12_isTaken_14 : decode cX12_isTaken 14 = .ok (.ifCond .ge 56, 3) := by decide +kernel
theorem dX12_isTaken_17 : decode cX12_isTaken 17 = .ok (.aload_n 0, 1) := by decide +kernel
theorem dX12_isTaken_18 : decode cX12_isTaken 18 = .ok (.iconst 4, 1) := by decide +kernel
theorem dX12_isTaken_19 : decode cX12_isTaken 19 = .ok (.iconst 3, 1) := by decide +kernel
theorem dX12_isTaken_20 : decode cX12_isTaken 20 = .ok (.aload_n 0, 1) := by decide +kernel
theorem dX12_isTaken_21 : decode cX12_isTaken 21 = .ok (.getfield 35, 3) := by decide +kernel
theorem dX12_isTaken_24 : decode cX12_isTaken 24 = .ok (.sipush 1461, 3) := by decide +kernel
theorem dX12_isTaken_27 : decode cX12_isTaken 27 = .ok (.iaload, 1) := by decide +kernel
theorem dX12_isTaken_28 : decode cX12_isTaken 28 = .ok (.invokevirtual 196, 3) := by decide +kernel
theorem dX12_isTaken_31 : decode cX12_isTaken 31 = .ok (.ifCond .ge 39, 3) := by decide +kernel
theorem dX12_isTaken_34 : decode cX12_isTaken 34 = .ok (.aload_n 0, 1) := by decide +kernel
theorem dX12_isTaken_35 : decode cX12_isTaken 35 = .ok (.iconst 4, 1) := by decide +kernel
theorem dX12_isTaken_36 : decode cX12_isTaken 36 = .ok (.bipush 13, 2) := by decide +kernel
theorem dX12_isTaken_38 : decode cX12_isTaken 38 = .ok (.aload_n 0, 1) := by decide +kernel
theorem dX12_isTaken_39 : decode cX12_isTaken 39 = .ok (.getfield 35, 3) := by decide +kernel
theorem dX12_isTaken_42 : decode cX12_isTaken 42 = .ok (.sipush 1462, 3) := by decide +kernel
theorem dX12_isTaken_45 : decode cX12_isTaken 45 = .ok (.iaload, 1) := by decide +kernel
theorem dX12_isTaken_46 : decode cX12_isTaken 46 = .ok (.invokevirtual 196, 3) := by decide +kernel
theorem dX12_isTaken_49 : decode cX12_isTaken 49 = .ok (.ifCond .ge 21, 3) := by decide +kernel
theorem dX12_isTaken_52 : decode cX12_isTaken 52 = .ok (.aload_n 0, 1) := by decide +kernel
theorem dX12_isTaken_53 : decode cX12_isTaken 53 = .ok (.iconst 4, 1) := by decide +kernel
theorem dX12_isTaken_54 : decode cX12_isTaken 54 = .ok (.bipush 16, 2) := by decide +kernel
theorem dX12_isTaken_56 : decode cX12_isTaken 56 = .ok (.aload_n 0, 1) := by decide +kernel
theorem dX12_isTaken_57 : decode cX12_isTaken 57 = .ok (.getfield 35, 3) := by decide +kernel
theorem dX12_isTaken_60 : decode cX12_isTaken 60 = .ok (.sipush 1463, 3) := by decide +kernel
theorem dX12_isTaken_63 : decode cX12_isTaken 63 = .ok (.iaload, 1) := by decide +kernel
theorem dX12_isTaken_64 : decode cX12_isTaken 64 = .ok (.invokevirtual 196, 3) := by decide +kernel
theorem dX12_isTaken_67 : decode cX12_isTaken 67 = .ok (.ifCond .lt 7, 3) := by decide +kernel
theorem dX12_isTaken_70 : decode cX12_isTaken 70 = .ok (.iconst 1, 1) := by decide +kernel
theorem dX12_isTaken_71 : decode cX12_isTaken 71 = .ok (.goto 4, 3) := by decide +kernel
theorem dX12_isTaken_74 : decode cX12_isTaken 74 = .ok (.iconst 0, 1) := by decide +kernel
theorem dX12_isTaken_75 : decode cX12_isTaken 75 = .ok (.ireturn, 1) := by decide +kernel
theorem dX12_isTray_0 : decode cX12_isTray 0 = .ok (.iload_n 1, 1) := by decide +kernel
theorem dX12_isTray_1 : decode cX12_isTray 1 = .ok (.i2l, 1) := by decide +kernel
theorem dX12_isTray_2 : decode cX12_isTray 2 = .ok (.lconst 0, 1) := by decide +kernel
theorem dX12_isTray_3 : decode cX12_isTray 3 = .ok (.ldc2_w 115, 3) := by decide +kernel
theorem dX12_isTray_6 : decode cX12_isTray 6 = .ok (.invokestatic 117, 3) := by decide +kernel
theorem dX12_isTray_9 : decode cX12_isTray 9 = .ok (.ireturn, 1) := by decide +kernel
theorem dX12_isTried_0 : decode cX12_isTried 0 = .ok (.aload_n 0, 1) := by decide +kernel
theorem dX12_isTried_1 : decode cX12_isTried 1 = .ok (.bipush 116, 2) := by decide +kernel
theorem dX12_isTried_3 : decode cX12_isTried 3 = .ok (.bipush 114, 2) := by decide +kernel
theorem dX12_isTried_5 : decode cX12_isTried 5 = .ok (.bipush 105, 2) := by decide +kernel
theorem dX12_isTried_7 : decode cX12_isTried 7 = .ok (.bipush 101, 2) := by decide +kernel
theorem dX12_isTried_9 : decode cX12_isTried 9 = .ok (.bipush 100, 2) := by decide +kernel
theorem dX12_isTried_11 : decode cX12_isTried 11 = .ok (.iconst 0, 1) := by decide +kernel
theorem dX12_isTried_12 : decode cX12_isTried 12 = .ok (.invokestatic 158, 3) := by decide +kernel
theorem dX12_isTried_15 : decode cX12_isTried 15 = .ok (.invokevirtual 164, 3) := by decide +kernel
theorem dX12_isTried_18 : decode cX12_isTried 18 = .ok (.ireturn, 1) := by decide +kernel
theorem dX12_isTurn_0 : decode cX12_isTurn 0 = .ok (.aload_n 0, 1) := by decide +kernel
theorem dX12_isTurn_1 : decode cX12_isTurn 1 = .ok (.bipush 116, 2) := by decide +kernel
theorem dX12_isTurn_3 : decode cX12_isTurn 3 = .ok (.bipush 117, 2) := by decide +kernel
theorem dX12_isTurn_5 : decode cX12_isTurn 5 = .ok (.bipush 114, 2) := by decide +kernel
theorem dX12_isTurn_7 : decode cX12_isTurn 7 = .ok (.bipush 110, 2) := by decide +kernel
theorem dX12_isTurn_9 : decode cX12_isTurn 9 = .ok (.iconst 0, 1) := by decide +kernel
theorem dX12_isTurn_10 : decode cX12_isTurn 10 = .ok (.iconst 0, 1) := by decide +kernel
theorem dX12_isTurn_11 : decode cX12_isTurn 11 = .ok (.invokestatic 158, 3) := by decide +kernel
theorem dX12_isTurn_14 : decode cX12_isTurn 14 = .ok (.invokevirtual 164, 3) := by decide +kernel
theorem dX12_isTurn_17 : decode cX12_isTurn 17 = .ok (.ireturn, 1) := by decide +kernel
theorem dX12_isUsed_0 : decode cX12_isUsed 0 = .ok (.iconst 0, 1) := by decide +kernel
theorem dX12_isUsed_1 : decode cX12_isUsed 1 = .ok (.istore_n 3, 1) := by decide +kernel
theorem dX12_isUsed_2 : decode cX12_isUsed 2 = .ok (.iload_n 3, 1) := by decide +kernel
theorem dX12_isUsed_3 : decode cX12_isUsed 3 = .ok (.iload_n 2, 1) := by decide +kernel
theorem dX12_isUsed_4 : decode cX12_isUsed 4 = .ok (.if_icmp .ge 21, 3) := by decide +kernel
theorem dX12_isUsed_7 : decode cX12_isUsed 7 = .ok (.aload_n 0, 1) := by decide +kernel
theorem dX12_isUsed_8 : decode cX12_isUsed 8 = .ok (.getfield 44, 3) := by decide +kernel
theorem dX12_isUsed_11 : decode cX12_isUsed 11 = .ok (.iload_n 3, 1) := by decide +kernel
theorem dX12_isUsed_12 : decode cX12_isUsed 12 = .ok (.iaload, 1) := by decide +kernel
theorem dX12_isUsed_13 : decode cX12_isUsed 13 = .ok (.iload_n 1, 1) := by decide +kernel
theorem dX12_isUsed_14 : decode cX12_isUsed 14 = .ok (.if_icmp .ne 5, 3) := by decide +kernel
theorem dX12_isUsed_17 : decode cX12_isUsed 17 = .ok (.iconst 1, 1) := by decide +kernel
theorem dX12_isUsed_18 : decode cX12_isUsed 18 = .ok (.ireturn, 1) := by decide +kernel
theorem dX12_isUsed_19 : decode cX12_isUsed 19 = .ok (.iinc 3 1, 3) := by decide +kernel
theorem dX12_isUsed_22 : decode cX12_isUsed 22 = .ok (.goto (-20), 3) := by decide +kernel
theorem dX12_isUsed_25 : decode cX12_isUsed 25 = .ok (.iconst 0, 1) := by decide +kernel
theorem dX12_isUsed_26 : decode cX12_isUsed 26 = .ok (.ireturn, 1) := by decide +kernel
theorem dX12_isWell_0 : decode cX12_isWell 0 = .ok (.aload_n 0, 1) := by decide +kernel
theorem dX12_isWell_1 : decode cX12_isWell 1 = .ok (.aload_n 0, 1) := by decide +kernel
theorem dX12_isWell_2 : decode cX12_isWell 2 = .ok (.getfield 174, 3) := by decide +kernel
theorem dX12_isWell_5 : decode cX12_isWell 5 = .ok (.putfield 28, 3) := by decide +kernel
theorem dX12_isWell_8 : decode cX12_isWell 8 = .ok (.aload_n 0, 1) := by decide +kernel
theorem dX12_isWell_9 : decode cX12_isWell 9 = .ok (.aload_n 0, 1) := by decide +kernel
theorem dX12_isWell_10 : decode cX12_isWell 10 = .ok (.getfield 174, 3) := by decide +kernel
theorem dX12_isWell_13 : decode cX12_isWell 13 = .ok (.ifCond .ne 7, 3) := by decide +kernel
theorem dX12_isWell_16 : decode cX12_isWell 16 = .ok (.iconst (-1), 1) := by decide +kernel
theorem dX12_isWell_17 : decode cX12_isWell 17 = .ok (.goto 7, 3) := by decide +kernel
theorem dX12_isWell_20 : decode cX12_isWell 20 = .ok (.aload_n 0, 1) := by decide +kernel
theorem dX12_isWell_21 : decode cX12_isWell 21 = .ok (.getfield 177, 3) := by decide +kernel
theorem dX12_isWell_24 : decode cX12_isWell 24 = .ok (.putfield 32, 3) := by decide +kernel
theorem dX12_isWell_27 : decode cX12_isWell 27 = .ok (.aload_n 0, 1) := by decide +kernel
theorem dX12_isWell_28 : decode cX12_isWell 28 = .ok (.getfield 174, 3) := by decide +kernel
theorem dX12_isWell_31 : decode cX12_isWell 31 = .ok (.ifCond .eq 12, 3) := by decide +kernel
theorem dX12_isWell_34 : decode cX12_isWell 34 = .ok (.aload_n 0, 1) := by decide +kernel
theorem dX12_isWell_35 : decode cX12_isWell 35 = .ok (.bipush 10, 2) := by decide +kernel
theorem dX12_isWell_37 : decode cX12_isWell 37 = .ok (.invokevirtual 97, 3) := by decide +kernel
theorem dX12_isWell_40 : decode cX12_isWell 40 = .ok (.ifCond .eq 7, 3) := by decide +kernel
theorem dX12_isWell_43 : decode cX12_isWell 43 = .ok (.iconst 1, 1) := by decide +kernel
theorem dX12_isWell_44 : decode cX12_isWell 44 = .ok (.goto 4, 3) := by decide +kernel
theorem dX12_isWell_47 : decode cX12_isWell 47 = .ok (.iconst 0, 1) := by decide +kernel
theorem dX12_isWell_48 : decode cX12_isWell 48 = .ok (.ireturn, 1) := by decide +kernel
theorem dX12_isWhen_0 : decode cX12_isWhen 0 = .ok (.aload_n 0, 1) := by decide +kernel
theorem dX12_isWhen_1 : decode cX12_isWhen 1 = .ok (.bipush 119, 2) := by decide +kernel
theorem dX12_isWhen_3 : decode cX12_isWhen 3 = .ok (.bipush 104, 2) := by decide +kernel
theorem dX12_isWhen_5 : decode cX12_isWhen 5 = .ok (.bipush 101, 2) := by decide +kernel
theorem dX12_isWhen_7 : decode cX12_isWhen 7 = .ok (.bipush 110, 2) := by decide +kernel
theorem dX12_isWhen_9 : decode cX12_isWhen 9 = .ok (.iconst 0, 1) := by decide +kernel
theorem dX12_isWhen_10 : decode cX12_isWhen 10 = .ok (.iconst 0, 1) := by decide +kernel
theorem dX12_isWhen_11 : decode cX12_isWhen 11 = .ok (.invokestatic 158, 3) := by decide +kernel
theorem dX12_isWhen_14 : decode cX12_isWhen 14 = .ok (.invokevirtual 164, 3) := by decide +kernel
theorem dX12_isWhen_17 : decode cX12_isWhen 17 = .ok (.ireturn, 1) := by decide +kernel
theorem dX12_isWord_0 : decode cX12_isWord 0 = .ok (.aload_n 0, 1) := by decide +kernel
theorem dX12_isWord_1 : decode cX12_isWord 1 = .ok (.getfield 133, 3) := by decide +kernel
theorem dX12_isWord_4 : decode cX12_isWord 4 = .ok (.iconst 1, 1) := by decide +kernel
theorem dX12_isWord_5 : decode cX12_isWord 5 = .ok (.if_icmp .ne 16, 3) := by decide +kernel
theorem dX12_isWord_8 : decode cX12_isWord 8 = .ok (.aload_n 0, 1) := by decide +kernel
theorem dX12_isWord_9 : decode cX12_isWord 9 = .ok (.getfield 139, 3) := by decide +kernel
theorem dX12_isWord_12 : decode cX12_isWord 12 = .ok (.lload_n 1, 1) := by decide +kernel
theorem dX12_isWord_13 : decode cX12_isWord 13 = .ok (.lcmp, 1) := by decide +kernel
theorem dX12_isWord_14 : decode cX12_isWord 14 = .ok (.ifCond .ne 7, 3) := by decide +kernel
theorem dX12_isWord_17 : decode cX12_isWord 17 = .ok (.iconst 1, 1) := by decide +kernel
theorem dX12_isWord_18 : decode cX12_isWord 18 = .ok (.goto 4, 3) := by decide +kernel
theorem dX12_isWord_21 : decode cX12_isWord 21 = .ok (.iconst 0, 1) := by decide +kernel
theorem dX12_isWord_22 : decode cX12_isWord 22 = .ok (.ireturn, 1) := by decide +kernel
theorem dX12_judge_0 : decode cX12_judge 0 = .ok (.iconst 0, 1) := by decide +kernel
theorem dX12_judge_1 : decode cX12_judge 1 = .ok (.istore_n 1, 1) := by decide +kernel
theorem dX12_judge_2 : decode cX12_judge 2 = .ok (.iload_n 1, 1) := by decide +kernel
theorem dX12_judge_3 : decode cX12_judge 3 = .ok (.aload_n 0, 1) := by decide +kernel
theorem dX12_judge_4 : decode cX12_judge 4 = .ok (.getfield 402, 3) := by decide +kernel
theorem dX12_judge_7 : decode cX12_judge 7 = .ok (.if_icmp .ge 21, 3) := by decide +kernel
theorem dX12_judge_10 : decode cX12_judge 10 = .ok (.aload_n 0, 1) := by decide +kernel
theorem dX12_judge_11 : decode cX12_judge 11 = .ok (.getfield 41, 3) := by decide +kernel
theorem dX12_judge_14 : decode cX12_judge 14 = .ok (.iload_n 1, 1) := by decide +kernel
theorem dX12_judge_15 : decode cX12_judge 15 = .ok (.aload_n 0, 1) := by decide +kernel
theorem dX12_judge_16 : decode cX12_judge 16 = .ok (.getfield 44, 3) := by decide +kernel
theorem dX12_judge_19 : decode cX12_judge 19 = .ok (.iload_n 1, 1) := by decide +kernel
theorem dX12_judge_20 : decode cX12_judge 20 = .ok (.iaload, 1) := by decide +kernel
theorem dX12_judge_21 : decode cX12_judge 21 = .ok (.iastore, 1) := by decide +kernel
theorem dX12_judge_22 : decode cX12_judge 22 = .ok (.iinc 1 1, 3) := by decide +kernel
theorem dX12_judge_25 : decode cX12_judge 25 = .ok (.goto (-23), 3) := by decide +kernel
theorem dX12_judge_28 : decode cX12_judge 28 = .ok (.aload_n 0, 1) := by decide +kernel
theorem dX12_judge_29 : decode cX12_judge 29 = .ok (.getfield 405, 3) := by decide +kernel
theorem dX12_judge_32 : decode cX12_judge 32 = .ok (.iconst 2, 1) := by decide +kernel
theorem dX12_judge_33 : decode cX12_judge 33 = .ok (.if_icmp .ne 20, 3) := by decide +kernel
theorem dX12_judge_36 : decode cX12_judge 36 = .ok (.aload_n 0, 1) := by decide +kernel
theorem dX12_judge_37 : decode cX12_judge 37 = .ok (.aload_n 0, 1) := by decide +kernel
theorem dX12_judge_38 : decode cX12_judge 38 = .ok (.invokevirtual 408, 3) := by decide +kernel
theorem dX12_judge_41 : decode cX12_judge 41 = .ok (.i2l, 1) := by decide +kernel
theorem dX12_judge_42 : decode cX12_judge 42 = .ok (.putfield 390, 3) := by decide +kernel
theorem dX12_judge_45 : decode cX12_judge 45 = .ok (.aload_n 0, 1) := by decide +kernel
theorem dX12_judge_46 : decode cX12_judge 46 = .ok (.lconst 1, 1) := by decide +kernel
theorem dX12_judge_47 : decode cX12_judge 47 = .ok (.putfield 393, 3) := by decide +kernel
theorem dX12_judge_50 : decode cX12_judge 50 = .ok (.goto 23, 3) := by decide +kernel
theorem dX12_judge_53 : decode cX12_judge 53 = .ok (.aload_n 0, 1) := by decide +kernel
theorem dX12_judge_54 : decode cX12_judge 54 = .ok (.getfield 405, 3) := by decide +kernel
theorem dX12_judge_57 : decode cX12_judge 57 = .ok (.ifCond .ne 12, 3) := by decide +kernel
theorem dX12_judge_60 : decode cX12_judge 60 = .ok (.aload_n 0, 1) := by decide +kernel
theorem dX12_judge_61 : decode cX12_judge 61 = .ok (.iconst 0, 1) := by decide +kernel
theorem dX12_judge_62 : decode cX12_judge 62 = .ok (.iconst 0, 1) := by decide +kernel
theorem dX12_judge_63 : decode cX12_judge 63 = .ok (.invokevirtual 396, 3) := by decide +kernel
theorem dX12_judge_66 : decode cX12_judge 66 = .ok (.goto 7, 3) := by decide +kernel
theorem dX12_judge_69 : decode cX12_judge 69 = .ok (.aload_n 0, 1) := by decide +kernel
theorem dX12_judge_70 : decode cX12_judge 70 = .ok (.invokevirtual 399, 3) := by decide +kernel
theorem dX12_judge_73 : decode cX12_judge 73 = .ok (.aload_n 0, 1) := by decide +kernel
theorem dX12_judge_74 : decode cX12_judge 74 = .ok (.getfield 411, 3) := by decide +kernel
theorem dX12_judge_77 : decode cX12_judge 77 = .ok (.ifCond .eq 26, 3) := by decide +kernel
theorem dX12_judge_80 : decode cX12_judge 80 = .ok (.aload_n 0, 1) := by decide +kernel
theorem dX12_judge_81 : decode cX12_judge 81 = .ok (.getfield 390, 3) := by decide +kernel
theorem dX12_judge_84 : decode cX12_judge 84 = .ok (.aload_n 0, 1) := by decide +kernel
theorem dX12_judge_85 : decode cX12_judge 85 = .ok (.getfield 414, 3) := by decide +kernel
theorem dX12_judge_88 : decode cX12_judge 88 = .ok (.lmul, 1) := by decide +kernel
theorem dX12_judge_89 : decode cX12_judge 89 = .ok (.aload_n 0, 1) := by decide +kernel
theorem dX12_judge_90 : decode cX12_judge 90 = .ok (.getfield 417, 3) := by decide +kernel
theorem dX12_judge_93 : decode cX12_judge 93 = .ok (.aload_n 0, 1) := by decide +kernel
theorem dX12_judge_94 : decode cX12_judge 94 = .ok (.getfield 393, 3) := by decide +kernel
theorem dX12_judge_97 : decode cX12_judge 97 = .ok (.lmul, 1) := by decide +kernel
theorem dX12_judge_98 : decode cX12_judge 98 = .ok (.lcmp, 1) := by decide +kernel
theorem dX12_judge_99 : decode cX12_judge 99 = .ok (.ifCond .lt 4, 3) := by decide +kernel
theorem dX12_judge_102 : decode cX12_judge 102 = .ok (.return_, 1) := by decide +kernel
theorem dX12_judge_103 : decode cX12_judge 103 = .ok (.aload_n 0, 1) := by decide +kernel
theorem dX12_judge_104 : decode cX12_judge 104 = .ok (.iconst 1, 1) := by decide +kernel
theorem dX12_judge_105 : decode cX12_judge 105 = .ok (.putfield 411, 3) := by decide +kernel
theorem dX12_judge_108 : decode cX12_judge 108 = .ok (.aload_n 0, 1) := by decide +kernel
theorem dX12_judge_109 : decode cX12_judge 109 = .ok (.aload_n 0, 1) := by decide +kernel
theorem dX12_judge_110 : decode cX12_judge 110 = .ok (.getfield 390, 3) := by decide +kernel
theorem dX12_judge_113 : decode cX12_judge 113 = .ok (.putfield 417, 3) := by decide +kernel
theorem dX12_judge_116 : decode cX12_judge 116 = .ok (.aload_n 0, 1) := by decide +kernel
theorem dX12_judge_117 : decode cX12_judge 117 = .ok (.aload_n 0, 1) := by decide +kernel
theorem dX12_judge_118 : decode cX12_judge 118 = .ok (.getfield 393, 3) := by decide +kernel
theorem dX12_judge_121 : decode cX12_judge 121 = .ok (.putfield 414, 3) := by decide +kernel
theorem dX12_judge_124 : decode cX12_judge 124 = .ok (.iconst 0, 1) := by decide +kernel
theorem dX12_judge_125 : decode cX12_judge 125 = .ok (.istore_n 1, 1) := by decide +kernel
theorem dX12_judge_126 : decode cX12_judge 126 = .ok (.iload_n 1, 1) := by decide +kernel
theorem dX12_judge_127 : decode cX12_judge 127 = .ok (.aload_n 0, 1) := by decide +kernel
theorem dX12_judge_128 : decode cX12_judge 128 = .ok (.getfield 402, 3) := by decide +kernel
theorem dX12_judge_131 : decode cX12_judge 131 = .ok (.if_icmp .ge 21, 3) := by decide +kernel
theorem dX12_judge_134 : decode cX12_judge 134 = .ok (.aload_n 0, 1) := by decide +kernel
theorem dX12_judge_135 : decode cX12_judge 135 = .ok (.getfield 75, 3) := by decide +kernel
theorem dX12_judge_138 : decode cX12_judge 138 = .ok (.iload_n 1, 1) := by decide +kernel
theorem dX12_judge_139 : decode cX12_judge 139 = .ok (.aload_n 0, 1) := by decide +kernel
theorem dX12_judge_140 : decode cX12_judge 140 = .ok (.getfield 44, 3) := by decide +kernel
theorem dX12_judge_143 : decode cX12_judge 143 = .ok (.iload_n 1, 1) := by decide +kernel
theorem dX12_judge_144 : decode cX12_judge 144 = .ok (.iaload, 1) := by decide +kernel
theorem dX12_judge_145 : decode cX12_judge 145 = .ok (.iastore, 1) := by decide +kernel
theorem dX12_judge_146 : decode cX12_judge 146 = .ok (.iinc 1 1, 3) := by decide +kernel
theorem dX12_judge_149 : decode cX12_judge 149 = .ok (.goto (-23), 3) := by decide +kernel
theorem dX12_judge_152 : decode cX12_judge 152 = .ok (.return_, 1) := by decide +kernel
theorem dX12_judgeRow_0 : decode cX12_judgeRow 0 = .ok (.lconst 0, 1) := by decide +kernel
theorem dX12_judgeRow_1 : decode cX12_judgeRow 1 = .ok (.lstore_n 3, 1) := by decide +kernel
theorem dX12_judgeRow_2 : decode cX12_judgeRow 2 = .ok (.aload_n 0, 1) := by decide +kernel
theorem dX12_judgeRow_3 : decode cX12_judgeRow 3 = .ok (.lconst 0, 1) := by decide +kernel
theorem dX12_judgeRow_4 : decode cX12_judgeRow 4 = .ok (.putfield 393, 3) := by decide +kernel
theorem dX12_judgeRow_7 : decode cX12_judgeRow 7 = .ok (.iconst 0, 1) := by decide +kernel
theorem dX12_judgeRow_8 : decode cX12_judgeRow 8 = .ok (.istore 5, 2) := by decide +kernel
theorem dX12_judgeRow_10 : decode cX12_judgeRow 10 = .ok (.iload 5, 2) := by decide +kernel
theorem dX12_judgeRow_12 : decode cX12_judgeRow 12 = .ok (.iload_n 1, 1) := by decide +kernel
theorem dX12_judgeRow_13 : decode cX12_judgeRow 13 = .ok (.if_icmp .ge 189, 3) := by decide +kernel
theorem dX12_judgeRow_16 : decode cX12_judgeRow 16 = .ok (.aload_n 0, 1) := by decide +kernel
theorem dX12_judgeRow_17 : decode cX12_judgeRow 17 = .ok (.getfield 393, 3) := by decide +kernel
theorem dX12_judgeRow_20 : decode cX12_judgeRow 20 = .ok (.lconst 0, 1) := by decide +kernel
theorem dX12_judgeRow_21 : decode cX12_judgeRow 21 = .ok (.lcmp, 1) := by decide +kernel
theorem dX12_judgeRow_22 : decode cX12_judgeRow 22 = .ok (.ifCond .ne 180, 3) := by decide +kernel
theorem dX12_judgeRow_25 : decode cX12_judgeRow 25 = .ok (.aload_n 0, 1) := by decide +kernel
theorem dX12_judgeRow_26 : decode cX12_judgeRow 26 = .ok (.aload_n 0, 1) := by decide +kernel
theorem dX12_judgeRow_27 : decode cX12_judgeRow 27 = .ok (.getfield 44, 3) := by decide +kernel
theorem dX12_judgeRow_30 : decode cX12_judgeRow 30 = .ok (.iload 5, 2) := by decide +kernel
theorem dX12_judgeRow_32 : decode cX12_judgeRow 32 = .ok (.iaload, 1) := by decide +kernel
theorem dX12_judgeRow_33 : decode cX12_judgeRow 33 = .ok (.invokevirtual 292, 3) := by decide +kernel
theorem dX12_judgeRow_36 : decode cX12_judgeRow 36 = .ok (.lload_n 3, 1) := by decide +kernel
theorem dX12_judgeRow_37 : decode cX12_judgeRow 37 = .ok (.iload 5, 2) := by decide +kernel
theorem dX12_judgeRow_39 : decode cX12_judgeRow 39 = .ok (.ifCond .ne 7, 3) := by decide +kernel
theorem dX12_judgeRow_42 : decode cX12_judgeRow 42 = .ok (.lconst 0, 1) := by decide +kernel
theorem dX12_judgeRow_43 : decode cX12_judgeRow 43 = .ok (.goto 11, 3) := by decide +kernel
theorem dX12_judgeRow_46 : decode cX12_judgeRow 46 = .ok (.aload_n 0, 1) := by decide +kernel
theorem dX12_judgeRow_47 : decode cX12_judgeRow 47 = .ok (.getfield 35, 3) := by decide +kernel
theorem dX12_judgeRow_50 : decode cX12_judgeRow 50 = .ok (.bipush 8, 2) := by decide +kernel
theorem dX12_judgeRow_52 : decode cX12_judgeRow 52 = .ok (.iaload, 1) := by decide +kernel
theorem dX12_judgeRow_53 : decode cX12_judgeRow 53 = .ok (.i2l, 1) := by decide +kernel
theorem dX12_judgeRow_54 : decode cX12_judgeRow 54 = .ok (.ladd, 1) := by decide +kernel
theorem dX12_judgeRow_55 : decode cX12_judgeRow 55 = .ok (.lstore_n 3, 1) := by decide +kernel
theorem dX12_judgeRow_56 : decode cX12_judgeRow 56 = .ok (.aload_n 0, 1) := by decide +kernel
theorem dX12_judgeRow_57 : decode cX12_judgeRow 57 = .ok (.iload_n 2, 1) := by decide +kernel
theorem dX12_judgeRow_58 : decode cX12_judgeRow 58 = .ok (.invokevirtual 438, 3) := by decide +kernel
theorem dX12_judgeRow_61 : decode cX12_judgeRow 61 = .ok (.ifCond .ne 40, 3) := by decide +kernel
theorem dX12_judgeRow_64 : decode cX12_judgeRow 64 = .ok (.lload_n 3, 1) := by decide +kernel
theorem dX12_judgeRow_65 : decode cX12_judgeRow 65 = .ok (.aload_n 0, 1) := by decide +kernel
theorem dX12_judgeRow_66 : decode cX12_judgeRow 66 = .ok (.getfield 286, 3) := by decide +kernel
theorem dX12_judgeRow_69 : decode cX12_judgeRow 69 = .ok (.i2l, 1) := by decide +kernel
theorem dX12_judgeRow_70 : decode cX12_judgeRow 70 = .ok (.aload_n 0, 1) := by decide +kernel
theorem dX12_judgeRow_71 : decode cX12_judgeRow 71 = .ok (.getfield 35, 3) := by decide +kernel
theorem dX12_judgeRow_74 : decode cX12_judgeRow 74 = .ok (.bipush 6, 2) := by decide +kernel
theorem dX12_judgeRow_76 : decode cX12_judgeRow 76 = .ok (.iaload, 1) := by decide +kernel
theorem dX12_judgeRow_77 : decode cX12_judgeRow 77 = .ok (.i2l, 1) := by decide +kernel
theorem dX12_judgeRow_78 : decode cX12_judgeRow 78 = .ok (.lmul, 1) := by decide +kernel
theorem dX12_judgeRow_79 : decode cX12_judgeRow 79 = .ok (.aload_n 0, 1) := by decide +kernel
theorem dX12_judgeRow_80 : decode cX12_judgeRow 80 = .ok (.getfield 286, 3) := by decide +kernel
theorem dX12_judgeRow_83 : decode cX12_judgeRow 83 = .ok (.i2l, 1) := by decide +kernel
theorem dX12_judgeRow_84 : decode cX12_judgeRow 84 = .ok (.lconst 1, 1) := by decide +kernel
theorem dX12_judgeRow_85 : decode cX12_judgeRow 85 = .ok (.lsub, 1) := by decide +kernel
theorem dX12_judgeRow_86 : decode cX12_judgeRow 86 = .ok (.aload_n 0, 1) := by decide +kernel
theorem dX12_judgeRow_87 : decode cX12_judgeRow 87 = .ok (.getfield 35, 3) := by decide +kernel
theorem dX12_judgeRow_90 : decode cX12_judgeRow 90 = .ok (.bipush 7, 2) := by decide +kernel
theorem dX12_judgeRow_92 : decode cX12_judgeRow 92 = .ok (.iaload, 1) := by decide +kernel
theorem dX12_judgeRow_93 : decode cX12_judgeRow 93 = .ok (.i2l, 1) := by decide +kernel
theorem dX12_judgeRow_94 : decode cX12_judgeRow 94 = .ok (.lmul, 1) := by decide +kernel
theorem dX12_judgeRow_95 : decode cX12_judgeRow 95 = .ok (.ladd, 1) := by decide +kernel
theorem dX12_judgeRow_96 : decode cX12_judgeRow 96 = .ok (.ladd, 1) := by decide +kernel
theorem dX12_judgeRow_97 : decode cX12_judgeRow 97 = .ok (.lstore_n 3, 1) := by decide +kernel
theorem dX12_judgeRow_98 : decode cX12_judgeRow 98 = .ok (.goto 98, 3) := by decide +kernel
theorem dX12_judgeRow_101 : decode cX12_judgeRow 101 = .ok (.aload_n 0, 1) := by decide +kernel
theorem dX12_judgeRow_102 : decode cX12_judgeRow 102 = .ok (.ldc2_w 360, 3) := by decide +kernel
theorem dX12_judgeRow_105 : decode cX12_judgeRow 105 = .ok (.aload_n 0, 1) := by decide +kernel
theorem dX12_judgeRow_106 : decode cX12_judgeRow 106 = .ok (.getfield 286, 3) := by decide +kernel
theorem dX12_judgeRow_109 : decode cX12_judgeRow 109 = .ok (.i2l, 1) := by decide +kernel
theorem dX12_judgeRow_110 : decode cX12_judgeRow 110 = .ok (.lmul, 1) := by decide +kernel
theorem dX12_judgeRow_111 : decode cX12_judgeRow 111 = .ok (.putfield 393, 3) := by decide +kernel
theorem dX12_judgeRow_114 : decode cX12_judgeRow 114 = .ok (.aload_n 0, 1) := by decide +kernel
theorem dX12_judgeRow_115 : decode cX12_judgeRow 115 = .ok (.lload_n 3, 1) := by decide +kernel
theorem dX12_judgeRow_116 : decode cX12_judgeRow 116 = .ok (.aload_n 0, 1) := by decide +kernel
theorem dX12_judgeRow_117 : decode cX12_judgeRow 117 = .ok (.getfield 393, 3) := by decide +kernel
theorem dX12_judgeRow_120 : decode cX12_judgeRow 120 = .ok (.lmul, 1) := by decide +kernel
theorem dX12_judgeRow_121 : decode cX12_judgeRow 121 = .ok (.putfield 390, 3) := by decide +kernel
theorem dX12_judgeRow_124 : decode cX12_judgeRow 124 = .ok (.iconst 0, 1) := by decide +kernel
theorem dX12_judgeRow_125 : decode cX12_judgeRow 125 = .ok (.istore 6, 2) := by decide +kernel
theorem dX12_judgeRow_127 : decode cX12_judgeRow 127 = .ok (.iload 6, 2) := by decide +kernel
theorem dX12_judgeRow_129 : decode cX12_judgeRow 129 = .ok (.iconst 2, 1) := by decide +kernel
theorem dX12_judgeRow_130 : decode cX12_judgeRow 130 = .ok (.aload_n 0, 1) := by decide +kernel
theorem dX12_judgeRow_131 : decode cX12_judgeRow 131 = .ok (.getfield 286, 3) := by decide +kernel
theorem dX12_judgeRow_134 : decode cX12_judgeRow 134 = .ok (.imul, 1) := by decide +kernel
theorem dX12_judgeRow_135 : decode cX12_judgeRow 135 = .ok (.if_icmp .ge 61, 3) := by decide +kernel
theorem dX12_judgeRow_138 : decode cX12_judgeRow 138 = .ok (.aload_n 0, 1) := by decide +kernel
theorem dX12_judgeRow_139 : decode cX12_judgeRow 139 = .ok (.dup, 1) := by decide +kernel
theorem dX12_judgeRow_140 : decode cX12_judgeRow 140 = .ok (.getfield 390, 3) := by decide +kernel
theorem dX12_judgeRow_143 : decode cX12_judgeRow 143 = .ok (.iload 6, 2) := by decide +kernel
theorem dX12_judgeRow_145 : decode cX12_judgeRow 145 = .ok (.iconst 2, 1) := by decide +kernel
theorem dX12_judgeRow_146 : decode cX12_judgeRow 146 = .ok (.irem, 1) := by decide +kernel
theorem dX12_judgeRow_147 : decode cX12_judgeRow 147 = .ok (.ifCond .ne 16, 3) := by decide +kernel
theorem dX12_judgeRow_150 : decode cX12_judgeRow 150 = .ok (.bipush 16, 2) := by decide +kernel
theorem dX12_judgeRow_152 : decode cX12_judgeRow 152 = .ok (.aload_n 0, 1) := by decide +kernel
theorem dX12_judgeRow_153 : decode cX12_judgeRow 153 = .ok (.getfield 35, 3) := by decide +kernel
theorem dX12_judgeRow_156 : decode cX12_judgeRow 156 = .ok (.bipush 9, 2) := by decide +kernel
theorem dX12_judgeRow_158 : decode cX12_judgeRow 158 = .ok (.iaload, 1) := by decide +kernel
theorem dX12_judgeRow_159 : decode cX12_judgeRow 159 = .ok (.isub, 1) := by decide +kernel
theorem dX12_judgeRow_160 : decode cX12_judgeRow 160 = .ok (.goto 10, 3) := by decide +kernel
theorem dX12_judgeRow_163 : decode cX12_judgeRow 163 = .ok (.aload_n 0, 1) := by decide +kernel
theorem dX12_judgeRow_164 : decode cX12_judgeRow 164 = .ok (.getfield 35, 3) := by decide +kernel
theorem dX12_judgeRow_167 : decode cX12_judgeRow 167 = .ok (.bipush 9, 2) := by decide +kernel
theorem dX12_judgeRow_169 : decode cX12_judgeRow 169 = .ok (.iaload, 1) := by decide +kernel
theorem dX12_judgeRow_170 : decode cX12_judgeRow 170 = .ok (.i2l, 1) := by decide +kernel
theorem dX12_judgeRow_171 : decode cX12_judgeRow 171 = .ok (.aload_n 0, 1) := by decide +kernel
theorem dX12_judgeRow_172 : decode cX12_judgeRow 172 = .ok (.iload_n 2, 1) := by decide +kernel
theorem dX12_judgeRow_173 : decode cX12_judgeRow 173 = .ok (.iload 6, 2) := by decide +kernel
theorem dX12_judgeRow_175 : decode cX12_judgeRow 175 = .ok (.iconst 2, 1) := by decide +kernel
theorem dX12_judgeRow_176 : decode cX12_judgeRow 176 = .ok (.idiv, 1) := by decide +kernel
theorem dX12_judgeRow_177 : decode cX12_judgeRow 177 = .ok (.iload 6, 2) := by decide +kernel
theorem dX12_judgeRow_179 : decode cX12_judgeRow 179 = .ok (.iconst 2, 1) := by decide +kernel
theorem dX12_judgeRow_180 : decode cX12_judgeRow 180 = .ok (.irem, 1) := by decide +kernel
theorem dX12_judgeRow_181 : decode cX12_judgeRow 181 = .ok (.invokevirtual 387, 3) := by decide +kernel
theorem dX12_judgeRow_184 : decode cX12_judgeRow 184 = .ok (.i2l, 1) := by decide +kernel
theorem dX12_judgeRow_185 : decode cX12_judgeRow 185 = .ok (.lmul, 1) := by decide +kernel
theorem dX12_judgeRow_186 : decode cX12_judgeRow 186 = .ok (.ladd, 1) := by decide +kernel
theorem dX12_judgeRow_187 : decode cX12_judgeRow 187 = .ok (.putfield 390, 3) := by decide +kernel
theorem dX12_judgeRow_190 : decode cX12_judgeRow 190 = .ok (.iinc 6 1, 3) := by decide +kernel
theorem dX12_judgeRow_193 : decode cX12_judgeRow 193 = .ok (.goto (-66), 3) := by decide +kernel
theorem dX12_judgeRow_196 : decode cX12_judgeRow 196 = .ok (.iinc 5 1, 3) := by decide +kernel
theorem dX12_judgeRow_199 : decode cX12_judgeRow 199 = .ok (.goto (-189), 3) := by decide +kernel
theorem dX12_judgeRow_202 : decode cX12_judgeRow 202 = .ok (.aload_n 0, 1) := by decide +kernel
theorem dX12_judgeRow_203 : decode cX12_judgeRow 203 = .ok (.getfield 393, 3) := by decide +kernel
theorem dX12_judgeRow_206 : decode cX12_judgeRow 206 = .ok (.lconst 0, 1) := by decide +kernel
theorem dX12_judgeRow_207 : decode cX12_judgeRow 207 = .ok (.lcmp, 1) := by decide +kernel
theorem dX12_judgeRow_208 : decode cX12_judgeRow 208 = .ok (.ifCond .eq 32, 3) := by decide +kernel
theorem dX12_judgeRow_211 : decode cX12_judgeRow 211 = .ok (.aload_n 0, 1) := by decide +kernel
theorem dX12_judgeRow_212 : decode cX12_judgeRow 212 = .ok (.getfield 411, 3) := by decide +kernel
theorem dX12_judgeRow_215 : decode cX12_judgeRow 215 = .ok (.ifCond .eq 26, 3) := by decide +kernel
theorem dX12_judgeRow_218 : decode cX12_judgeRow 218 = .ok (.aload_n 0, 1) := by decide +kernel
theorem dX12_judgeRow_219 : decode cX12_judgeRow 219 = .ok (.getfield 390, 3) := by decide +kernel
theorem dX12_judgeRow_222 : decode cX12_judgeRow 222 = .ok (.aload_n 0, 1) := by decide +kernel
theorem dX12_judgeRow_223 : decode cX12_judgeRow 223 = .ok (.getfield 414, 3) := by decide +kernel
theorem dX12_judgeRow_226 : decode cX12_judgeRow 226 = .ok (.lmul, 1) := by decide +kernel
theorem dX12_judgeRow_227 : decode cX12_judgeRow 227 = .ok (.aload_n 0, 1) := by decide +kernel
theorem dX12_judgeRow_228 : decode cX12_judgeRow 228 = .ok (.getfield 417, 3) := by decide +kernel
theorem dX12_judgeRow_231 : decode cX12_judgeRow 231 = .ok (.aload_n 0, 1) := by decide +kernel
theorem dX12_judgeRow_232 : decode cX12_judgeRow 232 = .ok (.getfield 393, 3) := by decide +kernel
theorem dX12_judgeRow_235 : decode cX12_judgeRow 235 = .ok (.lmul, 1) := by decide +kernel
theorem dX12_judgeRow_236 : decode cX12_judgeRow 236 = .ok (.lcmp, 1) := by decide +kernel
theorem dX12_judgeRow_237 : decode cX12_judgeRow 237 = .ok (.ifCond .lt 4, 3) := by decide +kernel
theorem dX12_judgeRow_240 : decode cX12_judgeRow 240 = .ok (.return_, 1) := by decide +kernel
theorem dX12_judgeRow_241 : decode cX12_judgeRow 241 = .ok (.aload_n 0, 1) := by decide +kernel
theorem dX12_judgeRow_242 : decode cX12_judgeRow 242 = .ok (.iconst 1, 1) := by decide +kernel
theorem dX12_judgeRow_243 : decode cX12_judgeRow 243 = .ok (.putfield 411, 3) := by decide +kernel
theorem dX12_judgeRow_246 : decode cX12_judgeRow 246 = .ok (.aload_n 0, 1) := by decide +kernel
theorem dX12_judgeRow_247 : decode cX12_judgeRow 247 = .ok (.aload_n 0, 1) := by decide +kernel
theorem dX12_judgeRow_248 : decode cX12_judgeRow 248 = .ok (.getfield 390, 3) := by decide +kernel
theorem dX12_judgeRow_251 : decode cX12_judgeRow 251 = .ok (.putfield 417, 3) := by decide +kernel
theorem dX12_judgeRow_254 : decode cX12_judgeRow 254 = .ok (.aload_n 0, 1) := by decide +kernel
theorem dX12_judgeRow_255 : decode cX12_judgeRow 255 = .ok (.aload_n 0, 1) := by decide +kernel
theorem dX12_judgeRow_256 : decode cX12_judgeRow 256 = .ok (.getfield 393, 3) := by decide +kernel
theorem dX12_judgeRow_259 : decode cX12_judgeRow 259 = .ok (.putfield 414, 3) := by decide +kernel
theorem dX12_judgeRow_262 : decode cX12_judgeRow 262 = .ok (.iconst 0, 1) := by decide +kernel
theorem dX12_judgeRow_263 : decode cX12_judgeRow 263 = .ok (.istore 5, 2) := by decide +kernel
theorem dX12_judgeRow_265 : decode cX12_judgeRow 265 = .ok (.iload 5, 2) := by decide +kernel
theorem dX12_judgeRow_267 : decode cX12_judgeRow 267 = .ok (.iload_n 1, 1) := by decide +kernel
theorem dX12_judgeRow_268 : decode cX12_judgeRow 268 = .ok (.if_icmp .ge 23, 3) := by decide +kernel
theorem dX12_judgeRow_271 : decode cX12_judgeRow 271 = .ok (.aload_n 0, 1) := by decide +kernel
theorem dX12_judgeRow_272 : decode cX12_judgeRow 272 = .ok (.getfield 75, 3) := by decide +kernel
theorem dX12_judgeRow_275 : decode cX12_judgeRow 275 = .ok (.iload 5, 2) := by decide +kernel
theorem dX12_judgeRow_277 : decode cX12_judgeRow 277 = .ok (.aload_n 0, 1) := by decide +kernel
theorem dX12_judgeRow_278 : decode cX12_judgeRow 278 = .ok (.getfield 44, 3) := by decide +kernel
theorem dX12_judgeRow_281 : decode cX12_judgeRow 281 = .ok (.iload 5, 2) := by decide +kernel
theorem dX12_judgeRow_283 : decode cX12_judgeRow 283 = .ok (.iaload, 1) := by decide +kernel
theorem dX12_judgeRow_284 : decode cX12_judgeRow 284 = .ok (.iastore, 1) := by decide +kernel
theorem dX12_judgeRow_285 : decode cX12_judgeRow 285 = .ok (.iinc 5 1, 3) := by decide +kernel
theorem dX12_judgeRow_288 : decode cX12_judgeRow 288 = .ok (.goto (-23), 3) := by decide +kernel
theorem dX12_judgeRow_291 : decode cX12_judgeRow 291 = .ok (.return_, 1) := by decide +kernel
theorem dX12_key_0 : decode cX12_key 0 = .ok (.aload_n 0, 1) := by decide +kernel
theorem dX12_key_1 : decode cX12_key 1 = .ok (.iconst 0, 1) := by decide +kernel
theorem dX12_key_2 : decode cX12_key 2 = .ok (.putfield 82, 3) := by decide +kernel
theorem dX12_key_5 : decode cX12_key 5 = .ok (.aload_n 0, 1) := by decide +kernel
theorem dX12_key_6 : decode cX12_key 6 = .ok (.iconst 0, 1) := by decide +kernel
theorem dX12_key_7 : decode cX12_key 7 = .ok (.putfield 85, 3) := by decide +kernel
theorem dX12_key_10 : decode cX12_key 10 = .ok (.aload_n 0, 1) := by decide +kernel
theorem dX12_key_11 : decode cX12_key 11 = .ok (.iload_n 1, 1) := by decide +kernel
theorem dX12_key_12 : decode cX12_key 12 = .ok (.i2l, 1) := by decide +kernel
theorem dX12_key_13 : decode cX12_key 13 = .ok (.invokevirtual 275, 3) := by decide +kernel
theorem dX12_key_16 : decode cX12_key 16 = .ok (.ifCond .ne 9, 3) := by decide +kernel
theorem dX12_key_19 : decode cX12_key 19 = .ok (.aload_n 0, 1) := by decide +kernel
theorem dX12_key_20 : decode cX12_key 20 = .ok (.iconst 2, 1) := by decide +kernel
theorem dX12_key_21 : decode cX12_key 21 = .ok (.invokevirtual 269, 3) := by decide +kernel
theorem dX12_key_24 : decode cX12_key 24 = .ok (.ireturn, 1) := by decide +kernel
theorem dX12_key_25 : decode cX12_key 25 = .ok (.iload_n 2, 1) := by decide +kernel
theorem dX12_key_26 : decode cX12_key 26 = .ok (.i2l, 1) := by decide +kernel
theorem dX12_key_27 : decode cX12_key 27 = .ok (.lconst 0, 1) := by decide +kernel
theorem dX12_key_28 : decode cX12_key 28 = .ok (.ldc2_w 281, 3) := by decide +kernel
theorem dX12_key_31 : decode cX12_key 31 = .ok (.invokestatic 117, 3) := by decide +kernel
theorem dX12_key_34 : decode cX12_key 34 = .ok (.ifCond .ne 9, 3) := by decide +kernel
theorem dX12_key_37 : decode cX12_key 37 = .ok (.aload_n 0, 1) := by decide +kernel
theorem dX12_key_38 : decode cX12_key 38 = .ok (.iconst 5, 1) := by decide +kernel
theorem dX12_key_39 : decode cX12_key 39 = .ok (.invokevirtual 269, 3) := by decide +kernel
theorem dX12_key_42 : decode cX12_key 42 = .ok (.ireturn, 1) := by decide +kernel
theorem dX12_key_43 : decode cX12_key 43 = .ok (.iload_n 2, 1) := by decide +kernel
theorem dX12_key_44 : decode cX12_key 44 = .ok (.iconst 2, 1) := by decide +kernel
theorem dX12_key_45 : decode cX12_key 45 = .ok (.if_icmp .ne 14, 3) := by decide +kernel
theorem dX12_key_48 : decode cX12_key 48 = .ok (.aload_n 0, 1) := by decide +kernel
theorem dX12_key_49 : decode cX12_key 49 = .ok (.getfield 35, 3) := by decide +kernel
theorem dX12_key_52 : decode cX12_key 52 = .ok (.sipush 150, 3) := by decide +kernel
theorem dX12_key_55 : decode cX12_key 55 = .ok (.iload_n 1, 1) := by decide +kernel
theorem dX12_key_56 : decode cX12_key 56 = .ok (.iadd, 1) := by decide +kernel
theorem dX12_key_57 : decode cX12_key 57 = .ok (.iaload, 1) := by decide +kernel
theorem dX12_key_58 : decode cX12_key 58 = .ok (.ireturn, 1) := by decide +kernel
theorem dX12_key_59 : decode cX12_key 59 = .ok (.aload_n 0, 1) := by decide +kernel
theorem dX12_key_60 : decode cX12_key 60 = .ok (.iload_n 1, 1) := by decide +kernel
theorem dX12_key_61 : decode cX12_key 61 = .ok (.invokevirtual 278, 3) := by decide +kernel
theorem dX12_key_64 : decode cX12_key 64 = .ok (.ifCond .ge 12, 3) := by decide +kernel
theorem dX12_key_67 : decode cX12_key 67 = .ok (.aload_n 0, 1) := by decide +kernel
theorem dX12_key_68 : decode cX12_key 68 = .ok (.bipush 8, 2) := by decide +kernel
theorem dX12_key_70 : decode cX12_key 70 = .ok (.invokevirtual 269, 3) := by decide +kernel
theorem dX12_key_73 : decode cX12_key 73 = .ok (.goto 20, 3) := by decide +kernel
theorem dX12_key_76 : decode cX12_key 76 = .ok (.iload_n 2, 1) := by decide +kernel
theorem dX12_key_77 : decode cX12_key 77 = .ok (.ifCond .ne 11, 3) := by decide +kernel
theorem dX12_key_80 : decode cX12_key 80 = .ok (.aload_n 0, 1) := by decide +kernel
theorem dX12_key_81 : decode cX12_key 81 = .ok (.iload_n 1, 1) := by decide +kernel
theorem dX12_key_82 : decode cX12_key 82 = .ok (.invokevirtual 278, 3) := by decide +kernel
theorem dX12_key_85 : decode cX12_key 85 = .ok (.goto 8, 3) := by decide +kernel
theorem dX12_key_88 : decode cX12_key 88 = .ok (.aload_n 0, 1) := by decide +kernel
theorem dX12_key_89 : decode cX12_key 89 = .ok (.iload_n 1, 1) := by decide +kernel
theorem dX12_key_90 : decode cX12_key 90 = .ok (.invokevirtual 283, 3) := by decide +kernel
theorem dX12_key_93 : decode cX12_key 93 = .ok (.ireturn, 1) := by decide +kernel
theorem dX12_known_0 : decode cX12_known 0 = .ok (.aload_n 0, 1) := by decide +kernel
theorem dX12_known_1 : decode cX12_known 1 = .ok (.iconst 0, 1) := by decide +kernel
theorem dX12_known_2 : decode cX12_known 2 = .ok (.putfield 82, 3) := by decide +kernel
theorem dX12_known_5 : decode cX12_known 5 = .ok (.aload_n 0, 1) := by decide +kernel
theorem dX12_known_6 : decode cX12_known 6 = .ok (.iconst 0, 1) := by decide +kernel
theorem dX12_known_7 : decode cX12_known 7 = .ok (.putfield 85, 3) := by decide +kernel
theorem dX12_known_10 : decode cX12_known 10 = .ok (.aload_n 0, 1) := by decide +kernel
theorem dX12_known_11 : decode cX12_known 11 = .ok (.iload_n 1, 1) := by decide +kernel
theorem dX12_known_12 : decode cX12_known 12 = .ok (.invokevirtual 289, 3) := by decide +kernel
theorem dX12_known_15 : decode cX12_known 15 = .ok (.ifCond .ne 9, 3) := by decide +kernel
theorem dX12_known_18 : decode cX12_known 18 = .ok (.aload_n 0, 1) := by decide +kernel
theorem dX12_known_19 : decode cX12_known 19 = .ok (.iconst 2, 1) := by decide +kernel
theorem dX12_known_20 : decode cX12_known 20 = .ok (.invokevirtual 269, 3) := by decide +kernel
theorem dX12_known_23 : decode cX12_known 23 = .ok (.ireturn, 1) := by decide +kernel
theorem dX12_known_24 : decode cX12_known 24 = .ok (.aload_n 0, 1) := by decide +kernel
theorem dX12_known_25 : decode cX12_known 25 = .ok (.iload_n 1, 1) := by decide +kernel
theorem dX12_known_26 : decode cX12_known 26 = .ok (.invokevirtual 292, 3) := by decide +kernel
theorem dX12_known_29 : decode cX12_known 29 = .ok (.iconst 1, 1) := by decide +kernel
theorem dX12_known_30 : decode cX12_known 30 = .ok (.istore_n 3, 1) := by decide +kernel
theorem dX12_known_31 : decode cX12_known 31 = .ok (.iload_n 3, 1) := by decide +kernel
theorem dX12_known_32 : decode cX12_known 32 = .ok (.aload_n 0, 1) := by decide +kernel
theorem dX12_known_33 : decode cX12_known 33 = .ok (.getfield 286, 3) := by decide +kernel
theorem dX12_known_36 : decode cX12_known 36 = .ok (.if_icmp .gt 20, 3) := by decide +kernel
theorem dX12_known_39 : decode cX12_known 39 = .ok (.aload_n 0, 1) := by decide +kernel
theorem dX12_known_40 : decode cX12_known 40 = .ok (.iload_n 3, 1) := by decide +kernel
theorem dX12_known_41 : decode cX12_known 41 = .ok (.iload_n 2, 1) := by decide +kernel
theorem dX12_known_42 : decode cX12_known 42 = .ok (.invokevirtual 472, 3) := by decide +kernel
theorem dX12_known_45 : decode cX12_known 45 = .ok (.ifCond .eq 5, 3) := by decide +kernel
theorem dX12_known_48 : decode cX12_known 48 = .ok (.iload_n 3, 1) := by decide +kernel
theorem dX12_known_49 : decode cX12_known 49 = .ok (.ireturn, 1) := by decide +kernel
theorem dX12_known_50 : decode cX12_known 50 = .ok (.iinc 3 1, 3) := by decide +kernel
theorem dX12_known_53 : decode cX12_known 53 = .ok (.goto (-22), 3) := by decide +kernel
theorem dX12_known_56 : decode cX12_known 56 = .ok (.aload_n 0, 1) := by decide +kernel
theorem dX12_known_57 : decode cX12_known 57 = .ok (.bipush 8, 2) := by decide +kernel
theorem dX12_known_59 : decode cX12_known 59 = .ok (.invokevirtual 269, 3) := by decide +kernel
theorem dX12_known_62 : decode cX12_known 62 = .ok (.ireturn, 1) := by decide +kernel
theorem dX12_laid_0 : decode cX12_laid 0 = .ok (.aload_n 0, 1) := by decide +kernel
theorem dX12_laid_1 : decode cX12_laid 1 = .ok (.iconst 0, 1) := by decide +kernel
theorem dX12_laid_2 : decode cX12_laid 2 = .ok (.putfield 82, 3) := by decide +kernel
theorem dX12_laid_5 : decode cX12_laid 5 = .ok (.aload_n 0, 1) := by decide +kernel
theorem dX12_laid_6 : decode cX12_laid 6 = .ok (.iconst 0, 1) := by decide +kernel
theorem dX12_laid_7 : decode cX12_laid 7 = .ok (.putfield 85, 3) := by decide +kernel
theorem dX12_laid_10 : decode cX12_laid 10 = .ok (.aload_n 0, 1) := by decide +kernel
theorem dX12_laid_11 : decode cX12_laid 11 = .ok (.iload_n 1, 1) := by decide +kernel
theorem dX12_laid_12 : decode cX12_laid 12 = .ok (.invokevirtual 289, 3) := by decide +kernel
theorem dX12_laid_15 : decode cX12_laid 15 = .ok (.ifCond .ne 9, 3) := by decide +kernel
theorem dX12_laid_18 : decode cX12_laid 18 = .ok (.aload_n 0, 1) := by decide +kernel
theorem dX12_laid_19 : decode cX12_laid 19 = .ok (.iconst 2, 1) := by decide +kernel
theorem dX12_laid_20 : decode cX12_laid 20 = .ok (.invokevirtual 269, 3) := by decide +kernel
theorem dX12_laid_23 : decode cX12_laid 23 = .ok (.ireturn, 1) := by decide +kernel
theorem dX12_laid_24 : decode cX12_laid 24 = .ok (.aload_n 0, 1) := by decide +kernel
theorem dX12_laid_25 : decode cX12_laid 25 = .ok (.iload_n 1, 1) := by decide +kernel
theorem dX12_laid_26 : decode cX12_laid 26 = .ok (.invokevirtual 292, 3) := by decide +kernel
theorem dX12_laid_29 : decode cX12_laid 29 = .ok (.aload_n 0, 1) := by decide +kernel
theorem dX12_laid_30 : decode cX12_laid 30 = .ok (.getfield 286, 3) := by decide +kernel
theorem dX12_laid_33 : decode cX12_laid 33 = .ok (.bipush 6, 2) := by decide +kernel
theorem dX12_laid_35 : decode cX12_laid 35 = .ok (.if_icmp .le 10, 3) := by decide +kernel
theorem dX12_laid_38 : decode cX12_laid 38 = .ok (.aload_n 0, 1) := by decide +kernel
theorem dX12_laid_39 : decode cX12_laid 39 = .ok (.bipush 7, 2) := by decide +kernel
theorem dX12_laid_41 : decode cX12_laid 41 = .ok (.invokevirtual 269, 3) := by decide +kernel
theorem dX12_laid_44 : decode cX12_laid 44 = .ok (.ireturn, 1) := by decide +kernel
theorem dX12_laid_45 : decode cX12_laid 45 = .ok (.aload_n 0, 1) := by decide +kernel
theorem dX12_laid_46 : decode cX12_laid 46 = .ok (.getfield 286, 3) := by decide +kernel
theorem dX12_laid_49 : decode cX12_laid 49 = .ok (.ifCond .le 9, 3) := by decide +kernel
theorem dX12_laid_52 : decode cX12_laid 52 = .ok (.aload_n 0, 1) := by decide +kernel
theorem dX12_laid_53 : decode cX12_laid 53 = .ok (.iconst 0, 1) := by decide +kernel
theorem dX12_laid_54 : decode cX12_laid 54 = .ok (.iconst 0, 1) := by decide +kernel
theorem dX12_laid_55 : decode cX12_laid 55 = .ok (.invokevirtual 396, 3) := by decide +kernel
theorem dX12_laid_58 : decode cX12_laid 58 = .ok (.aload_n 0, 1) := by decide +kernel
theorem dX12_laid_59 : decode cX12_laid 59 = .ok (.getfield 286, 3) := by decide +kernel
theorem dX12_laid_62 : decode cX12_laid 62 = .ok (.ifCond .eq 12, 3) := by decide +kernel
theorem dX12_laid_65 : decode cX12_laid 65 = .ok (.aload_n 0, 1) := by decide +kernel
theorem dX12_laid_66 : decode cX12_laid 66 = .ok (.getfield 393, 3) := by decide +kernel
theorem dX12_laid_69 : decode cX12_laid 69 = .ok (.lconst 0, 1) := by decide +kernel
theorem dX12_laid_70 : decode cX12_laid 70 = .ok (.lcmp, 1) := by decide +kernel
theorem dX12_laid_71 : decode cX12_laid 71 = .ok (.ifCond .ne 10, 3) := by decide +kernel
theorem dX12_laid_74 : decode cX12_laid 74 = .ok (.aload_n 0, 1) := by decide +kernel
theorem dX12_laid_75 : decode cX12_laid 75 = .ok (.bipush 8, 2) := by decide +kernel
theorem dX12_laid_77 : decode cX12_laid 77 = .ok (.invokevirtual 269, 3) := by decide +kernel
theorem dX12_laid_80 : decode cX12_laid 80 = .ok (.ireturn, 1) := by decide +kernel
theorem dX12_laid_81 : decode cX12_laid 81 = .ok (.aload_n 0, 1) := by decide +kernel
theorem dX12_laid_82 : decode cX12_laid 82 = .ok (.iload_n 2, 1) := by decide +kernel
theorem dX12_laid_83 : decode cX12_laid 83 = .ok (.ifCond .eq 7, 3) := by decide +kernel
theorem dX12_laid_86 : decode cX12_laid 86 = .ok (.iconst 1, 1) := by decide +kernel
theorem dX12_laid_87 : decode cX12_laid 87 = .ok (.goto 4, 3) := by decide +kernel
theorem dX12_laid_90 : decode cX12_laid 90 = .ok (.iconst 0, 1) := by decide +kernel
theorem dX12_laid_91 : decode cX12_laid 91 = .ok (.invokevirtual 435, 3) := by decide +kernel
theorem dX12_laid_94 : decode cX12_laid 94 = .ok (.aload_n 0, 1) := by decide +kernel
theorem dX12_laid_95 : decode cX12_laid 95 = .ok (.aload_n 0, 1) := by decide +kernel
theorem dX12_laid_96 : decode cX12_laid 96 = .ok (.getfield 417, 3) := by decide +kernel
theorem dX12_laid_99 : decode cX12_laid 99 = .ok (.aload_n 0, 1) := by decide +kernel
theorem dX12_laid_100 : decode cX12_laid 100 = .ok (.getfield 414, 3) := by decide +kernel
theorem dX12_laid_103 : decode cX12_laid 103 = .ok (.invokevirtual 352, 3) := by decide +kernel
theorem dX12_laid_106 : decode cX12_laid 106 = .ok (.pop, 1) := by decide +kernel
theorem dX12_laid_107 : decode cX12_laid 107 = .ok (.aload_n 0, 1) := by decide +kernel
theorem dX12_laid_108 : decode cX12_laid 108 = .ok (.getfield 50, 3) := by decide +kernel
theorem dX12_laid_111 : decode cX12_laid 111 = .ok (.iconst 0, 1) := by decide +kernel
theorem dX12_laid_112 : decode cX12_laid 112 = .ok (.iaload, 1) := by decide +kernel
theorem dX12_laid_113 : decode cX12_laid 113 = .ok (.ireturn, 1) := by decide +kernel
theorem dX12_laidForRound_0 : decode cX12_laidForRound 0 = .ok (.aload_n 0, 1) := by decide +kernel
theorem dX12_laidForRound_1 : decode cX12_laidForRound 1 = .ok (.iconst 0, 1) := by decide +kernel
theorem dX12_laidForRound_2 : decode cX12_laidForRound 2 = .ok (.putfield 82, 3) := by decide +kernel
theorem dX12_laidForRound_5 : decode cX12_laidForRound 5 = .ok (.aload_n 0, 1) := by decide +kernel
theorem dX12_laidForRound_6 : decode cX12_laidForRound 6 = .ok (.iconst 0, 1) := by decide +kernel
theorem dX12_laidForRound_7 : decode cX12_laidForRound 7 = .ok (.putfield 85, 3) := by decide +kernel
theorem dX12_laidForRound_10 : decode cX12_laidForRound 10 = .ok (.aload_n 0, 1) := by decide +kernel
theorem dX12_laidForRound_11 : decode cX12_laidForRound 11 = .ok (.iload_n 1, 1) := by decide +kernel
theorem dX12_laidForRound_12 : decode cX12_laidForRound 12 = .ok (.invokevirtual 289, 3) := by decide +kernel
theorem dX12_laidForRound_15 : decode cX12_laidForRound 15 = .ok (.ifCond .ne 9, 3) := by decide +kernel
theorem dX12_laidForRound_18 : decode cX12_laidForRound 18 = .ok (.aload_n 0, 1) := by decide +kernel
theorem dX12_laidForRound_19 : decode cX12_laidForRound 19 = .ok (.iconst 2, 1) := by decide +kernel
theorem dX12_laidForRound_20 : decode cX12_laidForRound 20 = .ok (.invokevirtual 269, 3) := by decide +kernel
theorem dX12_laidForRound_23 : decode cX12_laidForRound 23 = .ok (.ireturn, 1) := by decide +kernel
theorem dX12_laidForRound_24 : decode cX12_laidForRound 24 = .ok (.aload_n 0, 1) := by decide +kernel
theorem dX12_laidForRound_25 : decode cX12_laidForRound 25 = .ok (.iload_n 1, 1) := by decide +kernel
theorem dX12_laidForRound_26 : decode cX12_laidForRound 26 = .ok (.invokevirtual 292, 3) := by decide +kernel
theorem dX12_laidForRound_29 : decode cX12_laidForRound 29 = .ok (.aload_n 0, 1) := by decide +kernel
theorem dX12_laidForRound_30 : decode cX12_laidForRound 30 = .ok (.getfield 286, 3) := by decide +kernel
theorem dX12_laidForRound_33 : decode cX12_laidForRound 33 = .ok (.bipush 6, 2) := by decide +kernel
theorem dX12_laidForRound_35 : decode cX12_laidForRound 35 = .ok (.if_icmp .le 10, 3) := by decide +kernel
theorem dX12_laidForRound_38 : decode cX12_laidForRound 38 = .ok (.aload_n 0, 1) := by decide +kernel
theorem dX12_laidForRound_39 : decode cX12_laidForRound 39 = .ok (.bipush 7, 2) := by decide +kernel
theorem dX12_laidForRound_41 : decode cX12_laidForRound 41 = .ok (.invokevirtual 269, 3) := by decide +kernel
theorem dX12_laidForRound_44 : decode cX12_laidForRound 44 = .ok (.ireturn, 1) := by decide +kernel
theorem dX12_laidForRound_45 : decode cX12_laidForRound 45 = .ok (.aload_n 0, 1) := by decide +kernel
theorem dX12_laidForRound_46 : decode cX12_laidForRound 46 = .ok (.getfield 35, 3) := by decide +kernel
theorem dX12_laidForRound_49 : decode cX12_laidForRound 49 = .ok (.iconst 4, 1) := by decide +kernel
theorem dX12_laidForRound_50 : decode cX12_laidForRound 50 = .ok (.iaload, 1) := by decide +kernel
theorem dX12_laidForRound_51 : decode cX12_laidForRound 51 = .ok (.ifCond .eq 10, 3) := by decide +kernel
theorem dX12_laidForRound_54 : decode cX12_laidForRound 54 = .ok (.aload_n 0, 1) := by decide +kernel
theorem dX12_laidForRound_55 : decode cX12_laidForRound 55 = .ok (.invokevirtual 408, 3) := by decide +kernel
theorem dX12_laidForRound_58 : decode cX12_laidForRound 58 = .ok (.ifCond .ge 10, 3) := by decide +kernel
theorem dX12_laidForRound_61 : decode cX12_laidForRound 61 = .ok (.aload_n 0, 1) := by decide +kernel
theorem dX12_laidForRound_62 : decode cX12_laidForRound 62 = .ok (.bipush 8, 2) := by decide +kernel
theorem dX12_laidForRound_64 : decode cX12_laidForRound 64 = .ok (.invokevirtual 269, 3) := by decide +kernel
theorem dX12_laidForRound_67 : decode cX12_laidForRound 67 = .ok (.ireturn, 1) := by decide +kernel
theorem dX12_laidForRound_68 : decode cX12_laidForRound 68 = .ok (.aload_n 0, 1) := by decide +kernel
theorem dX12_laidForRound_69 : decode cX12_laidForRound 69 = .ok (.iconst 2, 1) := by decide +kernel
theorem dX12_laidForRound_70 : decode cX12_laidForRound 70 = .ok (.invokevirtual 435, 3) := by decide +kernel
theorem dX12_laidForRound_73 : decode cX12_laidForRound 73 = .ok (.aload_n 0, 1) := by decide +kernel
theorem dX12_laidForRound_74 : decode cX12_laidForRound 74 = .ok (.getfield 417, 3) := by decide +kernel
theorem dX12_laidForRound_77 : decode cX12_laidForRound 77 = .ok (.l2i, 1) := by decide +kernel
theorem dX12_laidForRound_78 : decode cX12_laidForRound 78 = .ok (.ireturn, 1) := by decide +kernel
theorem dX12_lay_0 : decode cX12_lay 0 = .ok (.aload_n 0, 1) := by decide +kernel
theorem dX12_lay_1 : decode cX12_lay 1 = .ok (.iconst 0, 1) := by decide +kernel
theorem dX12_lay_2 : decode cX12_lay 2 = .ok (.putfield 82, 3) := by decide +kernel
theorem dX12_lay_5 : decode cX12_lay 5 = .ok (.aload_n 0, 1) := by decide +kernel
theorem dX12_lay_6 : decode cX12_lay 6 = .ok (.iconst 0, 1) := by decide +kernel
theorem dX12_lay_7 : decode cX12_lay 7 = .ok (.putfield 85, 3) := by decide +kernel
theorem dX12_lay_10 : decode cX12_lay 10 = .ok (.aload_n 0, 1) := by decide +kernel
theorem dX12_lay_11 : decode cX12_lay 11 = .ok (.iload_n 2, 1) := by decide +kernel
theorem dX12_lay_12 : decode cX12_lay 12 = .ok (.invokevirtual 298, 3) := by decide +kernel
theorem dX12_lay_15 : decode cX12_lay 15 = .ok (.ifCond .ne 9, 3) := by decide +kernel
theorem dX12_lay_18 : decode cX12_lay 18 = .ok (.aload_n 0, 1) := by decide +kernel
theorem dX12_lay_19 : decode cX12_lay 19 = .ok (.iconst 1, 1) := by decide +kernel
theorem dX12_lay_20 : decode cX12_lay 20 = .ok (.invokevirtual 97, 3) := by decide +kernel
theorem dX12_lay_23 : decode cX12_lay 23 = .ok (.ireturn, 1) := by decide +kernel
theorem dX12_lay_24 : decode cX12_lay 24 = .ok (.aload_n 0, 1) := by decide +kernel
theorem dX12_lay_25 : decode cX12_lay 25 = .ok (.iload_n 1, 1) := by decide +kernel
theorem dX12_lay_26 : decode cX12_lay 26 = .ok (.invokevirtual 289, 3) := by decide +kernel
theorem dX12_lay_29 : decode cX12_lay 29 = .ok (.ifCond .ne 9, 3) := by decide +kernel
theorem dX12_lay_32 : decode cX12_lay 32 = .ok (.aload_n 0, 1) := by decide +kernel
theorem dX12_lay_33 : decode cX12_lay 33 = .ok (.iconst 2, 1) := by decide +kernel
theorem dX12_lay_34 : decode cX12_lay 34 = .ok (.invokevirtual 97, 3) := by decide +kernel
theorem dX12_lay_37 : decode cX12_lay 37 = .ok (.ireturn, 1) := by decide +kernel
theorem dX12_lay_38 : decode cX12_lay 38 = .ok (.aload_n 0, 1) := by decide +kernel
theorem dX12_lay_39 : decode cX12_lay 39 = .ok (.getfield 17, 3) := by decide +kernel
theorem dX12_lay_42 : decode cX12_lay 42 = .ok (.iload_n 2, 1) := by decide +kernel
theorem dX12_lay_43 : decode cX12_lay 43 = .ok (.iaload, 1) := by decide +kernel
theorem dX12_lay_44 : decode cX12_lay 44 = .ok (.ifCond .ge 9, 3) := by decide +kernel
theorem dX12_lay_47 : decode cX12_lay 47 = .ok (.aload_n 0, 1) := by decide +kernel
theorem dX12_lay_48 : decode cX12_lay 48 = .ok (.iconst 3, 1) := by decide +kernel
theorem dX12_lay_49 : decode cX12_lay 49 = .ok (.invokevirtual 97, 3) := by decide +kernel
theorem dX12_lay_52 : decode cX12_lay 52 = .ok (.ireturn, 1) := by decide +kernel
theorem dX12_lay_53 : decode cX12_lay 53 = .ok (.aload_n 0, 1) := by decide +kernel
theorem dX12_lay_54 : decode cX12_lay 54 = .ok (.getfield 35, 3) := by decide +kernel
theorem dX12_lay_57 : decode cX12_lay 57 = .ok (.bipush 95, 2) := by decide +kernel
theorem dX12_lay_59 : decode cX12_lay 59 = .ok (.iload_n 1, 1) := by decide +kernel
theorem dX12_lay_60 : decode cX12_lay 60 = .ok (.iadd, 1) := by decide +kernel
theorem dX12_lay_61 : decode cX12_lay 61 = .ok (.iaload, 1) := by decide +kernel
theorem dX12_lay_62 : decode cX12_lay 62 = .ok (.istore_n 3, 1) := by decide +kernel
theorem dX12_lay_63 : decode cX12_lay 63 = .ok (.aload_n 0, 1) := by decide +kernel
theorem dX12_lay_64 : decode cX12_lay 64 = .ok (.getfield 17, 3) := by decide +kernel
theorem dX12_lay_67 : decode cX12_lay 67 = .ok (.iload_n 2, 1) := by decide +kernel
theorem dX12_lay_68 : decode cX12_lay 68 = .ok (.iaload, 1) := by decide +kernel
theorem dX12_lay_69 : decode cX12_lay 69 = .ok (.iload_n 3, 1) := by decide +kernel
theorem dX12_lay_70 : decode cX12_lay 70 = .ok (.if_icmp .ge 9, 3) := by decide +kernel
theorem dX12_lay_73 : decode cX12_lay 73 = .ok (.aload_n 0, 1) := by decide +kernel
theorem dX12_lay_74 : decode cX12_lay 74 = .ok (.iconst 4, 1) := by decide +kernel
theorem dX12_lay_75 : decode cX12_lay 75 = .ok (.invokevirtual 97, 3) := by decide +kernel
theorem dX12_lay_78 : decode cX12_lay 78 = .ok (.ireturn, 1) := by decide +kernel
theorem dX12_lay_79 : decode cX12_lay 79 = .ok (.iconst 0, 1) := by decide +kernel
theorem dX12_lay_80 : decode cX12_lay 80 = .ok (.istore 4, 2) := by decide +kernel
theorem dX12_lay_82 : decode cX12_lay 82 = .ok (.iload 4, 2) := by decide +kernel
theorem dX12_lay_84 : decode cX12_lay 84 = .ok (.iload_n 3, 1) := by decide +kernel
theorem dX12_lay_85 : decode cX12_lay 85 = .ok (.if_icmp .ge 79, 3) := by decide +kernel
theorem dX12_lay_88 : decode cX12_lay 88 = .ok (.aload_n 0, 1) := by decide +kernel
theorem dX12_lay_89 : decode cX12_lay 89 = .ok (.iload_n 2, 1) := by decide +kernel
theorem dX12_lay_90 : decode cX12_lay 90 = .ok (.iload 4, 2) := by decide +kernel
theorem dX12_lay_92 : decode cX12_lay 92 = .ok (.invokevirtual 301, 3) := by decide +kernel
theorem dX12_lay_95 : decode cX12_lay 95 = .ok (.lstore 5, 2) := by decide +kernel
theorem dX12_lay_97 : decode cX12_lay 97 = .ok (.aload_n 0, 1) := by decide +kernel
theorem dX12_lay_98 : decode cX12_lay 98 = .ok (.lload 5, 2) := by decide +kernel
theorem dX12_lay_100 : decode cX12_lay 100 = .ok (.invokevirtual 275, 3) := by decide +kernel
theorem dX12_lay_103 : decode cX12_lay 103 = .ok (.ifCond .eq 14, 3) := by decide +kernel
theorem dX12_lay_106 : decode cX12_lay 106 = .ok (.aload_n 0, 1) := by decide +kernel
theorem dX12_lay_107 : decode cX12_lay 107 = .ok (.lload 5, 2) := by decide +kernel
theorem dX12_lay_109 : decode cX12_lay 109 = .ok (.l2i, 1) := by decide +kernel
theorem dX12_lay_110 : decode cX12_lay 110 = .ok (.invokevirtual 278, 3) := by decide +kernel
theorem dX12_lay_113 : decode cX12_lay 113 = .ok (.iload_n 1, 1) := by decide +kernel
theorem dX12_lay_114 : decode cX12_lay 114 = .ok (.if_icmp .eq 9, 3) := by decide +kernel
theorem dX12_lay_117 : decode cX12_lay 117 = .ok (.aload_n 0, 1) := by decide +kernel
theorem dX12_lay_118 : decode cX12_lay 118 = .ok (.iconst 5, 1) := by decide +kernel
theorem dX12_lay_119 : decode cX12_lay 119 = .ok (.invokevirtual 97, 3) := by decide +kernel
theorem dX12_lay_122 : decode cX12_lay 122 = .ok (.ireturn, 1) := by decide +kernel
theorem dX12_lay_123 : decode cX12_lay 123 = .ok (.iconst 0, 1) := by decide +kernel
theorem dX12_lay_124 : decode cX12_lay 124 = .ok (.istore 7, 2) := by decide +kernel
theorem dX12_lay_126 : decode cX12_lay 126 = .ok (.iload 7, 2) := by decide +kernel
theorem dX12_lay_128 : decode cX12_lay 128 = .ok (.iload 4, 2) := by decide +kernel
theorem dX12_lay_130 : decode cX12_lay 130 = .ok (.if_icmp .ge 28, 3) := by decide +kernel
theorem dX12_lay_133 : decode cX12_lay 133 = .ok (.aload_n 0, 1) := by decide +kernel
theorem dX12_lay_134 : decode cX12_lay 134 = .ok (.iload_n 2, 1) := by decide +kernel
theorem dX12_lay_135 : decode cX12_lay 135 = .ok (.iload 7, 2) := by decide +kernel
theorem dX12_lay_137 : decode cX12_lay 137 = .ok (.invokevirtual 301, 3) := by decide +kernel
theorem dX12_lay_140 : decode cX12_lay 140 = .ok (.lload 5, 2) := by decide +kernel
theorem dX12_lay_142 : decode cX12_lay 142 = .ok (.lcmp, 1) := by decide +kernel
theorem dX12_lay_143 : decode cX12_lay 143 = .ok (.ifCond .ne 9, 3) := by decide +kernel
theorem dX12_lay_146 : decode cX12_lay 146 = .ok (.aload_n 0, 1) := by decide +kernel
theorem dX12_lay_147 : decode cX12_lay 147 = .ok (.iconst 5, 1) := by decide +kernel
theorem dX12_lay_148 : decode cX12_lay 148 = .ok (.invokevirtual 97, 3) := by decide +kernel
theorem dX12_lay_151 : decode cX12_lay 151 = .ok (.ireturn, 1) := by decide +kernel
theorem dX12_lay_152 : decode cX12_lay 152 = .ok (.iinc 7 1, 3) := by decide +kernel
theorem dX12_lay_155 : decode cX12_lay 155 = .ok (.goto (-29), 3) := by decide +kernel
theorem dX12_lay_158 : decode cX12_lay 158 = .ok (.iinc 4 1, 3) := by decide +kernel
theorem dX12_lay_161 : decode cX12_lay 161 = .ok (.goto (-79), 3) := by decide +kernel
theorem dX12_lay_164 : decode cX12_lay 164 = .ok (.iconst 0, 1) := by decide +kernel
theorem dX12_lay_165 : decode cX12_lay 165 = .ok (.istore 4, 2) := by decide +kernel
theorem dX12_lay_167 : decode cX12_lay 167 = .ok (.iload 4, 2) := by decide +kernel
theorem dX12_lay_169 : decode cX12_lay 169 = .ok (.iload_n 3, 1) := by decide +kernel
theorem dX12_lay_170 : decode cX12_lay 170 = .ok (.if_icmp .ge 32, 3) := by decide +kernel
theorem dX12_lay_173 : decode cX12_lay 173 = .ok (.aload_n 0, 1) := by decide +kernel
theorem dX12_lay_174 : decode cX12_lay 174 = .ok (.getfield 35, 3) := by decide +kernel
theorem dX12_lay_177 : decode cX12_lay 177 = .ok (.bipush 98, 2) := by decide +kernel
theorem dX12_lay_179 : decode cX12_lay 179 = .ok (.bipush 10, 2) := by decide +kernel
theorem dX12_lay_181 : decode cX12_lay 181 = .ok (.iload_n 1, 1) := by decide +kernel
theorem dX12_lay_182 : decode cX12_lay 182 = .ok (.imul, 1) := by decide +kernel
theorem dX12_lay_183 : decode cX12_lay 183 = .ok (.iadd, 1) := by decide +kernel
theorem dX12_lay_184 : decode cX12_lay 184 = .ok (.iload 4, 2) := by decide +kernel
theorem dX12_lay_186 : decode cX12_lay 186 = .ok (.iadd, 1) := by decide +kernel
theorem dX12_lay_187 : decode cX12_lay 187 = .ok (.aload_n 0, 1) := by decide +kernel
theorem dX12_lay_188 : decode cX12_lay 188 = .ok (.iload_n 2, 1) := by decide +kernel
theorem dX12_lay_189 : decode cX12_lay 189 = .ok (.iload 4, 2) := by decide +kernel
theorem dX12_lay_191 : decode cX12_lay 191 = .ok (.invokevirtual 301, 3) := by decide +kernel
theorem dX12_lay_194 : decode cX12_lay 194 = .ok (.l2i, 1) := by decide +kernel
theorem dX12_lay_195 : decode cX12_lay 195 = .ok (.iastore, 1) := by decide +kernel
theorem dX12_lay_196 : decode cX12_lay 196 = .ok (.iinc 4 1, 3) := by decide +kernel
theorem dX12_lay_199 : decode cX12_lay 199 = .ok (.goto (-32), 3) := by decide +kernel
theorem dX12_lay_202 : decode cX12_lay 202 = .ok (.aload_n 0, 1) := by decide +kernel
theorem dX12_lay_203 : decode cX12_lay 203 = .ok (.iload_n 1, 1) := by decide +kernel
theorem dX12_lay_204 : decode cX12_lay 204 = .ok (.invokevirtual 305, 3) := by decide +kernel
theorem dX12_lay_207 : decode cX12_lay 207 = .ok (.iconst 1, 1) := by decide +kernel
theorem dX12_lay_208 : decode cX12_lay 208 = .ok (.ireturn, 1) := by decide +kernel
theorem dX12_layByte_0 : decode cX12_layByte 0 = .ok (.iconst 3, 1) := by decide +kernel
theorem dX12_layByte_1 : decode cX12_layByte 1 = .ok (.istore_n 2, 1) := by decide +kernel
theorem dX12_layByte_2 : decode cX12_layByte 2 = .ok (.iload_n 2, 1) := by decide +kernel
theorem dX12_layByte_3 : decode cX12_layByte 3 = .ok (.ifCond .lt 35, 3) := by decide +kernel
theorem dX12_layByte_6 : decode cX12_layByte 6 = .ok (.aload_n 0, 1) := by decide +kernel
theorem dX12_layByte_7 : decode cX12_layByte 7 = .ok (.getfield 24, 3) := by decide +kernel
theorem dX12_layByte_10 : decode cX12_layByte 10 = .ok (.aload_n 0, 1) := by decide +kernel
theorem dX12_layByte_11 : decode cX12_layByte 11 = .ok (.getfield 190, 3) := by decide +kernel
theorem dX12_layByte_14 : decode cX12_layByte 14 = .ok (.iload_n 1, 1) := by decide +kernel
theorem dX12_layByte_15 : decode cX12_layByte 15 = .ok (.bipush 8, 2) := by decide +kernel
theorem dX12_layByte_17 : decode cX12_layByte 17 = .ok (.iload_n 2, 1) := by decide +kernel
theorem dX12_layByte_18 : decode cX12_layByte 18 = .ok (.imul, 1) := by decide +kernel
theorem dX12_layByte_19 : decode cX12_layByte 19 = .ok (.ishr, 1) := by decide +kernel
theorem dX12_layByte_20 : decode cX12_layByte 20 = .ok (.i2b, 1) := by decide +kernel
theorem dX12_layByte_21 : decode cX12_layByte 21 = .ok (.bastore, 1) := by decide +kernel
theorem dX12_layByte_22 : decode cX12_layByte 22 = .ok (.aload_n 0, 1) := by decide +kernel
theorem dX12_layByte_23 : decode cX12_layByte 23 = .ok (.dup, 1) := by decide +kernel
theorem dX12_layByte_24 : decode cX12_layByte 24 = .ok (.getfield 190, 3) := by decide +kernel
theorem dX12_layByte_27 : decode cX12_layByte 27 = .ok (.iconst 1, 1) := by decide +kernel
theorem dX12_layByte_28 : decode cX12_layByte 28 = .ok (.iadd, 1) := by decide +kernel
theorem dX12_layByte_29 : decode cX12_layByte 29 = .ok (.putfield 190, 3) := by decide +kernel
theorem dX12_layByte_32 : decode cX12_layByte 32 = .ok (.iinc 2 (-1), 3) := by decide +kernel
theorem dX12_layByte_35 : decode cX12_layByte 35 = .ok (.goto (-33), 3) := by decide +kernel
theorem dX12_layByte_38 : decode cX12_layByte 38 = .ok (.return_, 1) := by decide +kernel
theorem dX12_lend_0 : decode cX12_lend 0 = .ok (.aload_n 0, 1) := by decide +kernel
theorem dX12_lend_1 : decode cX12_lend 1 = .ok (.iconst 0, 1) := by decide +kernel
theorem dX12_lend_2 : decode cX12_lend 2 = .ok (.putfield 82, 3) := by decide +kernel
theorem dX12_lend_5 : decode cX12_lend 5 = .ok (.aload_n 0, 1) := by decide +kernel
theorem dX12_lend_6 : decode cX12_lend 6 = .ok (.iconst 0, 1) := by decide +kernel
theorem dX12_lend_7 : decode cX12_lend 7 = .ok (.putfield 85, 3) := by decide +kernel
theorem dX12_lend_10 : decode cX12_lend 10 = .ok (.aload_n 0, 1) := by decide +kernel
theorem dX12_lend_11 : decode cX12_lend 11 = .ok (.iload_n 1, 1) := by decide +kernel
theorem dX12_lend_12 : decode cX12_lend 12 = .ok (.i2l, 1) := by decide +kernel
theorem dX12_lend_13 : decode cX12_lend 13 = .ok (.invokevirtual 275, 3) := by decide +kernel
theorem dX12_lend_16 : decode cX12_lend 16 = .ok (.ifCond .ne 9, 3) := by decide +kernel
theorem dX12_lend_19 : decode cX12_lend 19 = .ok (.aload_n 0, 1) := by decide +kernel
theorem dX12_lend_20 : decode cX12_lend 20 = .ok (.iconst 2, 1) := by decide +kernel
theorem dX12_lend_21 : decode cX12_lend 21 = .ok (.invokevirtual 97, 3) := by decide +kernel
theorem dX12_lend_24 : decode cX12_lend 24 = .ok (.ireturn, 1) := by decide +kernel
theorem dX12_lend_25 : decode cX12_lend 25 = .ok (.aload_n 0, 1) := by decide +kernel
theorem dX12_lend_26 : decode cX12_lend 26 = .ok (.getfield 35, 3) := by decide +kernel
theorem dX12_lend_29 : decode cX12_lend 29 = .ok (.sipush 150, 3) := by decide +kernel
theorem dX12_lend_32 : decode cX12_lend 32 = .ok (.iload_n 1, 1) := by decide +kernel
theorem dX12_lend_33 : decode cX12_lend 33 = .ok (.iadd, 1) := by decide +kernel
theorem dX12_lend_34 : decode cX12_lend 34 = .ok (.iload_n 2, 1) := by decide +kernel
theorem dX12_lend_35 : decode cX12_lend 35 = .ok (.ifCond .eq 7, 3) := by decide +kernel
theorem dX12_lend_38 : decode cX12_lend 38 = .ok (.iconst 1, 1) := by decide +kernel
theorem dX12_lend_39 : decode cX12_lend 39 = .ok (.goto 4, 3) := by decide +kernel
theorem dX12_lend_42 : decode cX12_lend 42 = .ok (.iconst 0, 1) := by decide +kernel
theorem dX12_lend_43 : decode cX12_lend 43 = .ok (.iastore, 1) := by decide +kernel
theorem dX12_lend_44 : decode cX12_lend 44 = .ok (.aload_n 0, 1) := by decide +kernel
theorem dX12_lend_45 : decode cX12_lend 45 = .ok (.iload_n 1, 1) := by decide +kernel
theorem dX12_lend_46 : decode cX12_lend 46 = .ok (.invokevirtual 278, 3) := by decide +kernel
theorem dX12_lend_49 : decode cX12_lend 49 = .ok (.ifCond .lt 12, 3) := by decide +kernel
theorem dX12_lend_52 : decode cX12_lend 52 = .ok (.aload_n 0, 1) := by decide +kernel
theorem dX12_lend_53 : decode cX12_lend 53 = .ok (.aload_n 0, 1) := by decide +kernel
theorem dX12_lend_54 : decode cX12_lend 54 = .ok (.iload_n 1, 1) := by decide +kernel
theorem dX12_lend_55 : decode cX12_lend 55 = .ok (.invokevirtual 278, 3) := by decide +kernel
theorem dX12_lend_58 : decode cX12_lend 58 = .ok (.invokevirtual 305, 3) := by decide +kernel
theorem dX12_lend_61 : decode cX12_lend 61 = .ok (.iconst 1, 1) := by decide +kernel
theorem dX12_lend_62 : decode cX12_lend 62 = .ok (.ireturn, 1) := by decide +kernel
theorem dX12_letGo_0 : decode cX12_letGo 0 = .ok (.aload_n 0, 1) := by decide +kernel
theorem dX12_letGo_1 : decode cX12_letGo 1 = .ok (.getfield 35, 3) := by decide +kernel
theorem dX12_letGo_4 : decode cX12_letGo 4 = .ok (.bipush 10, 2) := by decide +kernel
theorem dX12_letGo_6 : decode cX12_letGo 6 = .ok (.iaload, 1) := by decide +kernel
theorem dX12_letGo_7 : decode cX12_letGo 7 = .ok (.iload_n 1, 1) := by decide +kernel
theorem dX12_letGo_8 : decode cX12_letGo 8 = .ok (.if_icmp .ne 11, 3) := by decide +kernel
theorem dX12_letGo_11 : decode cX12_letGo 11 = .ok (.aload_n 0, 1) := by decide +kernel
theorem dX12_letGo_12 : decode cX12_letGo 12 = .ok (.getfield 35, 3) := by decide +kernel
theorem dX12_letGo_15 : decode cX12_letGo 15 = .ok (.bipush 10, 2) := by decide +kernel
theorem dX12_letGo_17 : decode cX12_letGo 17 = .ok (.iconst (-1), 1) := by decide +kernel
theorem dX12_letGo_18 : decode cX12_letGo 18 = .ok (.iastore, 1) := by decide +kernel
theorem dX12_letGo_19 : decode cX12_letGo 19 = .ok (.return_, 1) := by decide +kernel
theorem dX12_look2_0 : decode cX12_look2 0 = .ok (.iload_n 1, 1) := by decide +kernel
theorem dX12_look2_1 : decode cX12_look2 1 = .ok (.aload_n 0, 1) := by decide +kernel
theorem dX12_look2_2 : decode cX12_look2 2 = .ok (.getfield 121, 3) := by decide +kernel
theorem dX12_look2_5 : decode cX12_look2 5 = .ok (.if_icmp .ge 16, 3) := by decide +kernel
theorem dX12_look2_8 : decode cX12_look2 8 = .ok (.aload_n 0, 1) := by decide +kernel
theorem dX12_look2_9 : decode cX12_look2 9 = .ok (.getfield 24, 3) := by decide +kernel
theorem dX12_look2_12 : decode cX12_look2 12 = .ok (.iload_n 1, 1) := by decide +kernel
theorem dX12_look2_13 : decode cX12_look2 13 = .ok (.baload, 1) := by decide +kernel
theorem dX12_look2_14 : decode cX12_look2 14 = .ok (.sipush 255, 3) := by decide +kernel
theorem dX12_look2_17 : decode cX12_look2 17 = .ok (.iand, 1) := by decide +kernel
theorem dX12_look2_18 : decode cX12_look2 18 = .ok (.goto 4, 3) := by decide +kernel
theorem dX12_look2_21 : decode cX12_look2 21 = .ok (.iconst 0, 1) := by decide +kernel
theorem dX12_look2_22 : decode cX12_look2 22 = .ok (.ireturn, 1) := by decide +kernel
theorem dX12_many_0 : decode cX12_many 0 = .ok (.aload_n 0, 1) := by decide +kernel
theorem dX12_many_1 : decode cX12_many 1 = .ok (.iconst 0, 1) := by decide +kernel
theorem dX12_many_2 : decode cX12_many 2 = .ok (.putfield 82, 3) := by decide +kernel
theorem dX12_many_5 : decode cX12_many 5 = .ok (.aload_n 0, 1) := by decide +kernel
theorem dX12_many_6 : decode cX12_many 6 = .ok (.iconst 0, 1) := by decide +kernel
theorem dX12_many_7 : decode cX12_many 7 = .ok (.putfield 85, 3) := by decide +kernel
theorem dX12_many_10 : decode cX12_many 10 = .ok (.iload_n 1, 1) := by decide +kernel
theorem dX12_many_11 : decode cX12_many 11 = .ok (.i2l, 1) := by decide +kernel
theorem dX12_many_12 : decode cX12_many 12 = .ok (.lconst 0, 1) := by decide +kernel
theorem dX12_many_13 : decode cX12_many 13 = .ok (.ldc2_w 267, 3) := by decide +kernel
theorem dX12_many_16 : decode cX12_many 16 = .ok (.invokestatic 117, 3) := by decide +kernel
theorem dX12_many_19 : decode cX12_many 19 = .ok (.ifCond .eq 12, 3) := by decide +kernel
theorem dX12_many_22 : decode cX12_many 22 = .ok (.aload_n 0, 1) := by decide +kernel
theorem dX12_many_23 : decode cX12_many 23 = .ok (.getfield 35, 3) := by decide +kernel
theorem dX12_many_26 : decode cX12_many 26 = .ok (.iload_n 1, 1) := by decide +kernel
theorem dX12_many_27 : decode cX12_many 27 = .ok (.iaload, 1) := by decide +kernel
theorem dX12_many_28 : decode cX12_many 28 = .ok (.goto 8, 3) := by decide +kernel
theorem dX12_many_31 : decode cX12_many 31 = .ok (.aload_n 0, 1) := by decide +kernel
theorem dX12_many_32 : decode cX12_many 32 = .ok (.iconst 5, 1) := by decide +kernel
theorem dX12_many_33 : decode cX12_many 33 = .ok (.invokevirtual 269, 3) := by decide +kernel
theorem dX12_many_36 : decode cX12_many 36 = .ok (.ireturn, 1) := by decide +kernel
theorem dX12_mark_0 : decode cX12_mark 0 = .ok (.aload_n 0, 1) := by decide +kernel
theorem dX12_mark_1 : decode cX12_mark 1 = .ok (.iconst 0, 1) := by decide +kernel
theorem dX12_mark_2 : decode cX12_mark 2 = .ok (.putfield 82, 3) := by decide +kernel
theorem dX12_mark_5 : decode cX12_mark 5 = .ok (.aload_n 0, 1) := by decide +kernel
theorem dX12_mark_6 : decode cX12_mark 6 = .ok (.iconst 0, 1) := by decide +kernel
theorem dX12_mark_7 : decode cX12_mark 7 = .ok (.putfield 85, 3) := by decide +kernel
theorem dX12_mark_10 : decode cX12_mark 10 = .ok (.aload_n 0, 1) := by decide +kernel
theorem dX12_mark_11 : decode cX12_mark 11 = .ok (.getfield 594, 3) := by decide +kernel
theorem dX12_mark_14 : decode cX12_mark 14 = .ok (.iconst 3, 1) := by decide +kernel
theorem dX12_mark_15 : decode cX12_mark 15 = .ok (.if_icmp .ne 10, 3) := by decide +kernel
theorem dX12_mark_18 : decode cX12_mark 18 = .ok (.aload_n 0, 1) := by decide +kernel
theorem dX12_mark_19 : decode cX12_mark 19 = .ok (.bipush 7, 2) := by decide +kernel
theorem dX12_mark_21 : decode cX12_mark 21 = .ok (.invokevirtual 269, 3) := by decide +kernel
theorem dX12_mark_24 : decode cX12_mark 24 = .ok (.ireturn, 1) := by decide +kernel
theorem dX12_mark_25 : decode cX12_mark 25 = .ok (.aload_n 0, 1) := by decide +kernel
theorem dX12_mark_26 : decode cX12_mark 26 = .ok (.dup, 1) := by decide +kernel
theorem dX12_mark_27 : decode cX12_mark 27 = .ok (.getfield 594, 3) := by decide +kernel
theorem dX12_mark_30 : decode cX12_mark 30 = .ok (.iconst 1, 1) := by decide +kernel
theorem dX12_mark_31 : decode cX12_mark 31 = .ok (.iadd, 1) := by decide +kernel
theorem dX12_mark_32 : decode cX12_mark 32 = .ok (.putfield 594, 3) := by decide +kernel
theorem dX12_mark_35 : decode cX12_mark 35 = .ok (.aload_n 0, 1) := by decide +kernel
theorem dX12_mark_36 : decode cX12_mark 36 = .ok (.iconst 0, 1) := by decide +kernel
theorem dX12_mark_37 : decode cX12_mark 37 = .ok (.aload_n 0, 1) := by decide +kernel
theorem dX12_mark_38 : decode cX12_mark 38 = .ok (.getfield 594, 3) := by decide +kernel
theorem dX12_mark_41 : decode cX12_mark 41 = .ok (.invokevirtual 597, 3) := by decide +kernel
theorem dX12_mark_44 : decode cX12_mark 44 = .ok (.aload_n 0, 1) := by decide +kernel
theorem dX12_mark_45 : decode cX12_mark 45 = .ok (.getfield 594, 3) := by decide +kernel
theorem dX12_mark_48 : decode cX12_mark 48 = .ok (.ireturn, 1) := by decide +kernel
theorem dX12_meanAnywhere_0 : decode cX12_meanAnywhere 0 = .ok (.lconst 0, 1) := by decide +kernel
theorem dX12_meanAnywhere_1 : decode cX12_meanAnywhere 1 = .ok (.lstore_n 1, 1) := by decide +kernel
theorem dX12_meanAnywhere_2 : decode cX12_meanAnywhere 2 = .ok (.lconst 0, 1) := by decide +kernel
theorem dX12_meanAnywhere_3 : decode cX12_meanAnywhere 3 = .ok (.lstore_n 3, 1) := by decide +kernel
theorem dX12_meanAnywhere_4 : decode cX12_meanAnywhere 4 = .ok (.iconst 0, 1) := by decide +kernel
theorem dX12_meanAnywhere_5 : decode cX12_meanAnywhere 5 = .ok (.istore 5, 2) := by decide +kernel
theorem dX12_meanAnywhere_7 : decode cX12_meanAnywhere 7 = .ok (.iload 5, 2) := by decide +kernel
theorem dX12_meanAnywhere_9 : decode cX12_meanAnywhere 9 = .ok (.iconst 2, 1) := by decide +kernel
theorem dX12_meanAnywhere_10 : decode cX12_meanAnywhere 10 = .ok (.aload_n 0, 1) := by decide +kernel
theorem dX12_meanAnywhere_11 : decode cX12_meanAnywhere 11 = .ok (.getfield 286, 3) := by decide +kernel
theorem dX12_meanAnywhere_14 : decode cX12_meanAnywhere 14 = .ok (.imul, 1) := by decide +kernel
theorem dX12_meanAnywhere_15 : decode cX12_meanAnywhere 15 = .ok (.if_icmp .ge 62, 3) := by decide +kernel
theorem dX12_meanAnywhere_18 : decode cX12_meanAnywhere 18 = .ok (.aload_n 0, 1) := by decide +kernel
theorem dX12_meanAnywhere_19 : decode cX12_meanAnywhere 19 = .ok (.iload 5, 2) := by decide +kernel
theorem dX12_meanAnywhere_21 : decode cX12_meanAnywhere 21 = .ok (.iconst 2, 1) := by decide +kernel
theorem dX12_meanAnywhere_22 : decode cX12_meanAnywhere 22 = .ok (.idiv, 1) := by decide +kernel
theorem dX12_meanAnywhere_23 : decode cX12_meanAnywhere 23 = .ok (.iload 5, 2) := by decide +kernel
theorem dX12_meanAnywhere_25 : decode cX12_meanAnywhere 25 = .ok (.iconst 2, 1) := by decide +kernel
theorem dX12_meanAnywhere_26 : decode cX12_meanAnywhere 26 = .ok (.irem, 1) := by decide +kernel
theorem dX12_meanAnywhere_27 : decode cX12_meanAnywhere 27 = .ok (.invokevirtual 396, 3) := by decide +kernel
theorem dX12_meanAnywhere_30 : decode cX12_meanAnywhere 30 = .ok (.lload_n 1, 1) := by decide +kernel
theorem dX12_meanAnywhere_31 : decode cX12_meanAnywhere 31 = .ok (.iload 5, 2) := by decide +kernel
theorem dX12_meanAnywhere_33 : decode cX12_meanAnywhere 33 = .ok (.iconst 2, 1) := by decide +kernel
theorem dX12_meanAnywhere_34 : decode cX12_meanAnywhere 34 = .ok (.irem, 1) := by decide +kernel
theorem dX12_meanAnywhere_35 : decode cX12_meanAnywhere 35 = .ok (.ifCond .ne 16, 3) := by decide +kernel
theorem dX12_meanAnywhere_38 : decode cX12_meanAnywhere 38 = .ok (.bipush 16, 2) := by decide +kernel
theorem dX12_meanAnywhere_40 : decode cX12_meanAnywhere 40 = .ok (.aload_n 0, 1) := by decide +kernel
theorem dX12_meanAnywhere_41 : decode cX12_meanAnywhere 41 = .ok (.getfield 35, 3) := by decide +kernel
theorem dX12_meanAnywhere_44 : decode cX12_meanAnywhere 44 = .ok (.bipush 9, 2) := by decide +kernel
theorem dX12_meanAnywhere_46 : decode cX12_meanAnywhere 46 = .ok (.iaload, 1) := by decide +kernel
theorem dX12_meanAnywhere_47 : decode cX12_meanAnywhere 47 = .ok (.isub, 1) := by decide +kernel
theorem dX12_meanAnywhere_48 : decode cX12_meanAnywhere 48 = .ok (.goto 10, 3) := by decide +kernel
theorem dX12_meanAnywhere_51 : decode cX12_meanAnywhere 51 = .ok (.aload_n 0, 1) := by decide +kernel
theorem dX12_meanAnywhere_52 : decode cX12_meanAnywhere 52 = .ok (.getfield 35, 3) := by decide +kernel
theorem dX12_meanAnywhere_55 : decode cX12_meanAnywhere 55 = .ok (.bipush 9, 2) := by decide +kernel
theorem dX12_meanAnywhere_57 : decode cX12_meanAnywhere 57 = .ok (.iaload, 1) := by decide +kernel
theorem dX12_meanAnywhere_58 : decode cX12_meanAnywhere 58 = .ok (.i2l, 1) := by decide +kernel
theorem dX12_meanAnywhere_59 : decode cX12_meanAnywhere 59 = .ok (.aload_n 0, 1) := by decide +kernel
theorem dX12_meanAnywhere_60 : decode cX12_meanAnywhere 60 = .ok (.getfield 390, 3) := by decide +kernel
theorem dX12_meanAnywhere_63 : decode cX12_meanAnywhere 63 = .ok (.lmul, 1) := by decide +kernel
theorem dX12_meanAnywhere_64 : decode cX12_meanAnywhere 64 = .ok (.ladd, 1) := by decide +kernel
theorem dX12_meanAnywhere_65 : decode cX12_meanAnywhere 65 = .ok (.lstore_n 1, 1) := by decide +kernel
theorem dX12_meanAnywhere_66 : decode cX12_meanAnywhere 66 = .ok (.aload_n 0, 1) := by decide +kernel
theorem dX12_meanAnywhere_67 : decode cX12_meanAnywhere 67 = .ok (.getfield 393, 3) := by decide +kernel
theorem dX12_meanAnywhere_70 : decode cX12_meanAnywhere 70 = .ok (.lstore_n 3, 1) := by decide +kernel
theorem dX12_meanAnywhere_71 : decode cX12_meanAnywhere 71 = .ok (.iinc 5 1, 3) := by decide +kernel
theorem dX12_meanAnywhere_74 : decode cX12_meanAnywhere 74 = .ok (.goto (-67), 3) := by decide +kernel
theorem dX12_meanAnywhere_77 : decode cX12_meanAnywhere 77 = .ok (.aload_n 0, 1) := by decide +kernel
theorem dX12_meanAnywhere_78 : decode cX12_meanAnywhere 78 = .ok (.lload_n 1, 1) := by decide +kernel
theorem dX12_meanAnywhere_79 : decode cX12_meanAnywhere 79 = .ok (.putfield 390, 3) := by decide +kernel
theorem dX12_meanAnywhere_82 : decode cX12_meanAnywhere 82 = .ok (.aload_n 0, 1) := by decide +kernel
theorem dX12_meanAnywhere_83 : decode cX12_meanAnywhere 83 = .ok (.lload_n 3, 1) := by decide +kernel
theorem dX12_meanAnywhere_84 : decode cX12_meanAnywhere 84 = .ok (.ldc2_w 360, 3) := by decide +kernel
theorem dX12_meanAnywhere_87 : decode cX12_meanAnywhere 87 = .ok (.lmul, 1) := by decide +kernel
theorem dX12_meanAnywhere_88 : decode cX12_meanAnywhere 88 = .ok (.aload_n 0, 1) := by decide +kernel
theorem dX12_meanAnywhere_89 : decode cX12_meanAnywhere 89 = .ok (.getfield 286, 3) := by decide +kernel
theorem dX12_meanAnywhere_92 : decode cX12_meanAnywhere 92 = .ok (.i2l, 1) := by decide +kernel
theorem dX12_meanAnywhere_93 : decode cX12_meanAnywhere 93 = .ok (.lmul, 1) := by decide +kernel
theorem dX12_meanAnywhere_94 : decode cX12_meanAnywhere 94 = .ok (.putfield 393, 3) := by decide +kernel
theorem dX12_meanAnywhere_97 : decode cX12_meanAnywhere 97 = .ok (.return_, 1) := by decide +kernel
theorem dX12_meanFrom_0 : decode cX12_meanFrom 0 = .ok (.aload_n 0, 1) := by decide +kernel
theorem dX12_meanFrom_1 : decode cX12_meanFrom 1 = .ok (.lconst 0, 1) := by decide +kernel
theorem dX12_meanFrom_2 : decode cX12_meanFrom 2 = .ok (.putfield 390, 3) := by decide +kernel
theorem dX12_meanFrom_5 : decode cX12_meanFrom 5 = .ok (.aload_n 0, 1) := by decide +kernel
theorem dX12_meanFrom_6 : decode cX12_meanFrom 6 = .ok (.lconst 0, 1) := by decide +kernel
theorem dX12_meanFrom_7 : decode cX12_meanFrom 7 = .ok (.putfield 393, 3) := by decide +kernel
theorem dX12_meanFrom_10 : decode cX12_meanFrom 10 = .ok (.iconst 0, 1) := by decide +kernel
theorem dX12_meanFrom_11 : decode cX12_meanFrom 11 = .ok (.istore_n 3, 1) := by decide +kernel
theorem dX12_meanFrom_12 : decode cX12_meanFrom 12 = .ok (.iload_n 3, 1) := by decide +kernel
theorem dX12_meanFrom_13 : decode cX12_meanFrom 13 = .ok (.aload_n 0, 1) := by decide +kernel
theorem dX12_meanFrom_14 : decode cX12_meanFrom 14 = .ok (.getfield 35, 3) := by decide +kernel
theorem dX12_meanFrom_17 : decode cX12_meanFrom 17 = .ok (.iconst 3, 1) := by decide +kernel
theorem dX12_meanFrom_18 : decode cX12_meanFrom 18 = .ok (.iaload, 1) := by decide +kernel
theorem dX12_meanFrom_19 : decode cX12_meanFrom 19 = .ok (.if_icmp .ge 77, 3) := by decide +kernel
theorem dX12_meanFrom_22 : decode cX12_meanFrom 22 = .ok (.aload_n 0, 1) := by decide +kernel
theorem dX12_meanFrom_23 : decode cX12_meanFrom 23 = .ok (.getfield 286, 3) := by decide +kernel
theorem dX12_meanFrom_26 : decode cX12_meanFrom 26 = .ok (.ifCond .le 70, 3) := by decide +kernel
theorem dX12_meanFrom_29 : decode cX12_meanFrom 29 = .ok (.aload_n 0, 1) := by decide +kernel
theorem dX12_meanFrom_30 : decode cX12_meanFrom 30 = .ok (.iload_n 3, 1) := by decide +kernel
theorem dX12_meanFrom_31 : decode cX12_meanFrom 31 = .ok (.iload_n 1, 1) := by decide +kernel
theorem dX12_meanFrom_32 : decode cX12_meanFrom 32 = .ok (.iload_n 2, 1) := by decide +kernel
theorem dX12_meanFrom_33 : decode cX12_meanFrom 33 = .ok (.invokevirtual 387, 3) := by decide +kernel
theorem dX12_meanFrom_36 : decode cX12_meanFrom 36 = .ok (.istore 4, 2) := by decide +kernel
theorem dX12_meanFrom_38 : decode cX12_meanFrom 38 = .ok (.iload 4, 2) := by decide +kernel
theorem dX12_meanFrom_40 : decode cX12_meanFrom 40 = .ok (.ifCond .ge 6, 3) := by decide +kernel
theorem dX12_meanFrom_43 : decode cX12_meanFrom 43 = .ok (.goto 47, 3) := by decide +kernel
theorem dX12_meanFrom_46 : decode cX12_meanFrom 46 = .ok (.aload_n 0, 1) := by decide +kernel
theorem dX12_meanFrom_47 : decode cX12_meanFrom 47 = .ok (.dup, 1) := by decide +kernel
theorem dX12_meanFrom_48 : decode cX12_meanFrom 48 = .ok (.getfield 390, 3) := by decide +kernel
theorem dX12_meanFrom_51 : decode cX12_meanFrom 51 = .ok (.aload_n 0, 1) := by decide +kernel
theorem dX12_meanFrom_52 : decode cX12_meanFrom 52 = .ok (.getfield 35, 3) := by decide +kernel
theorem dX12_meanFrom_55 : decode cX12_meanFrom 55 = .ok (.sipush 128, 3) := by decide +kernel
theorem dX12_meanFrom_58 : decode cX12_meanFrom 58 = .ok (.iload_n 3, 1) := by decide +kernel
theorem dX12_meanFrom_59 : decode cX12_meanFrom 59 = .ok (.iadd, 1) := by decide +kernel
theorem dX12_meanFrom_60 : decode cX12_meanFrom 60 = .ok (.iaload, 1) := by decide +kernel
theorem dX12_meanFrom_61 : decode cX12_meanFrom 61 = .ok (.i2l, 1) := by decide +kernel
theorem dX12_meanFrom_62 : decode cX12_meanFrom 62 = .ok (.iload 4, 2) := by decide +kernel
theorem dX12_meanFrom_64 : decode cX12_meanFrom 64 = .ok (.i2l, 1) := by decide +kernel
theorem dX12_meanFrom_65 : decode cX12_meanFrom 65 = .ok (.lmul, 1) := by decide +kernel
theorem dX12_meanFrom_66 : decode cX12_meanFrom 66 = .ok (.ladd, 1) := by decide +kernel
theorem dX12_meanFrom_67 : decode cX12_meanFrom 67 = .ok (.putfield 390, 3) := by decide +kernel
theorem dX12_meanFrom_70 : decode cX12_meanFrom 70 = .ok (.aload_n 0, 1) := by decide +kernel
theorem dX12_meanFrom_71 : decode cX12_meanFrom 71 = .ok (.dup, 1) := by decide +kernel
theorem dX12_meanFrom_72 : decode cX12_meanFrom 72 = .ok (.getfield 393, 3) := by decide +kernel
theorem dX12_meanFrom_75 : decode cX12_meanFrom 75 = .ok (.aload_n 0, 1) := by decide +kernel
theorem dX12_meanFrom_76 : decode cX12_meanFrom 76 = .ok (.getfield 35, 3) := by decide +kernel
theorem dX12_meanFrom_79 : decode cX12_meanFrom 79 = .ok (.sipush 128, 3) := by decide +kernel
theorem dX12_meanFrom_82 : decode cX12_meanFrom 82 = .ok (.iload_n 3, 1) := by decide +kernel
theorem dX12_meanFrom_83 : decode cX12_meanFrom 83 = .ok (.iadd, 1) := by decide +kernel
theorem dX12_meanFrom_84 : decode cX12_meanFrom 84 = .ok (.iaload, 1) := by decide +kernel
theorem dX12_meanFrom_85 : decode cX12_meanFrom 85 = .ok (.i2l, 1) := by decide +kernel
theorem dX12_meanFrom_86 : decode cX12_meanFrom 86 = .ok (.ladd, 1) := by decide +kernel
theorem dX12_meanFrom_87 : decode cX12_meanFrom 87 = .ok (.putfield 393, 3) := by decide +kernel
theorem dX12_meanFrom_90 : decode cX12_meanFrom 90 = .ok (.iinc 3 1, 3) := by decide +kernel
theorem dX12_meanFrom_93 : decode cX12_meanFrom 93 = .ok (.goto (-81), 3) := by decide +kernel
theorem dX12_meanFrom_96 : decode cX12_meanFrom 96 = .ok (.return_, 1) := by decide +kernel
theorem dX12_missing_0 : decode cX12_missing 0 = .ok (.aload_n 0, 1) := by decide +kernel
theorem dX12_missing_1 : decode cX12_missing 1 = .ok (.iconst 0, 1) := by decide +kernel
theorem dX12_missing_2 : decode cX12_missing 2 = .ok (.putfield 82, 3) := by decide +kernel
theorem dX12_missing_5 : decode cX12_missing 5 = .ok (.aload_n 0, 1) := by decide +kernel
theorem dX12_missing_6 : decode cX12_missing 6 = .ok (.iconst 0, 1) := by decide +kernel
theorem dX12_missing_7 : decode cX12_missing 7 = .ok (.putfield 85, 3) := by decide +kernel
theorem dX12_missing_10 : decode cX12_missing 10 = .ok (.aload_n 0, 1) := by decide +kernel
theorem dX12_missing_11 : decode cX12_missing 11 = .ok (.iload_n 1, 1) := by decide +kernel
theorem dX12_missing_12 : decode cX12_missing 12 = .ok (.i2l, 1) := by decide +kernel
theorem dX12_missing_13 : decode cX12_missing 13 = .ok (.invokevirtual 275, 3) := by decide +kernel
theorem dX12_missing_16 : decode cX12_missing 16 = .ok (.ifCond .eq 11, 3) := by decide +kernel
theorem dX12_missing_19 : decode cX12_missing 19 = .ok (.aload_n 0, 1) := by decide +kernel
theorem dX12_missing_20 : decode cX12_missing 20 = .ok (.iload_n 2, 1) := by decide +kernel
theorem dX12_missing_21 : decode cX12_missing 21 = .ok (.invokevirtual 295, 3) := by decide +kernel
theorem dX12_missing_24 : decode cX12_missing 24 = .ok (.ifCond .ne 9, 3) := by decide +kernel
theorem dX12_missing_27 : decode cX12_missing 27 = .ok (.aload_n 0, 1) := by decide +kernel
theorem dX12_missing_28 : decode cX12_missing 28 = .ok (.iconst 2, 1) := by decide +kernel
theorem dX12_missing_29 : decode cX12_missing 29 = .ok (.invokevirtual 97, 3) := by decide +kernel
theorem dX12_missing_32 : decode cX12_missing 32 = .ok (.ireturn, 1) := by decide +kernel
theorem dX12_missing_33 : decode cX12_missing 33 = .ok (.aload_n 0, 1) := by decide +kernel
theorem dX12_missing_34 : decode cX12_missing 34 = .ok (.iload_n 1, 1) := by decide +kernel
theorem dX12_missing_35 : decode cX12_missing 35 = .ok (.invokevirtual 476, 3) := by decide +kernel
theorem dX12_missing_38 : decode cX12_missing 38 = .ok (.istore 5, 2) := by decide +kernel
theorem dX12_missing_40 : decode cX12_missing 40 = .ok (.iload_n 3, 1) := by decide +kernel
theorem dX12_missing_41 : decode cX12_missing 41 = .ok (.i2l, 1) := by decide +kernel
theorem dX12_missing_42 : decode cX12_missing 42 = .ok (.lconst 0, 1) := by decide +kernel
theorem dX12_missing_43 : decode cX12_missing 43 = .ok (.ldc2_w 360, 3) := by decide +kernel
theorem dX12_missing_46 : decode cX12_missing 46 = .ok (.invokestatic 117, 3) := by decide +kernel
theorem dX12_missing_49 : decode cX12_missing 49 = .ok (.ifCond .eq 16, 3) := by decide +kernel
theorem dX12_missing_52 : decode cX12_missing 52 = .ok (.iload 4, 2) := by decide +kernel
theorem dX12_missing_54 : decode cX12_missing 54 = .ok (.i2l, 1) := by decide +kernel
theorem dX12_missing_55 : decode cX12_missing 55 = .ok (.lconst 0, 1) := by decide +kernel
theorem dX12_missing_56 : decode cX12_missing 56 = .ok (.iload 5, 2) := by decide +kernel
theorem dX12_missing_58 : decode cX12_missing 58 = .ok (.i2l, 1) := by decide +kernel
theorem dX12_missing_59 : decode cX12_missing 59 = .ok (.invokestatic 117, 3) := by decide +kernel
theorem dX12_missing_62 : decode cX12_missing 62 = .ok (.ifCond .ne 9, 3) := by decide +kernel
theorem dX12_missing_65 : decode cX12_missing 65 = .ok (.aload_n 0, 1) := by decide +kernel
theorem dX12_missing_66 : decode cX12_missing 66 = .ok (.iconst 5, 1) := by decide +kernel
theorem dX12_missing_67 : decode cX12_missing 67 = .ok (.invokevirtual 97, 3) := by decide +kernel
theorem dX12_missing_70 : decode cX12_missing 70 = .ok (.ireturn, 1) := by decide +kernel
theorem dX12_missing_71 : decode cX12_missing 71 = .ok (.aload_n 0, 1) := by decide +kernel
theorem dX12_missing_72 : decode cX12_missing 72 = .ok (.iload_n 1, 1) := by decide +kernel
theorem dX12_missing_73 : decode cX12_missing 73 = .ok (.iload_n 2, 1) := by decide +kernel
theorem dX12_missing_74 : decode cX12_missing 74 = .ok (.invokevirtual 479, 3) := by decide +kernel
theorem dX12_missing_77 : decode cX12_missing 77 = .ok (.ifCond .eq 14, 3) := by decide +kernel
theorem dX12_missing_80 : decode cX12_missing 80 = .ok (.iload_n 3, 1) := by decide +kernel
theorem dX12_missing_81 : decode cX12_missing 81 = .ok (.ifCond .ne 17, 3) := by decide +kernel
theorem dX12_missing_84 : decode cX12_missing 84 = .ok (.iload 4, 2) := by decide +kernel
theorem dX12_missing_86 : decode cX12_missing 86 = .ok (.iload 5, 2) := by decide +kernel
theorem dX12_missing_88 : decode cX12_missing 88 = .ok (.if_icmp .ne 10, 3) := by decide +kernel
theorem dX12_missing_91 : decode cX12_missing 91 = .ok (.aload_n 0, 1) := by decide +kernel
theorem dX12_missing_92 : decode cX12_missing 92 = .ok (.bipush 9, 2) := by decide +kernel
theorem dX12_missing_94 : decode cX12_missing 94 = .ok (.invokevirtual 97, 3) := by decide +kernel
theorem dX12_missing_97 : decode cX12_missing 97 = .ok (.ireturn, 1) := by decide +kernel
theorem dX12_missing_98 : decode cX12_missing 98 = .ok (.aload_n 0, 1) := by decide +kernel
theorem dX12_missing_99 : decode cX12_missing 99 = .ok (.iload_n 3, 1) := by decide +kernel
theorem dX12_missing_100 : decode cX12_missing 100 = .ok (.i2l, 1) := by decide +kernel
theorem dX12_missing_101 : decode cX12_missing 101 = .ok (.iload 5, 2) := by decide +kernel
theorem dX12_missing_103 : decode cX12_missing 103 = .ok (.i2l, 1) := by decide +kernel
theorem dX12_missing_104 : decode cX12_missing 104 = .ok (.lmul, 1) := by decide +kernel
theorem dX12_missing_105 : decode cX12_missing 105 = .ok (.iload_n 3, 1) := by decide +kernel
theorem dX12_missing_106 : decode cX12_missing 106 = .ok (.i2l, 1) := by decide +kernel
theorem dX12_missing_107 : decode cX12_missing 107 = .ok (.iload 5, 2) := by decide +kernel
theorem dX12_missing_109 : decode cX12_missing 109 = .ok (.i2l, 1) := by decide +kernel
theorem dX12_missing_110 : decode cX12_missing 110 = .ok (.lmul, 1) := by decide +kernel
theorem dX12_missing_111 : decode cX12_missing 111 = .ok (.bipush 16, 2) := by decide +kernel
theorem dX12_missing_113 : decode cX12_missing 113 = .ok (.iload_n 3, 1) := by decide +kernel
theorem dX12_missing_114 : decode cX12_missing 114 = .ok (.isub, 1) := by decide +kernel
theorem dX12_missing_115 : decode cX12_missing 115 = .ok (.iload 5, 2) := by decide +kernel
theorem dX12_missing_117 : decode cX12_missing 117 = .ok (.iload 4, 2) := by decide +kernel
theorem dX12_missing_119 : decode cX12_missing 119 = .ok (.isub, 1) := by decide +kernel
theorem dX12_missing_120 : decode cX12_missing 120 = .ok (.imul, 1) := by decide +kernel
theorem dX12_missing_121 : decode cX12_missing 121 = .ok (.i2l, 1) := by decide +kernel
theorem dX12_missing_122 : decode cX12_missing 122 = .ok (.ladd, 1) := by decide +kernel
theorem dX12_missing_123 : decode cX12_missing 123 = .ok (.invokevirtual 352, 3) := by decide +kernel
theorem dX12_missing_126 : decode cX12_missing 126 = .ok (.ireturn, 1) := by decide +kernel
theorem dX12_must_0 : decode cX12_must 0 = .ok (.aload_n 0, 1) := by decide +kernel
theorem dX12_must_1 : decode cX12_must 1 = .ok (.getfield 174, 3) := by decide +kernel
theorem dX12_must_4 : decode cX12_must 4 = .ok (.ifCond .le 4, 3) := by decide +kernel
theorem dX12_must_7 : decode cX12_must 7 = .ok (.return_, 1) := by decide +kernel
theorem dX12_must_8 : decode cX12_must 8 = .ok (.iload_n 1, 1) := by decide +kernel
theorem dX12_must_9 : decode cX12_must 9 = .ok (.ifCond .eq 10, 3) := by decide +kernel
theorem dX12_must_12 : decode cX12_must 12 = .ok (.aload_n 0, 1) := by decide +kernel
theorem dX12_must_13 : decode cX12_must 13 = .ok (.invokevirtual 184, 3) := by decide +kernel
theorem dX12_must_16 : decode cX12_must 16 = .ok (.goto 7, 3) := by decide +kernel
theorem dX12_must_19 : decode cX12_must 19 = .ok (.aload_n 0, 1) := by decide +kernel
theorem dX12_must_20 : decode cX12_must 20 = .ok (.invokevirtual 187, 3) := by decide +kernel
theorem dX12_must_23 : decode cX12_must 23 = .ok (.return_, 1) := by decide +kernel
theorem dX12_named_0 : decode cX12_named 0 = .ok (.iconst 0, 1) := by decide +kernel
theorem dX12_named_1 : decode cX12_named 1 = .ok (.istore 4, 2) := by decide +kernel
theorem dX12_named_3 : decode cX12_named 3 = .ok (.iload 4, 2) := by decide +kernel
theorem dX12_named_5 : decode cX12_named 5 = .ok (.iload_n 3, 1) := by decide +kernel
theorem dX12_named_6 : decode cX12_named 6 = .ok (.if_icmp .ge 34, 3) := by decide +kernel
theorem dX12_named_9 : decode cX12_named 9 = .ok (.aload_n 0, 1) := by decide +kernel
theorem dX12_named_10 : decode cX12_named 10 = .ok (.getfield 38, 3) := by decide +kernel
theorem dX12_named_13 : decode cX12_named 13 = .ok (.bipush 21, 2) := by decide +kernel
theorem dX12_named_15 : decode cX12_named 15 = .ok (.iload_n 1, 1) := by decide +kernel
theorem dX12_named_16 : decode cX12_named 16 = .ok (.imul, 1) := by decide +kernel
theorem dX12_named_17 : decode cX12_named 17 = .ok (.iload_n 2, 1) := by decide +kernel
theorem dX12_named_18 : decode cX12_named 18 = .ok (.iadd, 1) := by decide +kernel
theorem dX12_named_19 : decode cX12_named 19 = .ok (.iload 4, 2) := by decide +kernel
theorem dX12_named_21 : decode cX12_named 21 = .ok (.iadd, 1) := by decide +kernel
theorem dX12_named_22 : decode cX12_named 22 = .ok (.laload, 1) := by decide +kernel
theorem dX12_named_23 : decode cX12_named 23 = .ok (.aload_n 0, 1) := by decide +kernel
theorem dX12_named_24 : decode cX12_named 24 = .ok (.getfield 139, 3) := by decide +kernel
theorem dX12_named_27 : decode cX12_named 27 = .ok (.lcmp, 1) := by decide +kernel
theorem dX12_named_28 : decode cX12_named 28 = .ok (.ifCond .ne 6, 3) := by decide +kernel
theorem dX12_named_31 : decode cX12_named 31 = .ok (.iload 4, 2) := by decide +kernel
theorem dX12_named_33 : decode cX12_named 33 = .ok (.ireturn, 1) := by decide +kernel
theorem dX12_named_34 : decode cX12_named 34 = .ok (.iinc 4 1, 3) := by decide +kernel
theorem dX12_named_37 : decode cX12_named 37 = .ok (.goto (-34), 3) := by decide +kernel
theorem dX12_named_40 : decode cX12_named 40 = .ok (.iconst (-1), 1) := by decide +kernel
theorem dX12_named_41 : decode cX12_named 41 = .ok (.ireturn, 1) := by decide +kernel
theorem dX12_newly_0 : decode cX12_newly 0 = .ok (.aload_n 0, 1) := by decide +kernel
theorem dX12_newly_1 : decode cX12_newly 1 = .ok (.iconst 0, 1) := by decide +kernel
theorem dX12_newly_2 : decode cX12_newly 2 = .ok (.putfield 82, 3) := by decide +kernel
theorem dX12_newly_5 : decode cX12_newly 5 = .ok (.aload_n 0, 1) := by decide +kernel
theorem dX12_newly_6 : decode cX12_newly 6 = .ok (.iconst 0, 1) := by decide +kernel
theorem dX12_newly_7 : decode cX12_newly 7 = .ok (.putfield 85, 3) := by decide +kernel
theorem dX12_newly_10 : decode cX12_newly 10 = .ok (.aload_n 0, 1) := by decide +kernel
theorem dX12_newly_11 : decode cX12_newly 11 = .ok (.iload_n 1, 1) := by decide +kernel
theorem dX12_newly_12 : decode cX12_newly 12 = .ok (.i2l, 1) := by decide +kernel
theorem dX12_newly_13 : decode cX12_newly 13 = .ok (.invokevirtual 275, 3) := by decide +kernel
theorem dX12_newly_16 : decode cX12_newly 16 = .ok (.ifCond .eq 19, 3) := by decide +kernel
theorem dX12_newly_19 : decode cX12_newly 19 = .ok (.aload_n 0, 1) := by decide +kernel
theorem dX12_newly_20 : decode cX12_newly 20 = .ok (.iload_n 2, 1) := by decide +kernel
theorem dX12_newly_21 : decode cX12_newly 21 = .ok (.invokevirtual 289, 3) := by decide +kernel
theorem dX12_newly_24 : decode cX12_newly 24 = .ok (.ifCond .eq 11, 3) := by decide +kernel
theorem dX12_newly_27 : decode cX12_newly 27 = .ok (.aload_n 0, 1) := by decide +kernel
theorem dX12_newly_28 : decode cX12_newly 28 = .ok (.iload_n 3, 1) := by decide +kernel
theorem dX12_newly_29 : decode cX12_newly 29 = .ok (.invokevirtual 295, 3) := by decide +kernel
theorem dX12_newly_32 : decode cX12_newly 32 = .ok (.ifCond .ne 9, 3) := by decide +kernel
theorem dX12_newly_35 : decode cX12_newly 35 = .ok (.aload_n 0, 1) := by decide +kernel
theorem dX12_newly_36 : decode cX12_newly 36 = .ok (.iconst 2, 1) := by decide +kernel
theorem dX12_newly_37 : decode cX12_newly 37 = .ok (.invokevirtual 269, 3) := by decide +kernel
theorem dX12_newly_40 : decode cX12_newly 40 = .ok (.ireturn, 1) := by decide +kernel
theorem dX12_newly_41 : decode cX12_newly 41 = .ok (.aload_n 0, 1) := by decide +kernel
theorem dX12_newly_42 : decode cX12_newly 42 = .ok (.iload_n 1, 1) := by decide +kernel
theorem dX12_newly_43 : decode cX12_newly 43 = .ok (.invokevirtual 278, 3) := by decide +kernel
theorem dX12_newly_46 : decode cX12_newly 46 = .ok (.ifCond .ge 17, 3) := by decide +kernel
theorem dX12_newly_49 : decode cX12_newly 49 = .ok (.aload_n 0, 1) := by decide +kernel
theorem dX12_newly_50 : decode cX12_newly 50 = .ok (.getfield 35, 3) := by decide +kernel
theorem dX12_newly_53 : decode cX12_newly 53 = .ok (.sipush 150, 3) := by decide +kernel
theorem dX12_newly_56 : decode cX12_newly 56 = .ok (.iload_n 1, 1) := by decide +kernel
theorem dX12_newly_57 : decode cX12_newly 57 = .ok (.iadd, 1) := by decide +kernel
theorem dX12_newly_58 : decode cX12_newly 58 = .ok (.iaload, 1) := by decide +kernel
theorem dX12_newly_59 : decode cX12_newly 59 = .ok (.iconst 1, 1) := by decide +kernel
theorem dX12_newly_60 : decode cX12_newly 60 = .ok (.if_icmp .ne 10, 3) := by decide +kernel
theorem dX12_newly_63 : decode cX12_newly 63 = .ok (.aload_n 0, 1) := by decide +kernel
theorem dX12_newly_64 : decode cX12_newly 64 = .ok (.bipush 9, 2) := by decide +kernel
theorem dX12_newly_66 : decode cX12_newly 66 = .ok (.invokevirtual 269, 3) := by decide +kernel
theorem dX12_newly_69 : decode cX12_newly 69 = .ok (.ireturn, 1) := by decide +kernel
theorem dX12_newly_70 : decode cX12_newly 70 = .ok (.aload_n 0, 1) := by decide +kernel
theorem dX12_newly_71 : decode cX12_newly 71 = .ok (.iload_n 2, 1) := by decide +kernel
theorem dX12_newly_72 : decode cX12_newly 72 = .ok (.invokevirtual 292, 3) := by decide +kernel
theorem dX12_newly_75 : decode cX12_newly 75 = .ok (.aload_n 0, 1) := by decide +kernel
theorem dX12_newly_76 : decode cX12_newly 76 = .ok (.iload_n 3, 1) := by decide +kernel
theorem dX12_newly_77 : decode cX12_newly 77 = .ok (.invokevirtual 438, 3) := by decide +kernel
theorem dX12_newly_80 : decode cX12_newly 80 = .ok (.ifCond .ne 19, 3) := by decide +kernel
theorem dX12_newly_83 : decode cX12_newly 83 = .ok (.aload_n 0, 1) := by decide +kernel
theorem dX12_newly_84 : decode cX12_newly 84 = .ok (.iload_n 1, 1) := by decide +kernel
theorem dX12_newly_85 : decode cX12_newly 85 = .ok (.iload_n 3, 1) := by decide +kernel
theorem dX12_newly_86 : decode cX12_newly 86 = .ok (.invokevirtual 345, 3) := by decide +kernel
theorem dX12_newly_89 : decode cX12_newly 89 = .ok (.ifCond .ne 10, 3) := by decide +kernel
theorem dX12_newly_92 : decode cX12_newly 92 = .ok (.aload_n 0, 1) := by decide +kernel
theorem dX12_newly_93 : decode cX12_newly 93 = .ok (.bipush 8, 2) := by decide +kernel
theorem dX12_newly_95 : decode cX12_newly 95 = .ok (.invokevirtual 269, 3) := by decide +kernel
theorem dX12_newly_98 : decode cX12_newly 98 = .ok (.ireturn, 1) := by decide +kernel
theorem dX12_newly_99 : decode cX12_newly 99 = .ok (.iconst 0, 1) := by decide +kernel
theorem dX12_newly_100 : decode cX12_newly 100 = .ok (.istore 4, 2) := by decide +kernel
theorem dX12_newly_102 : decode cX12_newly 102 = .ok (.aload_n 0, 1) := by decide +kernel
theorem dX12_newly_103 : decode cX12_newly 103 = .ok (.iconst 0, 1) := by decide +kernel
theorem dX12_newly_104 : decode cX12_newly 104 = .ok (.putfield 411, 3) := by decide +kernel
theorem dX12_newly_107 : decode cX12_newly 107 = .ok (.iconst 0, 1) := by decide +kernel
theorem dX12_newly_108 : decode cX12_newly 108 = .ok (.istore 5, 2) := by decide +kernel
theorem dX12_newly_110 : decode cX12_newly 110 = .ok (.iload 5, 2) := by decide +kernel
theorem dX12_newly_112 : decode cX12_newly 112 = .ok (.aload_n 0, 1) := by decide +kernel
theorem dX12_newly_113 : decode cX12_newly 113 = .ok (.getfield 35, 3) := by decide +kernel
theorem dX12_newly_116 : decode cX12_newly 116 = .ok (.bipush 95, 2) := by decide +kernel
theorem dX12_newly_118 : decode cX12_newly 118 = .ok (.iload_n 2, 1) := by decide +kernel
theorem dX12_newly_119 : decode cX12_newly 119 = .ok (.iadd, 1) := by decide +kernel
theorem dX12_newly_120 : decode cX12_newly 120 = .ok (.iaload, 1) := by decide +kernel
theorem dX12_newly_121 : decode cX12_newly 121 = .ok (.if_icmp .gt 143, 3) := by decide +kernel
theorem dX12_newly_124 : decode cX12_newly 124 = .ok (.aload_n 0, 1) := by decide +kernel
theorem dX12_newly_125 : decode cX12_newly 125 = .ok (.iload_n 1, 1) := by decide +kernel
theorem dX12_newly_126 : decode cX12_newly 126 = .ok (.iload_n 2, 1) := by decide +kernel
theorem dX12_newly_127 : decode cX12_newly 127 = .ok (.iload 5, 2) := by decide +kernel
theorem dX12_newly_129 : decode cX12_newly 129 = .ok (.invokevirtual 308, 3) := by decide +kernel
theorem dX12_newly_132 : decode cX12_newly 132 = .ok (.aload_n 0, 1) := by decide +kernel
theorem dX12_newly_133 : decode cX12_newly 133 = .ok (.iload_n 2, 1) := by decide +kernel
theorem dX12_newly_134 : decode cX12_newly 134 = .ok (.invokevirtual 292, 3) := by decide +kernel
theorem dX12_newly_137 : decode cX12_newly 137 = .ok (.lconst 0, 1) := by decide +kernel
theorem dX12_newly_138 : decode cX12_newly 138 = .ok (.lstore 6, 2) := by decide +kernel
theorem dX12_newly_140 : decode cX12_newly 140 = .ok (.iconst 0, 1) := by decide +kernel
theorem dX12_newly_141 : decode cX12_newly 141 = .ok (.istore 8, 2) := by decide +kernel
theorem dX12_newly_143 : decode cX12_newly 143 = .ok (.iload 8, 2) := by decide +kernel
theorem dX12_newly_145 : decode cX12_newly 145 = .ok (.iconst 2, 1) := by decide +kernel
theorem dX12_newly_146 : decode cX12_newly 146 = .ok (.aload_n 0, 1) := by decide +kernel
theorem dX12_newly_147 : decode cX12_newly 147 = .ok (.getfield 286, 3) := by decide +kernel
theorem dX12_newly_150 : decode cX12_newly 150 = .ok (.imul, 1) := by decide +kernel
theorem dX12_newly_151 : decode cX12_newly 151 = .ok (.if_icmp .ge 57, 3) := by decide +kernel
theorem dX12_newly_154 : decode cX12_newly 154 = .ok (.lload 6, 2) := by decide +kernel
theorem dX12_newly_156 : decode cX12_newly 156 = .ok (.iload 8, 2) := by decide +kernel
theorem dX12_newly_158 : decode cX12_newly 158 = .ok (.iconst 2, 1) := by decide +kernel
theorem dX12_newly_159 : decode cX12_newly 159 = .ok (.irem, 1) := by decide +kernel
theorem dX12_newly_160 : decode cX12_newly 160 = .ok (.ifCond .ne 16, 3) := by decide +kernel
theorem dX12_newly_163 : decode cX12_newly 163 = .ok (.bipush 16, 2) := by decide +kernel
theorem dX12_newly_165 : decode cX12_newly 165 = .ok (.aload_n 0, 1) := by decide +kernel
theorem dX12_newly_166 : decode cX12_newly 166 = .ok (.getfield 35, 3) := by decide +kernel
theorem dX12_newly_169 : decode cX12_newly 169 = .ok (.bipush 9, 2) := by decide +kernel
theorem dX12_newly_171 : decode cX12_newly 171 = .ok (.iaload, 1) := by decide +kernel
theorem dX12_newly_172 : decode cX12_newly 172 = .ok (.isub, 1) := by decide +kernel
theorem dX12_newly_173 : decode cX12_newly 173 = .ok (.goto 10, 3) := by decide +kernel
theorem dX12_newly_176 : decode cX12_newly 176 = .ok (.aload_n 0, 1) := by decide +kernel
theorem dX12_newly_177 : decode cX12_newly 177 = .ok (.getfield 35, 3) := by decide +kernel
theorem dX12_newly_180 : decode cX12_newly 180 = .ok (.bipush 9, 2) := by decide +kernel
theorem dX12_newly_182 : decode cX12_newly 182 = .ok (.iaload, 1) := by decide +kernel
theorem dX12_newly_183 : decode cX12_newly 183 = .ok (.i2l, 1) := by decide +kernel
theorem dX12_newly_184 : decode cX12_newly 184 = .ok (.aload_n 0, 1) := by decide +kernel
theorem dX12_newly_185 : decode cX12_newly 185 = .ok (.iload_n 3, 1) := by decide +kernel
theorem dX12_newly_186 : decode cX12_newly 186 = .ok (.iload 8, 2) := by decide +kernel
theorem dX12_newly_188 : decode cX12_newly 188 = .ok (.iconst 2, 1) := by decide +kernel
theorem dX12_newly_189 : decode cX12_newly 189 = .ok (.idiv, 1) := by decide +kernel
theorem dX12_newly_190 : decode cX12_newly 190 = .ok (.iload 8, 2) := by decide +kernel
theorem dX12_newly_192 : decode cX12_newly 192 = .ok (.iconst 2, 1) := by decide +kernel
theorem dX12_newly_193 : decode cX12_newly 193 = .ok (.irem, 1) := by decide +kernel
theorem dX12_newly_194 : decode cX12_newly 194 = .ok (.invokevirtual 387, 3) := by decide +kernel
theorem dX12_newly_197 : decode cX12_newly 197 = .ok (.i2l, 1) := by decide +kernel
theorem dX12_newly_198 : decode cX12_newly 198 = .ok (.lmul, 1) := by decide +kernel
theorem dX12_newly_199 : decode cX12_newly 199 = .ok (.ladd, 1) := by decide +kernel
theorem dX12_newly_200 : decode cX12_newly 200 = .ok (.lstore 6, 2) := by decide +kernel
theorem dX12_newly_202 : decode cX12_newly 202 = .ok (.iinc 8 1, 3) := by decide +kernel
theorem dX12_newly_205 : decode cX12_newly 205 = .ok (.goto (-62), 3) := by decide +kernel
theorem dX12_newly_208 : decode cX12_newly 208 = .ok (.aload_n 0, 1) := by decide +kernel
theorem dX12_newly_209 : decode cX12_newly 209 = .ok (.getfield 411, 3) := by decide +kernel
theorem dX12_newly_212 : decode cX12_newly 212 = .ok (.ifCond .eq 13, 3) := by decide +kernel
theorem dX12_newly_215 : decode cX12_newly 215 = .ok (.lload 6, 2) := by decide +kernel
theorem dX12_newly_217 : decode cX12_newly 217 = .ok (.aload_n 0, 1) := by decide +kernel
theorem dX12_newly_218 : decode cX12_newly 218 = .ok (.getfield 417, 3) := by decide +kernel
theorem dX12_newly_221 : decode cX12_newly 221 = .ok (.lcmp, 1) := by decide +kernel
theorem dX12_newly_222 : decode cX12_newly 222 = .ok (.ifCond .ge 26, 3) := by decide +kernel
theorem dX12_newly_225 : decode cX12_newly 225 = .ok (.iload 5, 2) := by decide +kernel
theorem dX12_newly_227 : decode cX12_newly 227 = .ok (.istore 4, 2) := by decide +kernel
theorem dX12_newly_229 : decode cX12_newly 229 = .ok (.aload_n 0, 1) := by decide +kernel
theorem dX12_newly_230 : decode cX12_newly 230 = .ok (.lload 6, 2) := by decide +kernel
theorem dX12_newly_232 : decode cX12_newly 232 = .ok (.putfield 417, 3) := by decide +kernel
theorem dX12_newly_235 : decode cX12_newly 235 = .ok (.aload_n 0, 1) := by decide +kernel
theorem dX12_newly_236 : decode cX12_newly 236 = .ok (.ldc2_w 360, 3) := by decide +kernel
theorem dX12_newly_239 : decode cX12_newly 239 = .ok (.aload_n 0, 1) := by decide +kernel
theorem dX12_newly_240 : decode cX12_newly 240 = .ok (.getfield 286, 3) := by decide +kernel
theorem dX12_newly_243 : decode cX12_newly 243 = .ok (.i2l, 1) := by decide +kernel
theorem dX12_newly_244 : decode cX12_newly 244 = .ok (.lmul, 1) := by decide +kernel
theorem dX12_newly_245 : decode cX12_newly 245 = .ok (.putfield 414, 3) := by decide +kernel
theorem dX12_newly_248 : decode cX12_newly 248 = .ok (.aload_n 0, 1) := by decide +kernel
theorem dX12_newly_249 : decode cX12_newly 249 = .ok (.iconst 1, 1) := by decide +kernel
theorem dX12_newly_250 : decode cX12_newly 250 = .ok (.putfield 411, 3) := by decide +kernel
theorem dX12_newly_253 : decode cX12_newly 253 = .ok (.aload_n 0, 1) := by decide +kernel
theorem dX12_newly_254 : decode cX12_newly 254 = .ok (.iload_n 1, 1) := by decide +kernel
theorem dX12_newly_255 : decode cX12_newly 255 = .ok (.invokevirtual 312, 3) := by decide +kernel
theorem dX12_newly_258 : decode cX12_newly 258 = .ok (.iinc 5 1, 3) := by decide +kernel
theorem dX12_newly_261 : decode cX12_newly 261 = .ok (.goto (-151), 3) := by decide +kernel
theorem dX12_newly_264 : decode cX12_newly 264 = .ok (.aload_n 0, 1) := by decide +kernel
theorem dX12_newly_265 : decode cX12_newly 265 = .ok (.aload_n 0, 1) := by decide +kernel
theorem dX12_newly_266 : decode cX12_newly 266 = .ok (.getfield 417, 3) := by decide +kernel
theorem dX12_newly_269 : decode cX12_newly 269 = .ok (.aload_n 0, 1) := by decide +kernel
theorem dX12_newly_270 : decode cX12_newly 270 = .ok (.getfield 414, 3) := by decide +kernel
theorem dX12_newly_273 : decode cX12_newly 273 = .ok (.invokevirtual 352, 3) := by decide +kernel
theorem dX12_newly_276 : decode cX12_newly 276 = .ok (.pop, 1) := by decide +kernel
theorem dX12_newly_277 : decode cX12_newly 277 = .ok (.iload 4, 2) := by decide +kernel
theorem dX12_newly_279 : decode cX12_newly 279 = .ok (.ireturn, 1) := by decide +kernel
theorem dX12_next_0 : decode cX12_next 0 = .ok (.aload_n 0, 1) := by decide +kernel
theorem dX12_next_1 : decode cX12_next 1 = .ok (.iconst 0, 1) := by decide +kernel
theorem dX12_next_2 : decode cX12_next 2 = .ok (.putfield 82, 3) := by decide +kernel
theorem dX12_next_5 : decode cX12_next 5 = .ok (.aload_n 0, 1) := by decide +kernel
theorem dX12_next_6 : decode cX12_next 6 = .ok (.iconst 0, 1) := by decide +kernel
theorem dX12_next_7 : decode cX12_next 7 = .ok (.putfield 85, 3) := by decide +kernel
theorem dX12_next_10 : decode cX12_next 10 = .ok (.aload_n 0, 1) := by decide +kernel
theorem dX12_next_11 : decode cX12_next 11 = .ok (.iload_n 1, 1) := by decide +kernel
theorem dX12_next_12 : decode cX12_next 12 = .ok (.invokevirtual 295, 3) := by decide +kernel
theorem dX12_next_15 : decode cX12_next 15 = .ok (.ifCond .ne 9, 3) := by decide +kernel
theorem dX12_next_18 : decode cX12_next 18 = .ok (.aload_n 0, 1) := by decide +kernel
theorem dX12_next_19 : decode cX12_next 19 = .ok (.iconst 2, 1) := by decide +kernel
theorem dX12_next_20 : decode cX12_next 20 = .ok (.invokevirtual 269, 3) := by decide +kernel
theorem dX12_next_23 : decode cX12_next 23 = .ok (.ireturn, 1) := by decide +kernel
theorem dX12_next_24 : decode cX12_next 24 = .ok (.iload_n 2, 1) := by decide +kernel
theorem dX12_next_25 : decode cX12_next 25 = .ok (.i2l, 1) := by decide +kernel
theorem dX12_next_26 : decode cX12_next 26 = .ok (.lconst 1, 1) := by decide +kernel
theorem dX12_next_27 : decode cX12_next 27 = .ok (.ldc2_w 382, 3) := by decide +kernel
theorem dX12_next_30 : decode cX12_next 30 = .ok (.invokestatic 117, 3) := by decide +kernel
theorem dX12_next_33 : decode cX12_next 33 = .ok (.ifCond .ne 9, 3) := by decide +kernel
theorem dX12_next_36 : decode cX12_next 36 = .ok (.aload_n 0, 1) := by decide +kernel
theorem dX12_next_37 : decode cX12_next 37 = .ok (.iconst 5, 1) := by decide +kernel
theorem dX12_next_38 : decode cX12_next 38 = .ok (.invokevirtual 269, 3) := by decide +kernel
theorem dX12_next_41 : decode cX12_next 41 = .ok (.ireturn, 1) := by decide +kernel
theorem dX12_next_42 : decode cX12_next 42 = .ok (.aload_n 0, 1) := by decide +kernel
theorem dX12_next_43 : decode cX12_next 43 = .ok (.invokevirtual 323, 3) := by decide +kernel
theorem dX12_next_46 : decode cX12_next 46 = .ok (.ifCond .ne 10, 3) := by decide +kernel
theorem dX12_next_49 : decode cX12_next 49 = .ok (.aload_n 0, 1) := by decide +kernel
theorem dX12_next_50 : decode cX12_next 50 = .ok (.bipush 8, 2) := by decide +kernel
theorem dX12_next_52 : decode cX12_next 52 = .ok (.invokevirtual 269, 3) := by decide +kernel
theorem dX12_next_55 : decode cX12_next 55 = .ok (.ireturn, 1) := by decide +kernel
theorem dX12_next_56 : decode cX12_next 56 = .ok (.aload_n 0, 1) := by decide +kernel
theorem dX12_next_57 : decode cX12_next 57 = .ok (.iload_n 1, 1) := by decide +kernel
theorem dX12_next_58 : decode cX12_next 58 = .ok (.iload_n 2, 1) := by decide +kernel
theorem dX12_next_59 : decode cX12_next 59 = .ok (.invokevirtual 384, 3) := by decide +kernel
theorem dX12_next_62 : decode cX12_next 62 = .ok (.pop2, 1) := by decide +kernel
theorem dX12_next_63 : decode cX12_next 63 = .ok (.aload_n 0, 1) := by decide +kernel
theorem dX12_next_64 : decode cX12_next 64 = .ok (.getfield 373, 3) := by decide +kernel
theorem dX12_next_67 : decode cX12_next 67 = .ok (.ireturn, 1) := by decide +kernel
theorem dX12_next2_0 : decode cX12_next2 0 = .ok (.aload_n 0, 1) := by decide +kernel
theorem dX12_next2_1 : decode cX12_next2 1 = .ok (.aload_n 0, 1) := by decide +kernel
theorem dX12_next2_2 : decode cX12_next2 2 = .ok (.getfield 124, 3) := by decide +kernel
theorem dX12_next2_5 : decode cX12_next2 5 = .ok (.putfield 127, 3) := by decide +kernel
theorem dX12_next2_8 : decode cX12_next2 8 = .ok (.aload_n 0, 1) := by decide +kernel
theorem dX12_next2_9 : decode cX12_next2 9 = .ok (.getfield 127, 3) := by decide +kernel
theorem dX12_next2_12 : decode cX12_next2 12 = .ok (.aload_n 0, 1) := by decide +kernel
theorem dX12_next2_13 : decode cX12_next2 13 = .ok (.getfield 121, 3) := by decide +kernel
theorem dX12_next2_16 : decode cX12_next2 16 = .ok (.if_icmp .ge 42, 3) := by decide +kernel
theorem dX12_next2_19 : decode cX12_next2 19 = .ok (.aload_n 0, 1) := by decide +kernel
theorem dX12_next2_20 : decode cX12_next2 20 = .ok (.aload_n 0, 1) := by decide +kernel
theorem dX12_next2_21 : decode cX12_next2 21 = .ok (.getfield 127, 3) := by decide +kernel
theorem dX12_next2_24 : decode cX12_next2 24 = .ok (.invokevirtual 130, 3) := by decide +kernel
theorem dX12_next2_27 : decode cX12_next2 27 = .ok (.bipush 10, 2) := by decide +kernel
theorem dX12_next2_29 : decode cX12_next2 29 = .ok (.if_icmp .eq 16, 3) := by decide +kernel
theorem dX12_next2_32 : decode cX12_next2 32 = .ok (.aload_n 0, 1) := by decide +kernel
theorem dX12_next2_33 : decode cX12_next2 33 = .ok (.aload_n 0, 1) := by decide +kernel
theorem dX12_next2_34 : decode cX12_next2 34 = .ok (.getfield 127, 3) := by decide +kernel
theorem dX12_next2_37 : decode cX12_next2 37 = .ok (.invokevirtual 130, 3) := by decide +kernel
theorem dX12_next2_40 : decode cX12_next2 40 = .ok (.bipush 32, 2) := by decide +kernel
theorem dX12_next2_42 : decode cX12_next2 42 = .ok (.if_icmp .ne 16, 3) := by decide +kernel
theorem dX12_next2_45 : decode cX12_next2 45 = .ok (.aload_n 0, 1) := by decide +kernel
theorem dX12_next2_46 : decode cX12_next2 46 = .ok (.dup, 1) := by decide +kernel
theorem dX12_next2_47 : decode cX12_next2 47 = .ok (.getfield 127, 3) := by decide +kernel
theorem dX12_next2_50 : decode cX12_next2 50 = .ok (.iconst 1, 1) := by decide +kernel
theorem dX12_next2_51 : decode cX12_next2 51 = .ok (.iadd, 1) := by decide +kernel
theorem dX12_next2_52 : decode cX12_next2 52 = .ok (.putfield 127, 3) := by decide +kernel
theorem dX12_next2_55 : decode cX12_next2 55 = .ok (.goto (-47), 3) := by decide +kernel
theorem dX12_next2_58 : decode cX12_next2 58 = .ok (.aload_n 0, 1) := by decide +kernel
theorem dX12_next2_59 : decode cX12_next2 59 = .ok (.aload_n 0, 1) := by decide +kernel
theorem dX12_next2_60 : decode cX12_next2 60 = .ok (.getfield 127, 3) := by decide +kernel
theorem dX12_next2_63 : decode cX12_next2 63 = .ok (.putfield 124, 3) := by decide +kernel
theorem dX12_next2_66 : decode cX12_next2 66 = .ok (.aload_n 0, 1) := by decide +kernel
theorem dX12_next2_67 : decode cX12_next2 67 = .ok (.getfield 127, 3) := by decide +kernel
theorem dX12_next2_70 : decode cX12_next2 70 = .ok (.aload_n 0, 1) := by decide +kernel
theorem dX12_next2_71 : decode cX12_next2 71 = .ok (.getfield 121, 3) := by decide +kernel
theorem dX12_next2_74 : decode cX12_next2 74 = .ok (.if_icmp .lt 9, 3) := by decide +kernel
theorem dX12_next2_77 : decode cX12_next2 77 = .ok (.aload_n 0, 1) := by decide +kernel
theorem dX12_next2_78 : decode cX12_next2 78 = .ok (.iconst 0, 1) := by decide +kernel
theorem dX12_next2_79 : decode cX12_next2 79 = .ok (.putfield 133, 3) := by decide +kernel
theorem dX12_next2_82 : decode cX12_next2 82 = .ok (.return_, 1) := by decide +kernel
theorem dX12_next2_83 : decode cX12_next2 83 = .ok (.aload_n 0, 1) := by decide +kernel
theorem dX12_next2_84 : decode cX12_next2 84 = .ok (.aload_n 0, 1) := by decide +kernel
theorem dX12_next2_85 : decode cX12_next2 85 = .ok (.getfield 127, 3) := by decide +kernel
theorem dX12_next2_88 : decode cX12_next2 88 = .ok (.invokevirtual 130, 3) := by decide +kernel
theorem dX12_next2_91 : decode cX12_next2 91 = .ok (.istore_n 1, 1) := by decide +kernel
theorem dX12_next2_92 : decode cX12_next2 92 = .ok (.iload_n 1, 1) := by decide +kernel
theorem dX12_next2_93 : decode cX12_next2 93 = .ok (.invokestatic 136, 3) := by decide +kernel
theorem dX12_next2_96 : decode cX12_next2 96 = .ok (.ifCond .eq 102, 3) := by decide +kernel
theorem dX12_next2_99 : decode cX12_next2 99 = .ok (.aload_n 0, 1) := by decide +kernel
theorem dX12_next2_100 : decode cX12_next2 100 = .ok (.iconst 1, 1) := by decide +kernel
theorem dX12_next2_101 : decode cX12_next2 101 = .ok (.putfield 133, 3) := by decide +kernel
theorem dX12_next2_104 : decode cX12_next2 104 = .ok (.aload_n 0, 1) := by decide +kernel
theorem dX12_next2_105 : decode cX12_next2 105 = .ok (.lconst 0, 1) := by decide +kernel
theorem dX12_next2_106 : decode cX12_next2 106 = .ok (.putfield 139, 3) := by decide +kernel
theorem dX12_next2_109 : decode cX12_next2 109 = .ok (.aload_n 0, 1) := by decide +kernel
theorem dX12_next2_110 : decode cX12_next2 110 = .ok (.aload_n 0, 1) := by decide +kernel
theorem dX12_next2_111 : decode cX12_next2 111 = .ok (.getfield 124, 3) := by decide +kernel
theorem dX12_next2_114 : decode cX12_next2 114 = .ok (.invokevirtual 130, 3) := by decide +kernel
theorem dX12_next2_117 : decode cX12_next2 117 = .ok (.invokestatic 136, 3) := by decide +kernel
theorem dX12_next2_120 : decode cX12_next2 120 = .ok (.ifCond .eq 62, 3) := by decide +kernel
theorem dX12_next2_123 : decode cX12_next2 123 = .ok (.aload_n 0, 1) := by decide +kernel
theorem dX12_next2_124 : decode cX12_next2 124 = .ok (.aload_n 0, 1) := by decide +kernel
theorem dX12_next2_125 : decode cX12_next2 125 = .ok (.getfield 124, 3) := by decide +kernel
theorem dX12_next2_128 : decode cX12_next2 128 = .ok (.aload_n 0, 1) := by decide +kernel
theorem dX12_next2_129 : decode cX12_next2 129 = .ok (.getfield 127, 3) := by decide +kernel
theorem dX12_next2_132 : decode cX12_next2 132 = .ok (.isub, 1) := by decide +kernel
theorem dX12_next2_133 : decode cX12_next2 133 = .ok (.bipush 8, 2) := by decide +kernel
theorem dX12_next2_135 : decode cX12_next2 135 = .ok (.if_icmp .ge 28, 3) := by decide +kernel
theorem dX12_next2_138 : decode cX12_next2 138 = .ok (.aload_n 0, 1) := by decide +kernel
theorem dX12_next2_139 : decode cX12_next2 139 = .ok (.getfield 139, 3) := by decide +kernel
theorem dX12_next2_142 : decode cX12_next2 142 = .ok (.ldc2_w 142, 3) := by decide +kernel
theorem dX12_next2_145 : decode cX12_next2 145 = .ok (.lmul, 1) := by decide +kernel
theorem dX12_next2_146 : decode cX12_next2 146 = .ok (.aload_n 0, 1) := by decide +kernel
theorem dX12_next2_147 : decode cX12_next2 147 = .ok (.aload_n 0, 1) := by decide +kernel
theorem dX12_next2_148 : decode cX12_next2 148 = .ok (.getfield 124, 3) := by decide +kernel
theorem dX12_next2_151 : decode cX12_next2 151 = .ok (.invokevirtual 130, 3) := by decide +kernel
theorem dX12_next2_154 : decode cX12_next2 154 = .ok (.i2l, 1) := by decide +kernel
theorem dX12_next2_155 : decode cX12_next2 155 = .ok (.ladd, 1) := by decide +kernel
theorem dX12_next2_156 : decode cX12_next2 156 = .ok (.ldc2_w 144, 3) := by decide +kernel
theorem dX12_next2_159 : decode cX12_next2 159 = .ok (.lsub, 1) := by decide +kernel
theorem dX12_next2_160 : decode cX12_next2 160 = .ok (.goto 6, 3) := by decide +kernel
theorem dX12_next2_163 : decode cX12_next2 163 = .ok (.ldc2_w 113, 3) := by decide +kernel
theorem dX12_next2_166 : decode cX12_next2 166 = .ok (.putfield 139, 3) := by decide +kernel
theorem dX12_next2_169 : decode cX12_next2 169 = .ok (.aload_n 0, 1) := by decide +kernel
theorem dX12_next2_170 : decode cX12_next2 170 = .ok (.dup, 1) := by decide +kernel
theorem dX12_next2_171 : decode cX12_next2 171 = .ok (.getfield 124, 3) := by decide +kernel
theorem dX12_next2_174 : decode cX12_next2 174 = .ok (.iconst 1, 1) := by decide +kernel
theorem dX12_next2_175 : decode cX12_next2 175 = .ok (.iadd, 1) := by decide +kernel
theorem dX12_next2_176 : decode cX12_next2 176 = .ok (.putfield 124, 3) := by decide +kernel
theorem dX12_next2_179 : decode cX12_next2 179 = .ok (.goto (-70), 3) := by decide +kernel
theorem dX12_next2_182 : decode cX12_next2 182 = .ok (.aload_n 0, 1) := by decide +kernel
theorem dX12_next2_183 : decode cX12_next2 183 = .ok (.aload_n 0, 1) := by decide +kernel
theorem dX12_next2_184 : decode cX12_next2 184 = .ok (.getfield 124, 3) := by decide +kernel
theorem dX12_next2_187 : decode cX12_next2 187 = .ok (.aload_n 0, 1) := by decide +kernel
theorem dX12_next2_188 : decode cX12_next2 188 = .ok (.getfield 127, 3) := by decide +kernel
theorem dX12_next2_191 : decode cX12_next2 191 = .ok (.isub, 1) := by decide +kernel
theorem dX12_next2_192 : decode cX12_next2 192 = .ok (.putfield 146, 3) := by decide +kernel
theorem dX12_next2_195 : decode cX12_next2 195 = .ok (.goto 135, 3) := by decide +kernel
theorem dX12_next2_198 : decode cX12_next2 198 = .ok (.iload_n 1, 1) := by decide +kernel
theorem dX12_next2_199 : decode cX12_next2 199 = .ok (.invokestatic 149, 3) := by decide +kernel
theorem dX12_next2_202 : decode cX12_next2 202 = .ok (.ifCond .eq 96, 3) := by decide +kernel
theorem dX12_next2_205 : decode cX12_next2 205 = .ok (.aload_n 0, 1) := by decide +kernel
theorem dX12_next2_206 : decode cX12_next2 206 = .ok (.iconst 0, 1) := by decide +kernel
theorem dX12_next2_207 : decode cX12_next2 207 = .ok (.putfield 152, 3) := by decide +kernel
theorem dX12_next2_210 : decode cX12_next2 210 = .ok (.aload_n 0, 1) := by decide +kernel
theorem dX12_next2_211 : decode cX12_next2 211 = .ok (.aload_n 0, 1) := by decide +kernel
theorem dX12_next2_212 : decode cX12_next2 212 = .ok (.getfield 124, 3) := by decide +kernel
theorem dX12_next2_215 : decode cX12_next2 215 = .ok (.invokevirtual 130, 3) := by decide +kernel
theorem dX12_next2_218 : decode cX12_next2 218 = .ok (.invokestatic 149, 3) := by decide +kernel
theorem dX12_next2_221 : decode cX12_next2 221 = .ok (.ifCond .eq 52, 3) := by decide +kernel
theorem dX12_next2_224 : decode cX12_next2 224 = .ok (.aload_n 0, 1) := by decide +kernel
theorem dX12_next2_225 : decode cX12_next2 225 = .ok (.getfield 124, 3) := by decide +kernel
theorem dX12_next2_228 : decode cX12_next2 228 = .ok (.aload_n 0, 1) := by decide +kernel
theorem dX12_next2_229 : decode cX12_next2 229 = .ok (.getfield 127, 3) := by decide +kernel
theorem dX12_next2_232 : decode cX12_next2 232 = .ok (.isub, 1) := by decide +kernel
theorem dX12_next2_233 : decode cX12_next2 233 = .ok (.iconst 4, 1) := by decide +kernel
theorem dX12_next2_234 : decode cX12_next2 234 = .ok (.if_icmp .ge 26, 3) := by decide +kernel
theorem dX12_next2_237 : decode cX12_next2 237 = .ok (.aload_n 0, 1) := by decide +kernel
theorem dX12_next2_238 : decode cX12_next2 238 = .ok (.bipush 10, 2) := by decide +kernel
theorem dX12_next2_240 : decode cX12_next2 240 = .ok (.aload_n 0, 1) := by decide +kernel
theorem dX12_next2_241 : decode cX12_next2 241 = .ok (.getfield 152, 3) := by decide +kernel
theorem dX12_next2_244 : decode cX12_next2 244 = .ok (.imul, 1) := by decide +kernel
theorem dX12_next2_245 : decode cX12_next2 245 = .ok (.aload_n 0, 1) := by decide +kernel
theorem dX12_next2_246 : decode cX12_next2 246 = .ok (.aload_n 0, 1) := by decide +kernel
theorem dX12_next2_247 : decode cX12_next2 247 = .ok (.getfield 124, 3) := by decide +kernel
theorem dX12_next2_250 : decode cX12_next2 250 = .ok (.invokevirtual 130, 3) := by decide +kernel
theorem dX12_next2_253 : decode cX12_next2 253 = .ok (.iadd, 1) := by decide +kernel
theorem dX12_next2_254 : decode cX12_next2 254 = .ok (.bipush 48, 2) := by decide +kernel
theorem dX12_next2_256 : decode cX12_next2 256 = .ok (.isub, 1) := by decide +kernel
theorem dX12_next2_257 : decode cX12_next2 257 = .ok (.putfield 152, 3) := by decide +kernel
theorem dX12_next2_260 : decode cX12_next2 260 = .ok (.aload_n 0, 1) := by decide +kernel
theorem dX12_next2_261 : decode cX12_next2 261 = .ok (.dup, 1) := by decide +kernel
theorem dX12_next2_262 : decode cX12_next2 262 = .ok (.getfield 124, 3) := by decide +kernel
theorem dX12_next2_265 : decode cX12_next2 265 = .ok (.iconst 1, 1) := by decide +kernel
theorem dX12_next2_266 : decode cX12_next2 266 = .ok (.iadd, 1) := by decide +kernel
theorem dX12_next2_267 : decode cX12_next2 267 = .ok (.putfield 124, 3) := by decide +kernel
theorem dX12_next2_270 : decode cX12_next2 270 = .ok (.goto (-60), 3) := by decide +kernel
theorem dX12_next2_273 : decode cX12_next2 273 = .ok (.aload_n 0, 1) := by decide +kernel
theorem dX12_next2_274 : decode cX12_next2 274 = .ok (.aload_n 0, 1) := by decide +kernel
theorem dX12_next2_275 : decode cX12_next2 275 = .ok (.getfield 124, 3) := by decide +kernel
theorem dX12_next2_278 : decode cX12_next2 278 = .ok (.aload_n 0, 1) := by decide +kernel
theorem dX12_next2_279 : decode cX12_next2 279 = .ok (.getfield 127, 3) := by decide +kernel
theorem dX12_next2_282 : decode cX12_next2 282 = .ok (.isub, 1) := by decide +kernel
theorem dX12_next2_283 : decode cX12_next2 283 = .ok (.iconst 4, 1) := by decide +kernel
theorem dX12_next2_284 : decode cX12_next2 284 = .ok (.if_icmp .le 7, 3) := by decide +kernel
theorem dX12_next2_287 : decode cX12_next2 287 = .ok (.iconst 4, 1) := by decide +kernel
theorem dX12_next2_288 : decode cX12_next2 288 = .ok (.goto 4, 3) := by decide +kernel
theorem dX12_next2_291 : decode cX12_next2 291 = .ok (.iconst 2, 1) := by decide +kernel
theorem dX12_next2_292 : decode cX12_next2 292 = .ok (.putfield 133, 3) := by decide +kernel
theorem dX12_next2_295 : decode cX12_next2 295 = .ok (.goto 35, 3) := by decide +kernel
theorem dX12_next2_298 : decode cX12_next2 298 = .ok (.aload_n 0, 1) := by decide +kernel
theorem dX12_next2_299 : decode cX12_next2 299 = .ok (.aload_n 0, 1) := by decide +kernel
theorem dX12_next2_300 : decode cX12_next2 300 = .ok (.getfield 127, 3) := by decide +kernel
theorem dX12_next2_303 : decode cX12_next2 303 = .ok (.iconst 1, 1) := by decide +kernel
theorem dX12_next2_304 : decode cX12_next2 304 = .ok (.iadd, 1) := by decide +kernel
theorem dX12_next2_305 : decode cX12_next2 305 = .ok (.putfield 124, 3) := by decide +kernel
theorem dX12_next2_308 : decode cX12_next2 308 = .ok (.aload_n 0, 1) := by decide +kernel
theorem dX12_next2_309 : decode cX12_next2 309 = .ok (.iload_n 1, 1) := by decide +kernel
theorem dX12_next2_310 : decode cX12_next2 310 = .ok (.putfield 152, 3) := by decide +kernel
theorem dX12_next2_313 : decode cX12_next2 313 = .ok (.aload_n 0, 1) := by decide +kernel
theorem dX12_next2_314 : decode cX12_next2 314 = .ok (.aload_n 0, 1) := by decide +kernel
theorem dX12_next2_315 : decode cX12_next2 315 = .ok (.iload_n 1, 1) := by decide +kernel
theorem dX12_next2_316 : decode cX12_next2 316 = .ok (.invokevirtual 155, 3) := by decide +kernel
theorem dX12_next2_319 : decode cX12_next2 319 = .ok (.ifCond .eq 7, 3) := by decide +kernel
theorem dX12_next2_322 : decode cX12_next2 322 = .ok (.iconst 3, 1) := by decide +kernel
theorem dX12_next2_323 : decode cX12_next2 323 = .ok (.goto 4, 3) := by decide +kernel
theorem dX12_next2_326 : decode cX12_next2 326 = .ok (.iconst 4, 1) := by decide +kernel
theorem dX12_next2_327 : decode cX12_next2 327 = .ok (.putfield 133, 3) := by decide +kernel
theorem dX12_next2_330 : decode cX12_next2 330 = .ok (.return_, 1) := by decide +kernel
theorem dX12_no_0 : decode cX12_no 0 = .ok (.aload_n 0, 1) := by decide +kernel
theorem dX12_no_1 : decode cX12_no 1 = .ok (.iload_n 1, 1) := by decide +kernel
theorem dX12_no_2 : decode cX12_no 2 = .ok (.putfield 85, 3) := by decide +kernel
theorem dX12_no_5 : decode cX12_no 5 = .ok (.iconst 0, 1) := by decide +kernel
theorem dX12_no_6 : decode cX12_no 6 = .ok (.ireturn, 1) := by decide +kernel
theorem dX12_numberOf_0 : decode cX12_numberOf 0 = .ok (.aload_n 0, 1) := by decide +kernel
theorem dX12_numberOf_1 : decode cX12_numberOf 1 = .ok (.getfield 20, 3) := by decide +kernel
theorem dX12_numberOf_4 : decode cX12_numberOf 4 = .ok (.bipush 60, 2) := by decide +kernel
theorem dX12_numberOf_6 : decode cX12_numberOf 6 = .ok (.iload_n 1, 1) := by decide +kernel
theorem dX12_numberOf_7 : decode cX12_numberOf 7 = .ok (.imul, 1) := by decide +kernel
theorem dX12_numberOf_8 : decode cX12_numberOf 8 = .ok (.iload_n 2, 1) := by decide +kernel
theorem dX12_numberOf_9 : decode cX12_numberOf 9 = .ok (.iadd, 1) := by decide +kernel
theorem dX12_numberOf_10 : decode cX12_numberOf 10 = .ok (.laload, 1) := by decide +kernel
theorem dX12_numberOf_11 : decode cX12_numberOf 11 = .ok (.lreturn, 1) := by decide +kernel
theorem dX12_off_0 : decode cX12_off 0 = .ok (.aload_n 0, 1) := by decide +kernel
theorem dX12_off_1 : decode cX12_off 1 = .ok (.iconst 0, 1) := by decide +kernel
theorem dX12_off_2 : decode cX12_off 2 = .ok (.putfield 82, 3) := by decide +kernel
theorem dX12_off_5 : decode cX12_off 5 = .ok (.aload_n 0, 1) := by decide +kernel
theorem dX12_off_6 : decode cX12_off 6 = .ok (.iconst 0, 1) := by decide +kernel
theorem dX12_off_7 : decode cX12_off 7 = .ok (.putfield 85, 3) := by decide +kernel
theorem dX12_off_10 : decode cX12_off 10 = .ok (.aload_n 0, 1) := by decide +kernel
theorem dX12_off_11 : decode cX12_off 11 = .ok (.iload_n 1, 1) := by decide +kernel
theorem dX12_off_12 : decode cX12_off 12 = .ok (.i2l, 1) := by decide +kernel
theorem dX12_off_13 : decode cX12_off 13 = .ok (.invokevirtual 275, 3) := by decide +kernel
theorem dX12_off_16 : decode cX12_off 16 = .ok (.ifCond .ne 9, 3) := by decide +kernel
theorem dX12_off_19 : decode cX12_off 19 = .ok (.aload_n 0, 1) := by decide +kernel
theorem dX12_off_20 : decode cX12_off 20 = .ok (.iconst 2, 1) := by decide +kernel
theorem dX12_off_21 : decode cX12_off 21 = .ok (.invokevirtual 97, 3) := by decide +kernel
theorem dX12_off_24 : decode cX12_off 24 = .ok (.ireturn, 1) := by decide +kernel
theorem dX12_off_25 : decode cX12_off 25 = .ok (.aload_n 0, 1) := by decide +kernel
theorem dX12_off_26 : decode cX12_off 26 = .ok (.iload_n 1, 1) := by decide +kernel
theorem dX12_off_27 : decode cX12_off 27 = .ok (.invokevirtual 278, 3) := by decide +kernel
theorem dX12_off_30 : decode cX12_off 30 = .ok (.ifCond .ge 10, 3) := by decide +kernel
theorem dX12_off_33 : decode cX12_off 33 = .ok (.aload_n 0, 1) := by decide +kernel
theorem dX12_off_34 : decode cX12_off 34 = .ok (.bipush 8, 2) := by decide +kernel
theorem dX12_off_36 : decode cX12_off 36 = .ok (.invokevirtual 97, 3) := by decide +kernel
theorem dX12_off_39 : decode cX12_off 39 = .ok (.ireturn, 1) := by decide +kernel
theorem dX12_off_40 : decode cX12_off 40 = .ok (.aload_n 0, 1) := by decide +kernel
theorem dX12_off_41 : decode cX12_off 41 = .ok (.aload_n 0, 1) := by decide +kernel
theorem dX12_off_42 : decode cX12_off 42 = .ok (.iload_n 1, 1) := by decide +kernel
theorem dX12_off_43 : decode cX12_off 43 = .ok (.invokevirtual 278, 3) := by decide +kernel
theorem dX12_off_46 : decode cX12_off 46 = .ok (.invokevirtual 305, 3) := by decide +kernel
theorem dX12_off_49 : decode cX12_off 49 = .ok (.aload_n 0, 1) := by decide +kernel
theorem dX12_off_50 : decode cX12_off 50 = .ok (.iload_n 1, 1) := by decide +kernel
theorem dX12_off_51 : decode cX12_off 51 = .ok (.invokevirtual 312, 3) := by decide +kernel
theorem dX12_off_54 : decode cX12_off 54 = .ok (.iconst 1, 1) := by decide +kernel
theorem dX12_off_55 : decode cX12_off 55 = .ok (.ireturn, 1) := by decide +kernel
theorem dX12_onward_0 : decode cX12_onward 0 = .ok (.iload_n 1, 1) := by decide +kernel
theorem dX12_onward_1 : decode cX12_onward 1 = .ok (.iconst 2, 1) := by decide +kernel
theorem dX12_onward_2 : decode cX12_onward 2 = .ok (.irem, 1) := by decide +kernel
theorem dX12_onward_3 : decode cX12_onward 3 = .ok (.ifCond .ne 16, 3) := by decide +kernel
theorem dX12_onward_6 : decode cX12_onward 6 = .ok (.iload_n 1, 1) := by decide +kernel
theorem dX12_onward_7 : decode cX12_onward 7 = .ok (.iconst 2, 1) := by decide +kernel
theorem dX12_onward_8 : decode cX12_onward 8 = .ok (.idiv, 1) := by decide +kernel
theorem dX12_onward_9 : decode cX12_onward 9 = .ok (.iconst 1, 1) := by decide +kernel
theorem dX12_onward_10 : decode cX12_onward 10 = .ok (.iadd, 1) := by decide +kernel
theorem dX12_onward_11 : decode cX12_onward 11 = .ok (.aload_n 0, 1) := by decide +kernel
theorem dX12_onward_12 : decode cX12_onward 12 = .ok (.getfield 286, 3) := by decide +kernel
theorem dX12_onward_15 : decode cX12_onward 15 = .ok (.irem, 1) := by decide +kernel
theorem dX12_onward_16 : decode cX12_onward 16 = .ok (.goto 18, 3) := by decide +kernel
theorem dX12_onward_19 : decode cX12_onward 19 = .ok (.iload_n 1, 1) := by decide +kernel
theorem dX12_onward_20 : decode cX12_onward 20 = .ok (.iconst 2, 1) := by decide +kernel
theorem dX12_onward_21 : decode cX12_onward 21 = .ok (.idiv, 1) := by decide +kernel
theorem dX12_onward_22 : decode cX12_onward 22 = .ok (.aload_n 0, 1) := by decide +kernel
theorem dX12_onward_23 : decode cX12_onward 23 = .ok (.getfield 286, 3) := by decide +kernel
theorem dX12_onward_26 : decode cX12_onward 26 = .ok (.iadd, 1) := by decide +kernel
theorem dX12_onward_27 : decode cX12_onward 27 = .ok (.iconst 1, 1) := by decide +kernel
theorem dX12_onward_28 : decode cX12_onward 28 = .ok (.isub, 1) := by decide +kernel
theorem dX12_onward_29 : decode cX12_onward 29 = .ok (.aload_n 0, 1) := by decide +kernel
theorem dX12_onward_30 : decode cX12_onward 30 = .ok (.getfield 286, 3) := by decide +kernel
theorem dX12_onward_33 : decode cX12_onward 33 = .ok (.irem, 1) := by decide +kernel
theorem dX12_onward_34 : decode cX12_onward 34 = .ok (.istore_n 2, 1) := by decide +kernel
theorem dX12_onward_35 : decode cX12_onward 35 = .ok (.iconst 2, 1) := by decide +kernel
theorem dX12_onward_36 : decode cX12_onward 36 = .ok (.iload_n 2, 1) := by decide +kernel
theorem dX12_onward_37 : decode cX12_onward 37 = .ok (.imul, 1) := by decide +kernel
theorem dX12_onward_38 : decode cX12_onward 38 = .ok (.iload_n 1, 1) := by decide +kernel
theorem dX12_onward_39 : decode cX12_onward 39 = .ok (.iconst 2, 1) := by decide +kernel
theorem dX12_onward_40 : decode cX12_onward 40 = .ok (.irem, 1) := by decide +kernel
theorem dX12_onward_41 : decode cX12_onward 41 = .ok (.iadd, 1) := by decide +kernel
theorem dX12_onward_42 : decode cX12_onward 42 = .ok (.ireturn, 1) := by decide +kernel
theorem dX12_opens_0 : decode cX12_opens 0 = .ok (.aload_n 0, 1) := by decide +kernel
theorem dX12_opens_1 : decode cX12_opens 1 = .ok (.iconst 0, 1) := by decide +kernel
theorem dX12_opens_2 : decode cX12_opens 2 = .ok (.putfield 82, 3) := by decide +kernel
theorem dX12_opens_5 : decode cX12_opens 5 = .ok (.aload_n 0, 1) := by decide +kernel
theorem dX12_opens_6 : decode cX12_opens 6 = .ok (.iconst 0, 1) := by decide +kernel
theorem dX12_opens_7 : decode cX12_opens 7 = .ok (.putfield 85, 3) := by decide +kernel
theorem dX12_opens_10 : decode cX12_opens 10 = .ok (.aload_n 0, 1) := by decide +kernel
theorem dX12_opens_11 : decode cX12_opens 11 = .ok (.iload_n 1, 1) := by decide +kernel
theorem dX12_opens_12 : decode cX12_opens 12 = .ok (.invokevirtual 295, 3) := by decide +kernel
theorem dX12_opens_15 : decode cX12_opens 15 = .ok (.ifCond .ne 9, 3) := by decide +kernel
theorem dX12_opens_18 : decode cX12_opens 18 = .ok (.aload_n 0, 1) := by decide +kernel
theorem dX12_opens_19 : decode cX12_opens 19 = .ok (.iconst 2, 1) := by decide +kernel
theorem dX12_opens_20 : decode cX12_opens 20 = .ok (.invokevirtual 97, 3) := by decide +kernel
theorem dX12_opens_23 : decode cX12_opens 23 = .ok (.ireturn, 1) := by decide +kernel
theorem dX12_opens_24 : decode cX12_opens 24 = .ok (.aload_n 0, 1) := by decide +kernel
theorem dX12_opens_25 : decode cX12_opens 25 = .ok (.invokevirtual 323, 3) := by decide +kernel
theorem dX12_opens_28 : decode cX12_opens 28 = .ok (.ifCond .eq 18, 3) := by decide +kernel
theorem dX12_opens_31 : decode cX12_opens 31 = .ok (.aload_n 0, 1) := by decide +kernel
theorem dX12_opens_32 : decode cX12_opens 32 = .ok (.aload_n 0, 1) := by decide +kernel
theorem dX12_opens_33 : decode cX12_opens 33 = .ok (.iload_n 1, 1) := by decide +kernel
theorem dX12_opens_34 : decode cX12_opens 34 = .ok (.invokevirtual 356, 3) := by decide +kernel
theorem dX12_opens_37 : decode cX12_opens 37 = .ok (.ldc2_w 315, 3) := by decide +kernel
theorem dX12_opens_40 : decode cX12_opens 40 = .ok (.invokevirtual 352, 3) := by decide +kernel
theorem dX12_opens_43 : decode cX12_opens 43 = .ok (.goto 9, 3) := by decide +kernel
theorem dX12_opens_46 : decode cX12_opens 46 = .ok (.aload_n 0, 1) := by decide +kernel
theorem dX12_opens_47 : decode cX12_opens 47 = .ok (.bipush 8, 2) := by decide +kernel
theorem dX12_opens_49 : decode cX12_opens 49 = .ok (.invokevirtual 97, 3) := by decide +kernel
theorem dX12_opens_52 : decode cX12_opens 52 = .ok (.ireturn, 1) := by decide +kernel
theorem dX12_opensOf_0 : decode cX12_opensOf 0 = .ok (.lconst 0, 1) := by decide +kernel
theorem dX12_opensOf_1 : decode cX12_opensOf 1 = .ok (.lstore_n 2, 1) := by decide +kernel
theorem dX12_opensOf_2 : decode cX12_opensOf 2 = .ok (.iconst 0, 1) := by decide +kernel
theorem dX12_opensOf_3 : decode cX12_opensOf 3 = .ok (.istore 4, 2) := by decide +kernel
theorem dX12_opensOf_5 : decode cX12_opensOf 5 = .ok (.iload 4, 2) := by decide +kernel
theorem dX12_opensOf_7 : decode cX12_opensOf 7 = .ok (.iconst 2, 1) := by decide +kernel
theorem dX12_opensOf_8 : decode cX12_opensOf 8 = .ok (.aload_n 0, 1) := by decide +kernel
theorem dX12_opensOf_9 : decode cX12_opensOf 9 = .ok (.getfield 286, 3) := by decide +kernel
theorem dX12_opensOf_12 : decode cX12_opensOf 12 = .ok (.imul, 1) := by decide +kernel
theorem dX12_opensOf_13 : decode cX12_opensOf 13 = .ok (.if_icmp .ge 45, 3) := by decide +kernel
theorem dX12_opensOf_16 : decode cX12_opensOf 16 = .ok (.lload_n 2, 1) := by decide +kernel
theorem dX12_opensOf_17 : decode cX12_opensOf 17 = .ok (.aload_n 0, 1) := by decide +kernel
theorem dX12_opensOf_18 : decode cX12_opensOf 18 = .ok (.aload_n 0, 1) := by decide +kernel
theorem dX12_opensOf_19 : decode cX12_opensOf 19 = .ok (.getfield 41, 3) := by decide +kernel
theorem dX12_opensOf_22 : decode cX12_opensOf 22 = .ok (.iload 4, 2) := by decide +kernel
theorem dX12_opensOf_24 : decode cX12_opensOf 24 = .ok (.iconst 2, 1) := by decide +kernel
theorem dX12_opensOf_25 : decode cX12_opensOf 25 = .ok (.idiv, 1) := by decide +kernel
theorem dX12_opensOf_26 : decode cX12_opensOf 26 = .ok (.iaload, 1) := by decide +kernel
theorem dX12_opensOf_27 : decode cX12_opensOf 27 = .ok (.iload_n 1, 1) := by decide +kernel
theorem dX12_opensOf_28 : decode cX12_opensOf 28 = .ok (.invokevirtual 345, 3) := by decide +kernel
theorem dX12_opensOf_31 : decode cX12_opensOf 31 = .ok (.ifCond .eq 18, 3) := by decide +kernel
theorem dX12_opensOf_34 : decode cX12_opensOf 34 = .ok (.aload_n 0, 1) := by decide +kernel
theorem dX12_opensOf_35 : decode cX12_opensOf 35 = .ok (.getfield 35, 3) := by decide +kernel
theorem dX12_opensOf_38 : decode cX12_opensOf 38 = .ok (.sipush 160, 3) := by decide +kernel
theorem dX12_opensOf_41 : decode cX12_opensOf 41 = .ok (.iload 4, 2) := by decide +kernel
theorem dX12_opensOf_43 : decode cX12_opensOf 43 = .ok (.iadd, 1) := by decide +kernel
theorem dX12_opensOf_44 : decode cX12_opensOf 44 = .ok (.iaload, 1) := by decide +kernel
theorem dX12_opensOf_45 : decode cX12_opensOf 45 = .ok (.i2l, 1) := by decide +kernel
theorem dX12_opensOf_46 : decode cX12_opensOf 46 = .ok (.goto 4, 3) := by decide +kernel
theorem dX12_opensOf_49 : decode cX12_opensOf 49 = .ok (.lconst 0, 1) := by decide +kernel
theorem dX12_opensOf_50 : decode cX12_opensOf 50 = .ok (.ladd, 1) := by decide +kernel
theorem dX12_opensOf_51 : decode cX12_opensOf 51 = .ok (.lstore_n 2, 1) := by decide +kernel
theorem dX12_opensOf_52 : decode cX12_opensOf 52 = .ok (.iinc 4 1, 3) := by decide +kernel
theorem dX12_opensOf_55 : decode cX12_opensOf 55 = .ok (.goto (-50), 3) := by decide +kernel
theorem dX12_opensOf_58 : decode cX12_opensOf 58 = .ok (.lload_n 2, 1) := by decide +kernel
theorem dX12_opensOf_59 : decode cX12_opensOf 59 = .ok (.lreturn, 1) := by decide +kernel
theorem dX12_orderFrom_0 : decode cX12_orderFrom 0 = .ok (.iload_n 1, 1) := by decide +kernel
theorem dX12_orderFrom_1 : decode cX12_orderFrom 1 = .ok (.aload_n 0, 1) := by decide +kernel
theorem dX12_orderFrom_2 : decode cX12_orderFrom 2 = .ok (.getfield 402, 3) := by decide +kernel
theorem dX12_orderFrom_5 : decode cX12_orderFrom 5 = .ok (.if_icmp .ne 8, 3) := by decide +kernel
theorem dX12_orderFrom_8 : decode cX12_orderFrom 8 = .ok (.aload_n 0, 1) := by decide +kernel
theorem dX12_orderFrom_9 : decode cX12_orderFrom 9 = .ok (.invokevirtual 420, 3) := by decide +kernel
theorem dX12_orderFrom_12 : decode cX12_orderFrom 12 = .ok (.return_, 1) := by decide +kernel
theorem dX12_orderFrom_13 : decode cX12_orderFrom 13 = .ok (.iconst 0, 1) := by decide +kernel
theorem dX12_orderFrom_14 : decode cX12_orderFrom 14 = .ok (.istore_n 2, 1) := by decide +kernel
theorem dX12_orderFrom_15 : decode cX12_orderFrom 15 = .ok (.iload_n 2, 1) := by decide +kernel
theorem dX12_orderFrom_16 : decode cX12_orderFrom 16 = .ok (.aload_n 0, 1) := by decide +kernel
theorem dX12_orderFrom_17 : decode cX12_orderFrom 17 = .ok (.getfield 35, 3) := by decide +kernel
theorem dX12_orderFrom_20 : decode cX12_orderFrom 20 = .ok (.iconst 1, 1) := by decide +kernel
theorem dX12_orderFrom_21 : decode cX12_orderFrom 21 = .ok (.iaload, 1) := by decide +kernel
theorem dX12_orderFrom_22 : decode cX12_orderFrom 22 = .ok (.if_icmp .ge 43, 3) := by decide +kernel
theorem dX12_orderFrom_25 : decode cX12_orderFrom 25 = .ok (.aload_n 0, 1) := by decide +kernel
theorem dX12_orderFrom_26 : decode cX12_orderFrom 26 = .ok (.iload_n 2, 1) := by decide +kernel
theorem dX12_orderFrom_27 : decode cX12_orderFrom 27 = .ok (.invokevirtual 423, 3) := by decide +kernel
theorem dX12_orderFrom_30 : decode cX12_orderFrom 30 = .ok (.ifCond .eq 29, 3) := by decide +kernel
theorem dX12_orderFrom_33 : decode cX12_orderFrom 33 = .ok (.aload_n 0, 1) := by decide +kernel
theorem dX12_orderFrom_34 : decode cX12_orderFrom 34 = .ok (.iload_n 2, 1) := by decide +kernel
theorem dX12_orderFrom_35 : decode cX12_orderFrom 35 = .ok (.iload_n 1, 1) := by decide +kernel
theorem dX12_orderFrom_36 : decode cX12_orderFrom 36 = .ok (.invokevirtual 426, 3) := by decide +kernel
theorem dX12_orderFrom_39 : decode cX12_orderFrom 39 = .ok (.ifCond .eq 6, 3) := by decide +kernel
theorem dX12_orderFrom_42 : decode cX12_orderFrom 42 = .ok (.goto 17, 3) := by decide +kernel
theorem dX12_orderFrom_45 : decode cX12_orderFrom 45 = .ok (.aload_n 0, 1) := by decide +kernel
theorem dX12_orderFrom_46 : decode cX12_orderFrom 46 = .ok (.getfield 44, 3) := by decide +kernel
theorem dX12_orderFrom_49 : decode cX12_orderFrom 49 = .ok (.iload_n 1, 1) := by decide +kernel
theorem dX12_orderFrom_50 : decode cX12_orderFrom 50 = .ok (.iload_n 2, 1) := by decide +kernel
theorem dX12_orderFrom_51 : decode cX12_orderFrom 51 = .ok (.iastore, 1) := by decide +kernel
theorem dX12_orderFrom_52 : decode cX12_orderFrom 52 = .ok (.aload_n 0, 1) := by decide +kernel
theorem dX12_orderFrom_53 : decode cX12_orderFrom 53 = .ok (.iload_n 1, 1) := by decide +kernel
theorem dX12_orderFrom_54 : decode cX12_orderFrom 54 = .ok (.iconst 1, 1) := by decide +kernel
theorem dX12_orderFrom_55 : decode cX12_orderFrom 55 = .ok (.iadd, 1) := by decide +kernel
theorem dX12_orderFrom_56 : decode cX12_orderFrom 56 = .ok (.invokevirtual 429, 3) := by decide +kernel
theorem dX12_orderFrom_59 : decode cX12_orderFrom 59 = .ok (.iinc 2 1, 3) := by decide +kernel
theorem dX12_orderFrom_62 : decode cX12_orderFrom 62 = .ok (.goto (-47), 3) := by decide +kernel
theorem dX12_orderFrom_65 : decode cX12_orderFrom 65 = .ok (.return_, 1) := by decide +kernel
theorem dX12_part_0 : decode cX12_part 0 = .ok (.aload_n 0, 1) := by decide +kernel
theorem dX12_part_1 : decode cX12_part 1 = .ok (.iconst 0, 1) := by decide +kernel
theorem dX12_part_2 : decode cX12_part 2 = .ok (.putfield 82, 3) := by decide +kernel
theorem dX12_part_5 : decode cX12_part 5 = .ok (.aload_n 0, 1) := by decide +kernel
theorem dX12_part_6 : decode cX12_part 6 = .ok (.iconst 0, 1) := by decide +kernel
theorem dX12_part_7 : decode cX12_part 7 = .ok (.putfield 85, 3) := by decide +kernel
theorem dX12_part_10 : decode cX12_part 10 = .ok (.aload_n 0, 1) := by decide +kernel
theorem dX12_part_11 : decode cX12_part 11 = .ok (.invokevirtual 323, 3) := by decide +kernel
theorem dX12_part_14 : decode cX12_part 14 = .ok (.ifCond .ne 10, 3) := by decide +kernel
theorem dX12_part_17 : decode cX12_part 17 = .ok (.aload_n 0, 1) := by decide +kernel
theorem dX12_part_18 : decode cX12_part 18 = .ok (.bipush 8, 2) := by decide +kernel
theorem dX12_part_20 : decode cX12_part 20 = .ok (.invokevirtual 269, 3) := by decide +kernel
theorem dX12_part_23 : decode cX12_part 23 = .ok (.ireturn, 1) := by decide +kernel
theorem dX12_part_24 : decode cX12_part 24 = .ok (.iload_n 1, 1) := by decide +kernel
theorem dX12_part_25 : decode cX12_part 25 = .ok (.i2l, 1) := by decide +kernel
theorem dX12_part_26 : decode cX12_part 26 = .ok (.lconst 0, 1) := by decide +kernel
theorem dX12_part_27 : decode cX12_part 27 = .ok (.aload_n 0, 1) := by decide +kernel
theorem dX12_part_28 : decode cX12_part 28 = .ok (.getfield 286, 3) := by decide +kernel
theorem dX12_part_31 : decode cX12_part 31 = .ok (.iconst 1, 1) := by decide +kernel
theorem dX12_part_32 : decode cX12_part 32 = .ok (.isub, 1) := by decide +kernel
theorem dX12_part_33 : decode cX12_part 33 = .ok (.i2l, 1) := by decide +kernel
theorem dX12_part_34 : decode cX12_part 34 = .ok (.invokestatic 117, 3) := by decide +kernel
theorem dX12_part_37 : decode cX12_part 37 = .ok (.ifCond .eq 30, 3) := by decide +kernel
theorem dX12_part_40 : decode cX12_part 40 = .ok (.iload_n 2, 1) := by decide +kernel
theorem dX12_part_41 : decode cX12_part 41 = .ok (.i2l, 1) := by decide +kernel
theorem dX12_part_42 : decode cX12_part 42 = .ok (.lconst 0, 1) := by decide +kernel
theorem dX12_part_43 : decode cX12_part 43 = .ok (.lconst 1, 1) := by decide +kernel
theorem dX12_part_44 : decode cX12_part 44 = .ok (.invokestatic 117, 3) := by decide +kernel
theorem dX12_part_47 : decode cX12_part 47 = .ok (.ifCond .eq 20, 3) := by decide +kernel
theorem dX12_part_50 : decode cX12_part 50 = .ok (.aload_n 0, 1) := by decide +kernel
theorem dX12_part_51 : decode cX12_part 51 = .ok (.getfield 35, 3) := by decide +kernel
theorem dX12_part_54 : decode cX12_part 54 = .ok (.sipush 160, 3) := by decide +kernel
theorem dX12_part_57 : decode cX12_part 57 = .ok (.iconst 2, 1) := by decide +kernel
theorem dX12_part_58 : decode cX12_part 58 = .ok (.iload_n 1, 1) := by decide +kernel
theorem dX12_part_59 : decode cX12_part 59 = .ok (.imul, 1) := by decide +kernel
theorem dX12_part_60 : decode cX12_part 60 = .ok (.iadd, 1) := by decide +kernel
theorem dX12_part_61 : decode cX12_part 61 = .ok (.iload_n 2, 1) := by decide +kernel
theorem dX12_part_62 : decode cX12_part 62 = .ok (.iadd, 1) := by decide +kernel
theorem dX12_part_63 : decode cX12_part 63 = .ok (.iaload, 1) := by decide +kernel
theorem dX12_part_64 : decode cX12_part 64 = .ok (.goto 8, 3) := by decide +kernel
theorem dX12_part_67 : decode cX12_part 67 = .ok (.aload_n 0, 1) := by decide +kernel
theorem dX12_part_68 : decode cX12_part 68 = .ok (.iconst 5, 1) := by decide +kernel
theorem dX12_part_69 : decode cX12_part 69 = .ok (.invokevirtual 269, 3) := by decide +kernel
theorem dX12_part_72 : decode cX12_part 72 = .ok (.ireturn, 1) := by decide +kernel
theorem dX12_pickUp_0 : decode cX12_pickUp 0 = .ok (.aload_n 0, 1) := by decide +kernel
theorem dX12_pickUp_1 : decode cX12_pickUp 1 = .ok (.aload_n 0, 1) := by decide +kernel
theorem dX12_pickUp_2 : decode cX12_pickUp 2 = .ok (.aload_n 0, 1) := by decide +kernel
theorem dX12_pickUp_3 : decode cX12_pickUp 3 = .ok (.getfield 286, 3) := by decide +kernel
theorem dX12_pickUp_6 : decode cX12_pickUp 6 = .ok (.invokevirtual 528, 3) := by decide +kernel
theorem dX12_pickUp_9 : decode cX12_pickUp 9 = .ok (.putfield 531, 3) := by decide +kernel
theorem dX12_pickUp_12 : decode cX12_pickUp 12 = .ok (.aload_n 0, 1) := by decide +kernel
theorem dX12_pickUp_13 : decode cX12_pickUp 13 = .ok (.aload_n 0, 1) := by decide +kernel
theorem dX12_pickUp_14 : decode cX12_pickUp 14 = .ok (.bipush 16, 2) := by decide +kernel
theorem dX12_pickUp_16 : decode cX12_pickUp 16 = .ok (.invokevirtual 528, 3) := by decide +kernel
theorem dX12_pickUp_19 : decode cX12_pickUp 19 = .ok (.aload_n 0, 1) := by decide +kernel
theorem dX12_pickUp_20 : decode cX12_pickUp 20 = .ok (.getfield 35, 3) := by decide +kernel
theorem dX12_pickUp_23 : decode cX12_pickUp 23 = .ok (.bipush 9, 2) := by decide +kernel
theorem dX12_pickUp_25 : decode cX12_pickUp 25 = .ok (.iaload, 1) := by decide +kernel
theorem dX12_pickUp_26 : decode cX12_pickUp 26 = .ok (.if_icmp .ge 7, 3) := by decide +kernel
theorem dX12_pickUp_29 : decode cX12_pickUp 29 = .ok (.iconst 1, 1) := by decide +kernel
theorem dX12_pickUp_30 : decode cX12_pickUp 30 = .ok (.goto 4, 3) := by decide +kernel
theorem dX12_pickUp_33 : decode cX12_pickUp 33 = .ok (.iconst 0, 1) := by decide +kernel
theorem dX12_pickUp_34 : decode cX12_pickUp 34 = .ok (.putfield 534, 3) := by decide +kernel
theorem dX12_pickUp_37 : decode cX12_pickUp 37 = .ok (.aload_n 0, 1) := by decide +kernel
theorem dX12_pickUp_38 : decode cX12_pickUp 38 = .ok (.invokevirtual 320, 3) := by decide +kernel
theorem dX12_pickUp_41 : decode cX12_pickUp 41 = .ok (.aload_n 0, 1) := by decide +kernel
theorem dX12_pickUp_42 : decode cX12_pickUp 42 = .ok (.invokevirtual 537, 3) := by decide +kernel
theorem dX12_pickUp_45 : decode cX12_pickUp 45 = .ok (.return_, 1) := by decide +kernel
theorem dX12_placeOf_0 : decode cX12_placeOf 0 = .ok (.aload_n 0, 1) := by decide +kernel
theorem dX12_placeOf_1 : decode cX12_placeOf 1 = .ok (.iload_n 1, 1) := by decide +kernel
theorem dX12_placeOf_2 : decode cX12_placeOf 2 = .ok (.invokevirtual 278, 3) := by decide +kernel
theorem dX12_placeOf_5 : decode cX12_placeOf 5 = .ok (.istore_n 2, 1) := by decide +kernel
theorem dX12_placeOf_6 : decode cX12_placeOf 6 = .ok (.iconst 0, 1) := by decide +kernel
theorem dX12_placeOf_7 : decode cX12_placeOf 7 = .ok (.istore_n 3, 1) := by decide +kernel
theorem dX12_placeOf_8 : decode cX12_placeOf 8 = .ok (.iload_n 2, 1) := by decide +kernel
theorem dX12_placeOf_9 : decode cX12_placeOf 9 = .ok (.ifCond .lt 42, 3) := by decide +kernel
theorem dX12_placeOf_12 : decode cX12_placeOf 12 = .ok (.iload_n 3, 1) := by decide +kernel
theorem dX12_placeOf_13 : decode cX12_placeOf 13 = .ok (.aload_n 0, 1) := by decide +kernel
theorem dX12_placeOf_14 : decode cX12_placeOf 14 = .ok (.getfield 35, 3) := by decide +kernel
theorem dX12_placeOf_17 : decode cX12_placeOf 17 = .ok (.bipush 95, 2) := by decide +kernel
theorem dX12_placeOf_19 : decode cX12_placeOf 19 = .ok (.iload_n 2, 1) := by decide +kernel
theorem dX12_placeOf_20 : decode cX12_placeOf 20 = .ok (.iadd, 1) := by decide +kernel
theorem dX12_placeOf_21 : decode cX12_placeOf 21 = .ok (.iaload, 1) := by decide +kernel
theorem dX12_placeOf_22 : decode cX12_placeOf 22 = .ok (.if_icmp .ge 29, 3) := by decide +kernel
theorem dX12_placeOf_25 : decode cX12_placeOf 25 = .ok (.aload_n 0, 1) := by decide +kernel
theorem dX12_placeOf_26 : decode cX12_placeOf 26 = .ok (.getfield 35, 3) := by decide +kernel
theorem dX12_placeOf_29 : decode cX12_placeOf 29 = .ok (.bipush 98, 2) := by decide +kernel
theorem dX12_placeOf_31 : decode cX12_placeOf 31 = .ok (.bipush 10, 2) := by decide +kernel
theorem dX12_placeOf_33 : decode cX12_placeOf 33 = .ok (.iload_n 2, 1) := by decide +kernel
theorem dX12_placeOf_34 : decode cX12_placeOf 34 = .ok (.imul, 1) := by decide +kernel
theorem dX12_placeOf_35 : decode cX12_placeOf 35 = .ok (.iadd, 1) := by decide +kernel
theorem dX12_placeOf_36 : decode cX12_placeOf 36 = .ok (.iload_n 3, 1) := by decide +kernel
theorem dX12_placeOf_37 : decode cX12_placeOf 37 = .ok (.iadd, 1) := by decide +kernel
theorem dX12_placeOf_38 : decode cX12_placeOf 38 = .ok (.iaload, 1) := by decide +kernel
theorem dX12_placeOf_39 : decode cX12_placeOf 39 = .ok (.iload_n 1, 1) := by decide +kernel
theorem dX12_placeOf_40 : decode cX12_placeOf 40 = .ok (.if_icmp .ne 5, 3) := by decide +kernel
theorem dX12_placeOf_43 : decode cX12_placeOf 43 = .ok (.iload_n 3, 1) := by decide +kernel
theorem dX12_placeOf_44 : decode cX12_placeOf 44 = .ok (.ireturn, 1) := by decide +kernel
theorem dX12_placeOf_45 : decode cX12_placeOf 45 = .ok (.iinc 3 1, 3) := by decide +kernel
theorem dX12_placeOf_48 : decode cX12_placeOf 48 = .ok (.goto (-40), 3) := by decide +kernel
theorem dX12_placeOf_51 : decode cX12_placeOf 51 = .ok (.iconst (-1), 1) := by decide +kernel
theorem dX12_placeOf_52 : decode cX12_placeOf 52 = .ok (.ireturn, 1) := by decide +kernel
theorem dX12_placed_0 : decode cX12_placed 0 = .ok (.aload_n 0, 1) := by decide +kernel
theorem dX12_placed_1 : decode cX12_placed 1 = .ok (.iload_n 1, 1) := by decide +kernel
theorem dX12_placed_2 : decode cX12_placed 2 = .ok (.invokevirtual 101, 3) := by decide +kernel
theorem dX12_placed_5 : decode cX12_placed 5 = .ok (.istore_n 3, 1) := by decide +kernel
theorem dX12_placed_6 : decode cX12_placed 6 = .ok (.iload_n 3, 1) := by decide +kernel
theorem dX12_placed_7 : decode cX12_placed 7 = .ok (.ifCond .le 7, 3) := by decide +kernel
theorem dX12_placed_10 : decode cX12_placed 10 = .ok (.iload_n 3, 1) := by decide +kernel
theorem dX12_placed_11 : decode cX12_placed 11 = .ok (.goto 22, 3) := by decide +kernel
theorem dX12_placed_14 : decode cX12_placed 14 = .ok (.iload_n 2, 1) := by decide +kernel
theorem dX12_placed_15 : decode cX12_placed 15 = .ok (.ifCond .lt 13, 3) := by decide +kernel
theorem dX12_placed_18 : decode cX12_placed 18 = .ok (.iload_n 2, 1) := by decide +kernel
theorem dX12_placed_19 : decode cX12_placed 19 = .ok (.aload_n 0, 1) := by decide +kernel
theorem dX12_placed_20 : decode cX12_placed 20 = .ok (.getfield 17, 3) := by decide +kernel
theorem dX12_placed_23 : decode cX12_placed 23 = .ok (.iload_n 1, 1) := by decide +kernel
theorem dX12_placed_24 : decode cX12_placed 24 = .ok (.iaload, 1) := by decide +kernel
theorem dX12_placed_25 : decode cX12_placed 25 = .ok (.if_icmp .lt 7, 3) := by decide +kernel
theorem dX12_placed_28 : decode cX12_placed 28 = .ok (.iconst 4, 1) := by decide +kernel
theorem dX12_placed_29 : decode cX12_placed 29 = .ok (.goto 4, 3) := by decide +kernel
theorem dX12_placed_32 : decode cX12_placed 32 = .ok (.iconst 0, 1) := by decide +kernel
theorem dX12_placed_33 : decode cX12_placed 33 = .ok (.ireturn, 1) := by decide +kernel
theorem dX12_plainStep_0 : decode cX12_plainStep 0 = .ok (.aload_n 0, 1) := by decide +kernel
theorem dX12_plainStep_1 : decode cX12_plainStep 1 = .ok (.invokevirtual 170, 3) := by decide +kernel
theorem dX12_plainStep_4 : decode cX12_plainStep 4 = .ok (.istore_n 1, 1) := by decide +kernel
theorem dX12_plainStep_5 : decode cX12_plainStep 5 = .ok (.iload_n 1, 1) := by decide +kernel
theorem dX12_plainStep_6 : decode cX12_plainStep 6 = .ok (.bipush 11, 2) := by decide +kernel
theorem dX12_plainStep_8 : decode cX12_plainStep 8 = .ok (.if_icmp .ne 5, 3) := by decide +kernel
theorem dX12_plainStep_11 : decode cX12_plainStep 11 = .ok (.iconst 0, 1) := by decide +kernel
theorem dX12_plainStep_12 : decode cX12_plainStep 12 = .ok (.ireturn, 1) := by decide +kernel
theorem dX12_plainStep_13 : decode cX12_plainStep 13 = .ok (.iload_n 1, 1) := by decide +kernel
theorem dX12_plainStep_14 : decode cX12_plainStep 14 = .ok (.bipush 12, 2) := by decide +kernel
theorem dX12_plainStep_16 : decode cX12_plainStep 16 = .ok (.if_icmp .ne 5, 3) := by decide +kernel
theorem dX12_plainStep_19 : decode cX12_plainStep 19 = .ok (.iconst 1, 1) := by decide +kernel
theorem dX12_plainStep_20 : decode cX12_plainStep 20 = .ok (.ireturn, 1) := by decide +kernel
theorem dX12_plainStep_21 : decode cX12_plainStep 21 = .ok (.iload_n 1, 1) := by decide +kernel
theorem dX12_plainStep_22 : decode cX12_plainStep 22 = .ok (.bipush 13, 2) := by decide +kernel
theorem dX12_plainStep_24 : decode cX12_plainStep 24 = .ok (.if_icmp .ne 5, 3) := by decide +kernel
theorem dX12_plainStep_27 : decode cX12_plainStep 27 = .ok (.iconst 2, 1) := by decide +kernel
theorem dX12_plainStep_28 : decode cX12_plainStep 28 = .ok (.ireturn, 1) := by decide +kernel
theorem dX12_plainStep_29 : decode cX12_plainStep 29 = .ok (.iload_n 1, 1) := by decide +kernel
theorem dX12_plainStep_30 : decode cX12_plainStep 30 = .ok (.bipush 14, 2) := by decide +kernel
theorem dX12_plainStep_32 : decode cX12_plainStep 32 = .ok (.if_icmp .ne 5, 3) := by decide +kernel
theorem dX12_plainStep_35 : decode cX12_plainStep 35 = .ok (.iconst 4, 1) := by decide +kernel
theorem dX12_plainStep_36 : decode cX12_plainStep 36 = .ok (.ireturn, 1) := by decide +kernel
theorem dX12_plainStep_37 : decode cX12_plainStep 37 = .ok (.aload_n 0, 1) := by decide +kernel
theorem dX12_plainStep_38 : decode cX12_plainStep 38 = .ok (.invokevirtual 482, 3) := by decide +kernel
theorem dX12_plainStep_41 : decode cX12_plainStep 41 = .ok (.ifCond .eq 7, 3) := by decide +kernel
theorem dX12_plainStep_44 : decode cX12_plainStep 44 = .ok (.iconst 3, 1) := by decide +kernel
theorem dX12_plainStep_45 : decode cX12_plainStep 45 = .ok (.goto 15, 3) := by decide +kernel
theorem dX12_plainStep_48 : decode cX12_plainStep 48 = .ok (.aload_n 0, 1) := by decide +kernel
theorem dX12_plainStep_49 : decode cX12_plainStep 49 = .ok (.invokevirtual 485, 3) := by decide +kernel
theorem dX12_plainStep_52 : decode cX12_plainStep 52 = .ok (.ifCond .eq 7, 3) := by decide +kernel
theorem dX12_plainStep_55 : decode cX12_plainStep 55 = .ok (.iconst 5, 1) := by decide +kernel
theorem dX12_plainStep_56 : decode cX12_plainStep 56 = .ok (.goto 4, 3) := by decide +kernel
theorem dX12_plainStep_59 : decode cX12_plainStep 59 = .ok (.iconst (-1), 1) := by decide +kernel
theorem dX12_plainStep_60 : decode cX12_plainStep 60 = .ok (.ireturn, 1) := by decide +kernel
theorem dX12_play_0 : decode cX12_play 0 = .ok (.aload_n 0, 1) := by decide +kernel
theorem dX12_play_1 : decode cX12_play 1 = .ok (.iconst 0, 1) := by decide +kernel
theorem dX12_play_2 : decode cX12_play 2 = .ok (.putfield 82, 3) := by decide +kernel
theorem dX12_play_5 : decode cX12_play 5 = .ok (.aload_n 0, 1) := by decide +kernel
theorem dX12_play_6 : decode cX12_play 6 = .ok (.iconst 0, 1) := by decide +kernel
theorem dX12_play_7 : decode cX12_play 7 = .ok (.putfield 85, 3) := by decide +kernel
theorem dX12_play_10 : decode cX12_play 10 = .ok (.aload_n 0, 1) := by decide +kernel
theorem dX12_play_11 : decode cX12_play 11 = .ok (.iload_n 1, 1) := by decide +kernel
theorem dX12_play_12 : decode cX12_play 12 = .ok (.invokevirtual 289, 3) := by decide +kernel
theorem dX12_play_15 : decode cX12_play 15 = .ok (.ifCond .eq 11, 3) := by decide +kernel
theorem dX12_play_18 : decode cX12_play 18 = .ok (.aload_n 0, 1) := by decide +kernel
theorem dX12_play_19 : decode cX12_play 19 = .ok (.iload_n 2, 1) := by decide +kernel
theorem dX12_play_20 : decode cX12_play 20 = .ok (.invokevirtual 295, 3) := by decide +kernel
theorem dX12_play_23 : decode cX12_play 23 = .ok (.ifCond .ne 9, 3) := by decide +kernel
theorem dX12_play_26 : decode cX12_play 26 = .ok (.aload_n 0, 1) := by decide +kernel
theorem dX12_play_27 : decode cX12_play 27 = .ok (.iconst 2, 1) := by decide +kernel
theorem dX12_play_28 : decode cX12_play 28 = .ok (.invokevirtual 269, 3) := by decide +kernel
theorem dX12_play_31 : decode cX12_play 31 = .ok (.ireturn, 1) := by decide +kernel
theorem dX12_play_32 : decode cX12_play 32 = .ok (.iload_n 3, 1) := by decide +kernel
theorem dX12_play_33 : decode cX12_play 33 = .ok (.i2l, 1) := by decide +kernel
theorem dX12_play_34 : decode cX12_play 34 = .ok (.lconst 0, 1) := by decide +kernel
theorem dX12_play_35 : decode cX12_play 35 = .ok (.ldc2_w 582, 3) := by decide +kernel
theorem dX12_play_38 : decode cX12_play 38 = .ok (.invokestatic 117, 3) := by decide +kernel
theorem dX12_play_41 : decode cX12_play 41 = .ok (.ifCond .ne 9, 3) := by decide +kernel
theorem dX12_play_44 : decode cX12_play 44 = .ok (.aload_n 0, 1) := by decide +kernel
theorem dX12_play_45 : decode cX12_play 45 = .ok (.iconst 5, 1) := by decide +kernel
theorem dX12_play_46 : decode cX12_play 46 = .ok (.invokevirtual 269, 3) := by decide +kernel
theorem dX12_play_49 : decode cX12_play 49 = .ok (.ireturn, 1) := by decide +kernel
theorem dX12_play_50 : decode cX12_play 50 = .ok (.aload_n 0, 1) := by decide +kernel
theorem dX12_play_51 : decode cX12_play 51 = .ok (.iload_n 1, 1) := by decide +kernel
theorem dX12_play_52 : decode cX12_play 52 = .ok (.invokevirtual 292, 3) := by decide +kernel
theorem dX12_play_55 : decode cX12_play 55 = .ok (.aload_n 0, 1) := by decide +kernel
theorem dX12_play_56 : decode cX12_play 56 = .ok (.getfield 286, 3) := by decide +kernel
theorem dX12_play_59 : decode cX12_play 59 = .ok (.ifCond .ne 10, 3) := by decide +kernel
theorem dX12_play_62 : decode cX12_play 62 = .ok (.aload_n 0, 1) := by decide +kernel
theorem dX12_play_63 : decode cX12_play 63 = .ok (.bipush 8, 2) := by decide +kernel
theorem dX12_play_65 : decode cX12_play 65 = .ok (.invokevirtual 269, 3) := by decide +kernel
theorem dX12_play_68 : decode cX12_play 68 = .ok (.ireturn, 1) := by decide +kernel
theorem dX12_play_69 : decode cX12_play 69 = .ok (.aload_n 0, 1) := by decide +kernel
theorem dX12_play_70 : decode cX12_play 70 = .ok (.iload_n 1, 1) := by decide +kernel
theorem dX12_play_71 : decode cX12_play 71 = .ok (.iload_n 2, 1) := by decide +kernel
theorem dX12_play_72 : decode cX12_play 72 = .ok (.iload_n 3, 1) := by decide +kernel
theorem dX12_play_73 : decode cX12_play 73 = .ok (.invokevirtual 584, 3) := by decide +kernel
theorem dX12_play_76 : decode cX12_play 76 = .ok (.aload_n 0, 1) := by decide +kernel
theorem dX12_play_77 : decode cX12_play 77 = .ok (.getfield 62, 3) := by decide +kernel
theorem dX12_play_80 : decode cX12_play 80 = .ok (.iconst 0, 1) := by decide +kernel
theorem dX12_play_81 : decode cX12_play 81 = .ok (.aload_n 0, 1) := by decide +kernel
theorem dX12_play_82 : decode cX12_play 82 = .ok (.getfield 540, 3) := by decide +kernel
theorem dX12_play_85 : decode cX12_play 85 = .ok (.iastore, 1) := by decide +kernel
theorem dX12_play_86 : decode cX12_play 86 = .ok (.aload_n 0, 1) := by decide +kernel
theorem dX12_play_87 : decode cX12_play 87 = .ok (.getfield 62, 3) := by decide +kernel
theorem dX12_play_90 : decode cX12_play 90 = .ok (.iconst 1, 1) := by decide +kernel
theorem dX12_play_91 : decode cX12_play 91 = .ok (.aload_n 0, 1) := by decide +kernel
theorem dX12_play_92 : decode cX12_play 92 = .ok (.getfield 558, 3) := by decide +kernel
theorem dX12_play_95 : decode cX12_play 95 = .ok (.iastore, 1) := by decide +kernel
theorem dX12_play_96 : decode cX12_play 96 = .ok (.aload_n 0, 1) := by decide +kernel
theorem dX12_play_97 : decode cX12_play 97 = .ok (.getfield 62, 3) := by decide +kernel
theorem dX12_play_100 : decode cX12_play 100 = .ok (.iconst 2, 1) := by decide +kernel
theorem dX12_play_101 : decode cX12_play 101 = .ok (.aload_n 0, 1) := by decide +kernel
theorem dX12_play_102 : decode cX12_play 102 = .ok (.getfield 543, 3) := by decide +kernel
theorem dX12_play_105 : decode cX12_play 105 = .ok (.iastore, 1) := by decide +kernel
theorem dX12_play_106 : decode cX12_play 106 = .ok (.aload_n 0, 1) := by decide +kernel
theorem dX12_play_107 : decode cX12_play 107 = .ok (.getfield 62, 3) := by decide +kernel
theorem dX12_play_110 : decode cX12_play 110 = .ok (.iconst 3, 1) := by decide +kernel
theorem dX12_play_111 : decode cX12_play 111 = .ok (.aload_n 0, 1) := by decide +kernel
theorem dX12_play_112 : decode cX12_play 112 = .ok (.getfield 546, 3) := by decide +kernel
theorem dX12_play_115 : decode cX12_play 115 = .ok (.iastore, 1) := by decide +kernel
theorem dX12_play_116 : decode cX12_play 116 = .ok (.aload_n 0, 1) := by decide +kernel
theorem dX12_play_117 : decode cX12_play 117 = .ok (.getfield 62, 3) := by decide +kernel
theorem dX12_play_120 : decode cX12_play 120 = .ok (.iconst 4, 1) := by decide +kernel
theorem dX12_play_121 : decode cX12_play 121 = .ok (.aload_n 0, 1) := by decide +kernel
theorem dX12_play_122 : decode cX12_play 122 = .ok (.getfield 531, 3) := by decide +kernel
theorem dX12_play_125 : decode cX12_play 125 = .ok (.iastore, 1) := by decide +kernel
theorem dX12_play_126 : decode cX12_play 126 = .ok (.aload_n 0, 1) := by decide +kernel
theorem dX12_play_127 : decode cX12_play 127 = .ok (.getfield 62, 3) := by decide +kernel
theorem dX12_play_130 : decode cX12_play 130 = .ok (.iconst 5, 1) := by decide +kernel
theorem dX12_play_131 : decode cX12_play 131 = .ok (.aload_n 0, 1) := by decide +kernel
theorem dX12_play_132 : decode cX12_play 132 = .ok (.getfield 534, 3) := by decide +kernel
theorem dX12_play_135 : decode cX12_play 135 = .ok (.iastore, 1) := by decide +kernel
theorem dX12_play_136 : decode cX12_play 136 = .ok (.aload_n 0, 1) := by decide +kernel
theorem dX12_play_137 : decode cX12_play 137 = .ok (.getfield 62, 3) := by decide +kernel
theorem dX12_play_140 : decode cX12_play 140 = .ok (.bipush 6, 2) := by decide +kernel
theorem dX12_play_142 : decode cX12_play 142 = .ok (.aload_n 0, 1) := by decide +kernel
theorem dX12_play_143 : decode cX12_play 143 = .ok (.getfield 561, 3) := by decide +kernel
theorem dX12_play_146 : decode cX12_play 146 = .ok (.iastore, 1) := by decide +kernel
theorem dX12_play_147 : decode cX12_play 147 = .ok (.aload_n 0, 1) := by decide +kernel
theorem dX12_play_148 : decode cX12_play 148 = .ok (.iconst 1, 1) := by decide +kernel
theorem dX12_play_149 : decode cX12_play 149 = .ok (.putfield 587, 3) := by decide +kernel
theorem dX12_play_152 : decode cX12_play 152 = .ok (.aload_n 0, 1) := by decide +kernel
theorem dX12_play_153 : decode cX12_play 153 = .ok (.getfield 552, 3) := by decide +kernel
theorem dX12_play_156 : decode cX12_play 156 = .ok (.ifCond .eq 7, 3) := by decide +kernel
theorem dX12_play_159 : decode cX12_play 159 = .ok (.iconst 1, 1) := by decide +kernel
theorem dX12_play_160 : decode cX12_play 160 = .ok (.goto 4, 3) := by decide +kernel
theorem dX12_play_163 : decode cX12_play 163 = .ok (.iconst 0, 1) := by decide +kernel
theorem dX12_play_164 : decode cX12_play 164 = .ok (.ireturn, 1) := by decide +kernel
theorem dX12_playOnce_0 : decode cX12_playOnce 0 = .ok (.aload_n 0, 1) := by decide +kernel
theorem dX12_playOnce_1 : decode cX12_playOnce 1 = .ok (.iload_n 1, 1) := by decide +kernel
theorem dX12_playOnce_2 : decode cX12_playOnce 2 = .ok (.invokevirtual 292, 3) := by decide +kernel
theorem dX12_playOnce_5 : decode cX12_playOnce 5 = .ok (.iconst 0, 1) := by decide +kernel
theorem dX12_playOnce_6 : decode cX12_playOnce 6 = .ok (.istore 4, 2) := by decide +kernel
theorem dX12_playOnce_8 : decode cX12_playOnce 8 = .ok (.iload 4, 2) := by decide +kernel
theorem dX12_playOnce_10 : decode cX12_playOnce 10 = .ok (.bipush 20, 2) := by decide +kernel
theorem dX12_playOnce_12 : decode cX12_playOnce 12 = .ok (.if_icmp .ge 27, 3) := by decide +kernel
theorem dX12_playOnce_15 : decode cX12_playOnce 15 = .ok (.aload_n 0, 1) := by decide +kernel
theorem dX12_playOnce_16 : decode cX12_playOnce 16 = .ok (.getfield 65, 3) := by decide +kernel
theorem dX12_playOnce_19 : decode cX12_playOnce 19 = .ok (.iload 4, 2) := by decide +kernel
theorem dX12_playOnce_21 : decode cX12_playOnce 21 = .ok (.aload_n 0, 1) := by decide +kernel
theorem dX12_playOnce_22 : decode cX12_playOnce 22 = .ok (.getfield 35, 3) := by decide +kernel
theorem dX12_playOnce_25 : decode cX12_playOnce 25 = .ok (.sipush 160, 3) := by decide +kernel
theorem dX12_playOnce_28 : decode cX12_playOnce 28 = .ok (.iload 4, 2) := by decide +kernel
theorem dX12_playOnce_30 : decode cX12_playOnce 30 = .ok (.iadd, 1) := by decide +kernel
theorem dX12_playOnce_31 : decode cX12_playOnce 31 = .ok (.iaload, 1) := by decide +kernel
theorem dX12_playOnce_32 : decode cX12_playOnce 32 = .ok (.iastore, 1) := by decide +kernel
theorem dX12_playOnce_33 : decode cX12_playOnce 33 = .ok (.iinc 4 1, 3) := by decide +kernel
theorem dX12_playOnce_36 : decode cX12_playOnce 36 = .ok (.goto (-28), 3) := by decide +kernel
theorem dX12_playOnce_39 : decode cX12_playOnce 39 = .ok (.aload_n 0, 1) := by decide +kernel
theorem dX12_playOnce_40 : decode cX12_playOnce 40 = .ok (.iload_n 3, 1) := by decide +kernel
theorem dX12_playOnce_41 : decode cX12_playOnce 41 = .ok (.putfield 521, 3) := by decide +kernel
theorem dX12_playOnce_44 : decode cX12_playOnce 44 = .ok (.aload_n 0, 1) := by decide +kernel
theorem dX12_playOnce_45 : decode cX12_playOnce 45 = .ok (.iload_n 2, 1) := by decide +kernel
theorem dX12_playOnce_46 : decode cX12_playOnce 46 = .ok (.putfield 549, 3) := by decide +kernel
theorem dX12_playOnce_49 : decode cX12_playOnce 49 = .ok (.aload_n 0, 1) := by decide +kernel
theorem dX12_playOnce_50 : decode cX12_playOnce 50 = .ok (.iconst 0, 1) := by decide +kernel
theorem dX12_playOnce_51 : decode cX12_playOnce 51 = .ok (.putfield 540, 3) := by decide +kernel
theorem dX12_playOnce_54 : decode cX12_playOnce 54 = .ok (.aload_n 0, 1) := by decide +kernel
theorem dX12_playOnce_55 : decode cX12_playOnce 55 = .ok (.iconst 0, 1) := by decide +kernel
theorem dX12_playOnce_56 : decode cX12_playOnce 56 = .ok (.putfield 558, 3) := by decide +kernel
theorem dX12_playOnce_59 : decode cX12_playOnce 59 = .ok (.aload_n 0, 1) := by decide +kernel
theorem dX12_playOnce_60 : decode cX12_playOnce 60 = .ok (.iconst 0, 1) := by decide +kernel
theorem dX12_playOnce_61 : decode cX12_playOnce 61 = .ok (.putfield 543, 3) := by decide +kernel
theorem dX12_playOnce_64 : decode cX12_playOnce 64 = .ok (.aload_n 0, 1) := by decide +kernel
theorem dX12_playOnce_65 : decode cX12_playOnce 65 = .ok (.iconst 0, 1) := by decide +kernel
theorem dX12_playOnce_66 : decode cX12_playOnce 66 = .ok (.putfield 546, 3) := by decide +kernel
theorem dX12_playOnce_69 : decode cX12_playOnce 69 = .ok (.aload_n 0, 1) := by decide +kernel
theorem dX12_playOnce_70 : decode cX12_playOnce 70 = .ok (.iconst 0, 1) := by decide +kernel
theorem dX12_playOnce_71 : decode cX12_playOnce 71 = .ok (.putfield 561, 3) := by decide +kernel
theorem dX12_playOnce_74 : decode cX12_playOnce 74 = .ok (.aload_n 0, 1) := by decide +kernel
theorem dX12_playOnce_75 : decode cX12_playOnce 75 = .ok (.iconst 0, 1) := by decide +kernel
theorem dX12_playOnce_76 : decode cX12_playOnce 76 = .ok (.putfield 552, 3) := by decide +kernel
theorem dX12_playOnce_79 : decode cX12_playOnce 79 = .ok (.aload_n 0, 1) := by decide +kernel
theorem dX12_playOnce_80 : decode cX12_playOnce 80 = .ok (.iconst 0, 1) := by decide +kernel
theorem dX12_playOnce_81 : decode cX12_playOnce 81 = .ok (.putfield 555, 3) := by decide +kernel
theorem dX12_playOnce_84 : decode cX12_playOnce 84 = .ok (.aload_n 0, 1) := by decide +kernel
theorem dX12_playOnce_85 : decode cX12_playOnce 85 = .ok (.invokevirtual 570, 3) := by decide +kernel
theorem dX12_playOnce_88 : decode cX12_playOnce 88 = .ok (.aload_n 0, 1) := by decide +kernel
theorem dX12_playOnce_89 : decode cX12_playOnce 89 = .ok (.iconst 0, 1) := by decide +kernel
theorem dX12_playOnce_90 : decode cX12_playOnce 90 = .ok (.aload_n 0, 1) := by decide +kernel
theorem dX12_playOnce_91 : decode cX12_playOnce 91 = .ok (.getfield 35, 3) := by decide +kernel
theorem dX12_playOnce_94 : decode cX12_playOnce 94 = .ok (.sipush 180, 3) := by decide +kernel
theorem dX12_playOnce_97 : decode cX12_playOnce 97 = .ok (.iaload, 1) := by decide +kernel
theorem dX12_playOnce_98 : decode cX12_playOnce 98 = .ok (.invokevirtual 573, 3) := by decide +kernel
theorem dX12_playOnce_101 : decode cX12_playOnce 101 = .ok (.iconst 0, 1) := by decide +kernel
theorem dX12_playOnce_102 : decode cX12_playOnce 102 = .ok (.istore 4, 2) := by decide +kernel
theorem dX12_playOnce_104 : decode cX12_playOnce 104 = .ok (.iload 4, 2) := by decide +kernel
theorem dX12_playOnce_106 : decode cX12_playOnce 106 = .ok (.bipush 20, 2) := by decide +kernel
theorem dX12_playOnce_108 : decode cX12_playOnce 108 = .ok (.if_icmp .ge 27, 3) := by decide +kernel
theorem dX12_playOnce_111 : decode cX12_playOnce 111 = .ok (.aload_n 0, 1) := by decide +kernel
theorem dX12_playOnce_112 : decode cX12_playOnce 112 = .ok (.getfield 35, 3) := by decide +kernel
theorem dX12_playOnce_115 : decode cX12_playOnce 115 = .ok (.sipush 160, 3) := by decide +kernel
theorem dX12_playOnce_118 : decode cX12_playOnce 118 = .ok (.iload 4, 2) := by decide +kernel
theorem dX12_playOnce_120 : decode cX12_playOnce 120 = .ok (.iadd, 1) := by decide +kernel
theorem dX12_playOnce_121 : decode cX12_playOnce 121 = .ok (.aload_n 0, 1) := by decide +kernel
theorem dX12_playOnce_122 : decode cX12_playOnce 122 = .ok (.getfield 65, 3) := by decide +kernel
theorem dX12_playOnce_125 : decode cX12_playOnce 125 = .ok (.iload 4, 2) := by decide +kernel
theorem dX12_playOnce_127 : decode cX12_playOnce 127 = .ok (.iaload, 1) := by decide +kernel
theorem dX12_playOnce_128 : decode cX12_playOnce 128 = .ok (.iastore, 1) := by decide +kernel
theorem dX12_playOnce_129 : decode cX12_playOnce 129 = .ok (.iinc 4 1, 3) := by decide +kernel
theorem dX12_playOnce_132 : decode cX12_playOnce 132 = .ok (.goto (-28), 3) := by decide +kernel
theorem dX12_playOnce_135 : decode cX12_playOnce 135 = .ok (.return_, 1) := by decide +kernel
theorem dX12_played_0 : decode cX12_played 0 = .ok (.aload_n 0, 1) := by decide +kernel
theorem dX12_played_1 : decode cX12_played 1 = .ok (.iconst 0, 1) := by decide +kernel
theorem dX12_played_2 : decode cX12_played 2 = .ok (.putfield 82, 3) := by decide +kernel
theorem dX12_played_5 : decode cX12_played 5 = .ok (.aload_n 0, 1) := by decide +kernel
theorem dX12_played_6 : decode cX12_played 6 = .ok (.iconst 0, 1) := by decide +kernel
theorem dX12_played_7 : decode cX12_played 7 = .ok (.putfield 85, 3) := by decide +kernel
theorem dX12_played_10 : decode cX12_played 10 = .ok (.iload_n 1, 1) := by decide +kernel
theorem dX12_played_11 : decode cX12_played 11 = .ok (.i2l, 1) := by decide +kernel
theorem dX12_played_12 : decode cX12_played 12 = .ok (.lconst 0, 1) := by decide +kernel
theorem dX12_played_13 : decode cX12_played 13 = .ok (.ldc2_w 590, 3) := by decide +kernel
theorem dX12_played_16 : decode cX12_played 16 = .ok (.invokestatic 117, 3) := by decide +kernel
theorem dX12_played_19 : decode cX12_played 19 = .ok (.ifCond .ne 9, 3) := by decide +kernel
theorem dX12_played_22 : decode cX12_played 22 = .ok (.aload_n 0, 1) := by decide +kernel
theorem dX12_played_23 : decode cX12_played 23 = .ok (.iconst 5, 1) := by decide +kernel
theorem dX12_played_24 : decode cX12_played 24 = .ok (.invokevirtual 269, 3) := by decide +kernel
theorem dX12_played_27 : decode cX12_played 27 = .ok (.ireturn, 1) := by decide +kernel
theorem dX12_played_28 : decode cX12_played 28 = .ok (.aload_n 0, 1) := by decide +kernel
theorem dX12_played_29 : decode cX12_played 29 = .ok (.getfield 587, 3) := by decide +kernel
theorem dX12_played_32 : decode cX12_played 32 = .ok (.ifCond .eq 12, 3) := by decide +kernel
theorem dX12_played_35 : decode cX12_played 35 = .ok (.aload_n 0, 1) := by decide +kernel
theorem dX12_played_36 : decode cX12_played 36 = .ok (.getfield 62, 3) := by decide +kernel
theorem dX12_played_39 : decode cX12_played 39 = .ok (.iload_n 1, 1) := by decide +kernel
theorem dX12_played_40 : decode cX12_played 40 = .ok (.iaload, 1) := by decide +kernel
theorem dX12_played_41 : decode cX12_played 41 = .ok (.goto 9, 3) := by decide +kernel
theorem dX12_played_44 : decode cX12_played 44 = .ok (.aload_n 0, 1) := by decide +kernel
theorem dX12_played_45 : decode cX12_played 45 = .ok (.bipush 8, 2) := by decide +kernel
theorem dX12_played_47 : decode cX12_played 47 = .ok (.invokevirtual 269, 3) := by decide +kernel
theorem dX12_played_50 : decode cX12_played 50 = .ok (.ireturn, 1) := by decide +kernel
theorem dX12_pour_0 : decode cX12_pour 0 = .ok (.aload_n 0, 1) := by decide +kernel
theorem dX12_pour_1 : decode cX12_pour 1 = .ok (.iconst 0, 1) := by decide +kernel
theorem dX12_pour_2 : decode cX12_pour 2 = .ok (.putfield 82, 3) := by decide +kernel
theorem dX12_pour_5 : decode cX12_pour 5 = .ok (.aload_n 0, 1) := by decide +kernel
theorem dX12_pour_6 : decode cX12_pour 6 = .ok (.iconst 0, 1) := by decide +kernel
theorem dX12_pour_7 : decode cX12_pour 7 = .ok (.putfield 85, 3) := by decide +kernel
theorem dX12_pour_10 : decode cX12_pour 10 = .ok (.iload_n 1, 1) := by decide +kernel
theorem dX12_pour_11 : decode cX12_pour 11 = .ok (.ifCond .lt 17, 3) := by decide +kernel
theorem dX12_pour_14 : decode cX12_pour 14 = .ok (.iload_n 1, 1) := by decide +kernel
theorem dX12_pour_15 : decode cX12_pour 15 = .ok (.iconst 4, 1) := by decide +kernel
theorem dX12_pour_16 : decode cX12_pour 16 = .ok (.if_icmp .ge 12, 3) := by decide +kernel
theorem dX12_pour_19 : decode cX12_pour 19 = .ok (.iload_n 3, 1) := by decide +kernel
theorem dX12_pour_20 : decode cX12_pour 20 = .ok (.ifCond .lt 8, 3) := by decide +kernel
theorem dX12_pour_23 : decode cX12_pour 23 = .ok (.iload_n 3, 1) := by decide +kernel
theorem dX12_pour_24 : decode cX12_pour 24 = .ok (.iconst 4, 1) := by decide +kernel
theorem dX12_pour_25 : decode cX12_pour 25 = .ok (.if_icmp .lt 9, 3) := by decide +kernel
theorem dX12_pour_28 : decode cX12_pour 28 = .ok (.aload_n 0, 1) := by decide +kernel
theorem dX12_pour_29 : decode cX12_pour 29 = .ok (.iconst 1, 1) := by decide +kernel
theorem dX12_pour_30 : decode cX12_pour 30 = .ok (.invokevirtual 97, 3) := by decide +kernel
theorem dX12_pour_33 : decode cX12_pour 33 = .ok (.ireturn, 1) := by decide +kernel
theorem dX12_pour_34 : decode cX12_pour 34 = .ok (.aload_n 0, 1) := by decide +kernel
theorem dX12_pour_35 : decode cX12_pour 35 = .ok (.getfield 17, 3) := by decide +kernel
theorem dX12_pour_38 : decode cX12_pour 38 = .ok (.iload_n 1, 1) := by decide +kernel
theorem dX12_pour_39 : decode cX12_pour 39 = .ok (.iaload, 1) := by decide +kernel
theorem dX12_pour_40 : decode cX12_pour 40 = .ok (.ifCond .lt 12, 3) := by decide +kernel
theorem dX12_pour_43 : decode cX12_pour 43 = .ok (.aload_n 0, 1) := by decide +kernel
theorem dX12_pour_44 : decode cX12_pour 44 = .ok (.getfield 17, 3) := by decide +kernel
theorem dX12_pour_47 : decode cX12_pour 47 = .ok (.iload_n 3, 1) := by decide +kernel
theorem dX12_pour_48 : decode cX12_pour 48 = .ok (.iaload, 1) := by decide +kernel
theorem dX12_pour_49 : decode cX12_pour 49 = .ok (.ifCond .ge 9, 3) := by decide +kernel
theorem dX12_pour_52 : decode cX12_pour 52 = .ok (.aload_n 0, 1) := by decide +kernel
theorem dX12_pour_53 : decode cX12_pour 53 = .ok (.iconst 3, 1) := by decide +kernel
theorem dX12_pour_54 : decode cX12_pour 54 = .ok (.invokevirtual 97, 3) := by decide +kernel
theorem dX12_pour_57 : decode cX12_pour 57 = .ok (.ireturn, 1) := by decide +kernel
theorem dX12_pour_58 : decode cX12_pour 58 = .ok (.aload_n 0, 1) := by decide +kernel
theorem dX12_pour_59 : decode cX12_pour 59 = .ok (.getfield 13, 3) := by decide +kernel
theorem dX12_pour_62 : decode cX12_pour 62 = .ok (.iload_n 1, 1) := by decide +kernel
theorem dX12_pour_63 : decode cX12_pour 63 = .ok (.iaload, 1) := by decide +kernel
theorem dX12_pour_64 : decode cX12_pour 64 = .ok (.aload_n 0, 1) := by decide +kernel
theorem dX12_pour_65 : decode cX12_pour 65 = .ok (.getfield 13, 3) := by decide +kernel
theorem dX12_pour_68 : decode cX12_pour 68 = .ok (.iload_n 3, 1) := by decide +kernel
theorem dX12_pour_69 : decode cX12_pour 69 = .ok (.iaload, 1) := by decide +kernel
theorem dX12_pour_70 : decode cX12_pour 70 = .ok (.if_icmp .eq 10, 3) := by decide +kernel
theorem dX12_pour_73 : decode cX12_pour 73 = .ok (.aload_n 0, 1) := by decide +kernel
theorem dX12_pour_74 : decode cX12_pour 74 = .ok (.bipush 11, 2) := by decide +kernel
theorem dX12_pour_76 : decode cX12_pour 76 = .ok (.invokevirtual 97, 3) := by decide +kernel
theorem dX12_pour_79 : decode cX12_pour 79 = .ok (.ireturn, 1) := by decide +kernel
theorem dX12_pour_80 : decode cX12_pour 80 = .ok (.iload 5, 2) := by decide +kernel
theorem dX12_pour_82 : decode cX12_pour 82 = .ok (.ifCond .ge 10, 3) := by decide +kernel
theorem dX12_pour_85 : decode cX12_pour 85 = .ok (.aload_n 0, 1) := by decide +kernel
theorem dX12_pour_86 : decode cX12_pour 86 = .ok (.bipush 6, 2) := by decide +kernel
theorem dX12_pour_88 : decode cX12_pour 88 = .ok (.invokevirtual 97, 3) := by decide +kernel
theorem dX12_pour_91 : decode cX12_pour 91 = .ok (.ireturn, 1) := by decide +kernel
theorem dX12_pour_92 : decode cX12_pour 92 = .ok (.iload_n 2, 1) := by decide +kernel
theorem dX12_pour_93 : decode cX12_pour 93 = .ok (.ifCond .lt 43, 3) := by decide +kernel
theorem dX12_pour_96 : decode cX12_pour 96 = .ok (.iload 4, 2) := by decide +kernel
theorem dX12_pour_98 : decode cX12_pour 98 = .ok (.ifCond .lt 38, 3) := by decide +kernel
theorem dX12_pour_101 : decode cX12_pour 101 = .ok (.iload_n 2, 1) := by decide +kernel
theorem dX12_pour_102 : decode cX12_pour 102 = .ok (.i2l, 1) := by decide +kernel
theorem dX12_pour_103 : decode cX12_pour 103 = .ok (.iload 5, 2) := by decide +kernel
theorem dX12_pour_105 : decode cX12_pour 105 = .ok (.i2l, 1) := by decide +kernel
theorem dX12_pour_106 : decode cX12_pour 106 = .ok (.ladd, 1) := by decide +kernel
theorem dX12_pour_107 : decode cX12_pour 107 = .ok (.aload_n 0, 1) := by decide +kernel
theorem dX12_pour_108 : decode cX12_pour 108 = .ok (.getfield 17, 3) := by decide +kernel
theorem dX12_pour_111 : decode cX12_pour 111 = .ok (.iload_n 1, 1) := by decide +kernel
theorem dX12_pour_112 : decode cX12_pour 112 = .ok (.iaload, 1) := by decide +kernel
theorem dX12_pour_113 : decode cX12_pour 113 = .ok (.i2l, 1) := by decide +kernel
theorem dX12_pour_114 : decode cX12_pour 114 = .ok (.lcmp, 1) := by decide +kernel
theorem dX12_pour_115 : decode cX12_pour 115 = .ok (.ifCond .gt 21, 3) := by decide +kernel
theorem dX12_pour_118 : decode cX12_pour 118 = .ok (.iload 4, 2) := by decide +kernel
theorem dX12_pour_120 : decode cX12_pour 120 = .ok (.i2l, 1) := by decide +kernel
theorem dX12_pour_121 : decode cX12_pour 121 = .ok (.iload 5, 2) := by decide +kernel
theorem dX12_pour_123 : decode cX12_pour 123 = .ok (.i2l, 1) := by decide +kernel
theorem dX12_pour_124 : decode cX12_pour 124 = .ok (.ladd, 1) := by decide +kernel
theorem dX12_pour_125 : decode cX12_pour 125 = .ok (.aload_n 0, 1) := by decide +kernel
theorem dX12_pour_126 : decode cX12_pour 126 = .ok (.getfield 17, 3) := by decide +kernel
theorem dX12_pour_129 : decode cX12_pour 129 = .ok (.iload_n 3, 1) := by decide +kernel
theorem dX12_pour_130 : decode cX12_pour 130 = .ok (.iaload, 1) := by decide +kernel
theorem dX12_pour_131 : decode cX12_pour 131 = .ok (.i2l, 1) := by decide +kernel
theorem dX12_pour_132 : decode cX12_pour 132 = .ok (.lcmp, 1) := by decide +kernel
theorem dX12_pour_133 : decode cX12_pour 133 = .ok (.ifCond .le 9, 3) := by decide +kernel
theorem dX12_pour_136 : decode cX12_pour 136 = .ok (.aload_n 0, 1) := by decide +kernel
theorem dX12_pour_137 : decode cX12_pour 137 = .ok (.iconst 4, 1) := by decide +kernel
theorem dX12_pour_138 : decode cX12_pour 138 = .ok (.invokevirtual 97, 3) := by decide +kernel
theorem dX12_pour_141 : decode cX12_pour 141 = .ok (.ireturn, 1) := by decide +kernel
theorem dX12_pour_142 : decode cX12_pour 142 = .ok (.iload_n 2, 1) := by decide +kernel
theorem dX12_pour_143 : decode cX12_pour 143 = .ok (.iload 4, 2) := by decide +kernel
theorem dX12_pour_145 : decode cX12_pour 145 = .ok (.if_icmp .ge 7, 3) := by decide +kernel
theorem dX12_pour_148 : decode cX12_pour 148 = .ok (.iconst 1, 1) := by decide +kernel
theorem dX12_pour_149 : decode cX12_pour 149 = .ok (.goto 4, 3) := by decide +kernel
theorem dX12_pour_152 : decode cX12_pour 152 = .ok (.iconst 0, 1) := by decide +kernel
theorem dX12_pour_153 : decode cX12_pour 153 = .ok (.istore 6, 2) := by decide +kernel
theorem dX12_pour_155 : decode cX12_pour 155 = .ok (.iconst 0, 1) := by decide +kernel
theorem dX12_pour_156 : decode cX12_pour 156 = .ok (.istore 7, 2) := by decide +kernel
theorem dX12_pour_158 : decode cX12_pour 158 = .ok (.iload 7, 2) := by decide +kernel
theorem dX12_pour_160 : decode cX12_pour 160 = .ok (.iload 5, 2) := by decide +kernel
theorem dX12_pour_162 : decode cX12_pour 162 = .ok (.if_icmp .ge 57, 3) := by decide +kernel
theorem dX12_pour_165 : decode cX12_pour 165 = .ok (.iload 6, 2) := by decide +kernel
theorem dX12_pour_167 : decode cX12_pour 167 = .ok (.ifCond .eq 13, 3) := by decide +kernel
theorem dX12_pour_170 : decode cX12_pour 170 = .ok (.iload 5, 2) := by decide +kernel
theorem dX12_pour_172 : decode cX12_pour 172 = .ok (.iconst 1, 1) := by decide +kernel
theorem dX12_pour_173 : decode cX12_pour 173 = .ok (.isub, 1) := by decide +kernel
theorem dX12_pour_174 : decode cX12_pour 174 = .ok (.iload 7, 2) := by decide +kernel
theorem dX12_pour_176 : decode cX12_pour 176 = .ok (.isub, 1) := by decide +kernel
theorem dX12_pour_177 : decode cX12_pour 177 = .ok (.goto 5, 3) := by decide +kernel
theorem dX12_pour_180 : decode cX12_pour 180 = .ok (.iload 7, 2) := by decide +kernel
theorem dX12_pour_182 : decode cX12_pour 182 = .ok (.istore 8, 2) := by decide +kernel
theorem dX12_pour_184 : decode cX12_pour 184 = .ok (.aload_n 0, 1) := by decide +kernel
theorem dX12_pour_185 : decode cX12_pour 185 = .ok (.getfield 20, 3) := by decide +kernel
theorem dX12_pour_188 : decode cX12_pour 188 = .ok (.bipush 60, 2) := by decide +kernel
theorem dX12_pour_190 : decode cX12_pour 190 = .ok (.iload_n 3, 1) := by decide +kernel
theorem dX12_pour_191 : decode cX12_pour 191 = .ok (.imul, 1) := by decide +kernel
theorem dX12_pour_192 : decode cX12_pour 192 = .ok (.iload 4, 2) := by decide +kernel
theorem dX12_pour_194 : decode cX12_pour 194 = .ok (.iadd, 1) := by decide +kernel
theorem dX12_pour_195 : decode cX12_pour 195 = .ok (.iload 8, 2) := by decide +kernel
theorem dX12_pour_197 : decode cX12_pour 197 = .ok (.iadd, 1) := by decide +kernel
theorem dX12_pour_198 : decode cX12_pour 198 = .ok (.aload_n 0, 1) := by decide +kernel
theorem dX12_pour_199 : decode cX12_pour 199 = .ok (.getfield 20, 3) := by decide +kernel
theorem dX12_pour_202 : decode cX12_pour 202 = .ok (.bipush 60, 2) := by decide +kernel
theorem dX12_pour_204 : decode cX12_pour 204 = .ok (.iload_n 1, 1) := by decide +kernel
theorem dX12_pour_205 : decode cX12_pour 205 = .ok (.imul, 1) := by decide +kernel
theorem dX12_pour_206 : decode cX12_pour 206 = .ok (.iload_n 2, 1) := by decide +kernel
theorem dX12_pour_207 : decode cX12_pour 207 = .ok (.iadd, 1) := by decide +kernel
theorem dX12_pour_208 : decode cX12_pour 208 = .ok (.iload 8, 2) := by decide +kernel
theorem dX12_pour_210 : decode cX12_pour 210 = .ok (.iadd, 1) := by decide +kernel
theorem dX12_pour_211 : decode cX12_pour 211 = .ok (.laload, 1) := by decide +kernel
theorem dX12_pour_212 : decode cX12_pour 212 = .ok (.lastore, 1) := by decide +kernel
theorem dX12_pour_213 : decode cX12_pour 213 = .ok (.iinc 7 1, 3) := by decide +kernel
theorem dX12_pour_216 : decode cX12_pour 216 = .ok (.goto (-58), 3) := by decide +kernel
theorem dX12_pour_219 : decode cX12_pour 219 = .ok (.iconst 1, 1) := by decide +kernel
theorem dX12_pour_220 : decode cX12_pour 220 = .ok (.ireturn, 1) := by decide +kernel
theorem dX12_power_0 : decode cX12_power 0 = .ok (.lconst 1, 1) := by decide +kernel
theorem dX12_power_1 : decode cX12_power 1 = .ok (.lstore_n 1, 1) := by decide +kernel
theorem dX12_power_2 : decode cX12_power 2 = .ok (.iconst 0, 1) := by decide +kernel
theorem dX12_power_3 : decode cX12_power 3 = .ok (.istore_n 3, 1) := by decide +kernel
theorem dX12_power_4 : decode cX12_power 4 = .ok (.iload_n 3, 1) := by decide +kernel
theorem dX12_power_5 : decode cX12_power 5 = .ok (.iload_n 0, 1) := by decide +kernel
theorem dX12_power_6 : decode cX12_power 6 = .ok (.if_icmp .ge 15, 3) := by decide +kernel
theorem dX12_power_9 : decode cX12_power 9 = .ok (.lload_n 1, 1) := by decide +kernel
theorem dX12_power_10 : decode cX12_power 10 = .ok (.ldc2_w 360, 3) := by decide +kernel
theorem dX12_power_13 : decode cX12_power 13 = .ok (.lmul, 1) := by decide +kernel
theorem dX12_power_14 : decode cX12_power 14 = .ok (.lstore_n 1, 1) := by decide +kernel
theorem dX12_power_15 : decode cX12_power 15 = .ok (.iinc 3 1, 3) := by decide +kernel
theorem dX12_power_18 : decode cX12_power 18 = .ok (.goto (-14), 3) := by decide +kernel
theorem dX12_power_21 : decode cX12_power 21 = .ok (.lload_n 1, 1) := by decide +kernel
theorem dX12_power_22 : decode cX12_power 22 = .ok (.lreturn, 1) := by decide +kernel
theorem dX12_put_0 : decode cX12_put 0 = .ok (.aload_n 0, 1) := by decide +kernel
theorem dX12_put_1 : decode cX12_put 1 = .ok (.iconst 0, 1) := by decide +kernel
theorem dX12_put_2 : decode cX12_put 2 = .ok (.putfield 82, 3) := by decide +kernel
theorem dX12_put_5 : decode cX12_put 5 = .ok (.aload_n 0, 1) := by decide +kernel
theorem dX12_put_6 : decode cX12_put 6 = .ok (.iconst 0, 1) := by decide +kernel
theorem dX12_put_7 : decode cX12_put 7 = .ok (.putfield 85, 3) := by decide +kernel
theorem dX12_put_10 : decode cX12_put 10 = .ok (.aload_n 0, 1) := by decide +kernel
theorem dX12_put_11 : decode cX12_put 11 = .ok (.iload_n 1, 1) := by decide +kernel
theorem dX12_put_12 : decode cX12_put 12 = .ok (.i2l, 1) := by decide +kernel
theorem dX12_put_13 : decode cX12_put 13 = .ok (.invokevirtual 275, 3) := by decide +kernel
theorem dX12_put_16 : decode cX12_put 16 = .ok (.ifCond .eq 11, 3) := by decide +kernel
theorem dX12_put_19 : decode cX12_put 19 = .ok (.aload_n 0, 1) := by decide +kernel
theorem dX12_put_20 : decode cX12_put 20 = .ok (.iload_n 2, 1) := by decide +kernel
theorem dX12_put_21 : decode cX12_put 21 = .ok (.invokevirtual 289, 3) := by decide +kernel
theorem dX12_put_24 : decode cX12_put 24 = .ok (.ifCond .ne 9, 3) := by decide +kernel
theorem dX12_put_27 : decode cX12_put 27 = .ok (.aload_n 0, 1) := by decide +kernel
theorem dX12_put_28 : decode cX12_put 28 = .ok (.iconst 2, 1) := by decide +kernel
theorem dX12_put_29 : decode cX12_put 29 = .ok (.invokevirtual 97, 3) := by decide +kernel
theorem dX12_put_32 : decode cX12_put 32 = .ok (.ireturn, 1) := by decide +kernel
theorem dX12_put_33 : decode cX12_put 33 = .ok (.iload_n 3, 1) := by decide +kernel
theorem dX12_put_34 : decode cX12_put 34 = .ok (.i2l, 1) := by decide +kernel
theorem dX12_put_35 : decode cX12_put 35 = .ok (.lconst 0, 1) := by decide +kernel
theorem dX12_put_36 : decode cX12_put 36 = .ok (.aload_n 0, 1) := by decide +kernel
theorem dX12_put_37 : decode cX12_put 37 = .ok (.getfield 35, 3) := by decide +kernel
theorem dX12_put_40 : decode cX12_put 40 = .ok (.bipush 95, 2) := by decide +kernel
theorem dX12_put_42 : decode cX12_put 42 = .ok (.iload_n 2, 1) := by decide +kernel
theorem dX12_put_43 : decode cX12_put 43 = .ok (.iadd, 1) := by decide +kernel
theorem dX12_put_44 : decode cX12_put 44 = .ok (.iaload, 1) := by decide +kernel
theorem dX12_put_45 : decode cX12_put 45 = .ok (.i2l, 1) := by decide +kernel
theorem dX12_put_46 : decode cX12_put 46 = .ok (.invokestatic 117, 3) := by decide +kernel
theorem dX12_put_49 : decode cX12_put 49 = .ok (.ifCond .ne 9, 3) := by decide +kernel
theorem dX12_put_52 : decode cX12_put 52 = .ok (.aload_n 0, 1) := by decide +kernel
theorem dX12_put_53 : decode cX12_put 53 = .ok (.iconst 5, 1) := by decide +kernel
theorem dX12_put_54 : decode cX12_put 54 = .ok (.invokevirtual 97, 3) := by decide +kernel
theorem dX12_put_57 : decode cX12_put 57 = .ok (.ireturn, 1) := by decide +kernel
theorem dX12_put_58 : decode cX12_put 58 = .ok (.aload_n 0, 1) := by decide +kernel
theorem dX12_put_59 : decode cX12_put 59 = .ok (.iload_n 1, 1) := by decide +kernel
theorem dX12_put_60 : decode cX12_put 60 = .ok (.invokevirtual 278, 3) := by decide +kernel
theorem dX12_put_63 : decode cX12_put 63 = .ok (.ifCond .lt 10, 3) := by decide +kernel
theorem dX12_put_66 : decode cX12_put 66 = .ok (.aload_n 0, 1) := by decide +kernel
theorem dX12_put_67 : decode cX12_put 67 = .ok (.bipush 9, 2) := by decide +kernel
theorem dX12_put_69 : decode cX12_put 69 = .ok (.invokevirtual 97, 3) := by decide +kernel
theorem dX12_put_72 : decode cX12_put 72 = .ok (.ireturn, 1) := by decide +kernel
theorem dX12_put_73 : decode cX12_put 73 = .ok (.aload_n 0, 1) := by decide +kernel
theorem dX12_put_74 : decode cX12_put 74 = .ok (.iload_n 1, 1) := by decide +kernel
theorem dX12_put_75 : decode cX12_put 75 = .ok (.iload_n 2, 1) := by decide +kernel
theorem dX12_put_76 : decode cX12_put 76 = .ok (.iload_n 3, 1) := by decide +kernel
theorem dX12_put_77 : decode cX12_put 77 = .ok (.invokevirtual 308, 3) := by decide +kernel
theorem dX12_put_80 : decode cX12_put 80 = .ok (.aload_n 0, 1) := by decide +kernel
theorem dX12_put_81 : decode cX12_put 81 = .ok (.iload_n 2, 1) := by decide +kernel
theorem dX12_put_82 : decode cX12_put 82 = .ok (.invokevirtual 305, 3) := by decide +kernel
theorem dX12_put_85 : decode cX12_put 85 = .ok (.iconst 1, 1) := by decide +kernel
theorem dX12_put_86 : decode cX12_put 86 = .ok (.ireturn, 1) := by decide +kernel
theorem dX12_read_0 : decode cX12_read 0 = .ok (.aload_n 0, 1) := by decide +kernel
theorem dX12_read_1 : decode cX12_read 1 = .ok (.iconst 0, 1) := by decide +kernel
theorem dX12_read_2 : decode cX12_read 2 = .ok (.putfield 82, 3) := by decide +kernel
theorem dX12_read_5 : decode cX12_read 5 = .ok (.aload_n 0, 1) := by decide +kernel
theorem dX12_read_6 : decode cX12_read 6 = .ok (.aload_n 0, 1) := by decide +kernel
theorem dX12_read_7 : decode cX12_read 7 = .ok (.iload_n 1, 1) := by decide +kernel
theorem dX12_read_8 : decode cX12_read 8 = .ok (.iload_n 2, 1) := by decide +kernel
theorem dX12_read_9 : decode cX12_read 9 = .ok (.invokevirtual 105, 3) := by decide +kernel
theorem dX12_read_12 : decode cX12_read 12 = .ok (.putfield 85, 3) := by decide +kernel
theorem dX12_read_15 : decode cX12_read 15 = .ok (.aload_n 0, 1) := by decide +kernel
theorem dX12_read_16 : decode cX12_read 16 = .ok (.getfield 85, 3) := by decide +kernel
theorem dX12_read_19 : decode cX12_read 19 = .ok (.ifCond .le 9, 3) := by decide +kernel
theorem dX12_read_22 : decode cX12_read 22 = .ok (.ldc2_w 113, 3) := by decide +kernel
theorem dX12_read_25 : decode cX12_read 25 = .ok (.goto 14, 3) := by decide +kernel
theorem dX12_read_28 : decode cX12_read 28 = .ok (.aload_n 0, 1) := by decide +kernel
theorem dX12_read_29 : decode cX12_read 29 = .ok (.getfield 20, 3) := by decide +kernel
theorem dX12_read_32 : decode cX12_read 32 = .ok (.bipush 60, 2) := by decide +kernel
theorem dX12_read_34 : decode cX12_read 34 = .ok (.iload_n 1, 1) := by decide +kernel
theorem dX12_read_35 : decode cX12_read 35 = .ok (.imul, 1) := by decide +kernel
theorem dX12_read_36 : decode cX12_read 36 = .ok (.iload_n 2, 1) := by decide +kernel
theorem dX12_read_37 : decode cX12_read 37 = .ok (.iadd, 1) := by decide +kernel
theorem dX12_read_38 : decode cX12_read 38 = .ok (.laload, 1) := by decide +kernel
theorem dX12_read_39 : decode cX12_read 39 = .ok (.lreturn, 1) := by decide +kernel
theorem dX12_readDoor_0 : decode cX12_readDoor 0 = .ok (.aload_n 0, 1) := by decide +kernel
theorem dX12_readDoor_1 : decode cX12_readDoor 1 = .ok (.iconst 3, 1) := by decide +kernel
theorem dX12_readDoor_2 : decode cX12_readDoor 2 = .ok (.iconst 5, 1) := by decide +kernel
theorem dX12_readDoor_3 : decode cX12_readDoor 3 = .ok (.bipush 16, 2) := by decide +kernel
theorem dX12_readDoor_5 : decode cX12_readDoor 5 = .ok (.invokevirtual 207, 3) := by decide +kernel
theorem dX12_readDoor_8 : decode cX12_readDoor 8 = .ok (.istore_n 1, 1) := by decide +kernel
theorem dX12_readDoor_9 : decode cX12_readDoor 9 = .ok (.aload_n 0, 1) := by decide +kernel
theorem dX12_readDoor_10 : decode cX12_readDoor 10 = .ok (.aload_n 0, 1) := by decide +kernel
theorem dX12_readDoor_11 : decode cX12_readDoor 11 = .ok (.invokevirtual 170, 3) := by decide +kernel
theorem dX12_readDoor_14 : decode cX12_readDoor 14 = .ok (.bipush 9, 2) := by decide +kernel
theorem dX12_readDoor_16 : decode cX12_readDoor 16 = .ok (.if_icmp .ne 7, 3) := by decide +kernel
theorem dX12_readDoor_19 : decode cX12_readDoor 19 = .ok (.iconst 1, 1) := by decide +kernel
theorem dX12_readDoor_20 : decode cX12_readDoor 20 = .ok (.goto 4, 3) := by decide +kernel
theorem dX12_readDoor_23 : decode cX12_readDoor 23 = .ok (.iconst 0, 1) := by decide +kernel
theorem dX12_readDoor_24 : decode cX12_readDoor 24 = .ok (.invokevirtual 210, 3) := by decide +kernel
theorem dX12_readDoor_27 : decode cX12_readDoor 27 = .ok (.aload_n 0, 1) := by decide +kernel
theorem dX12_readDoor_28 : decode cX12_readDoor 28 = .ok (.iconst 0, 1) := by decide +kernel
theorem dX12_readDoor_29 : decode cX12_readDoor 29 = .ok (.bipush 99, 2) := by decide +kernel
theorem dX12_readDoor_31 : decode cX12_readDoor 31 = .ok (.invokevirtual 214, 3) := by decide +kernel
theorem dX12_readDoor_34 : decode cX12_readDoor 34 = .ok (.istore_n 2, 1) := by decide +kernel
theorem dX12_readDoor_35 : decode cX12_readDoor 35 = .ok (.aload_n 0, 1) := by decide +kernel
theorem dX12_readDoor_36 : decode cX12_readDoor 36 = .ok (.aload_n 0, 1) := by decide +kernel
theorem dX12_readDoor_37 : decode cX12_readDoor 37 = .ok (.invokevirtual 170, 3) := by decide +kernel
theorem dX12_readDoor_40 : decode cX12_readDoor 40 = .ok (.bipush 10, 2) := by decide +kernel
theorem dX12_readDoor_42 : decode cX12_readDoor 42 = .ok (.if_icmp .ne 7, 3) := by decide +kernel
theorem dX12_readDoor_45 : decode cX12_readDoor 45 = .ok (.iconst 1, 1) := by decide +kernel
theorem dX12_readDoor_46 : decode cX12_readDoor 46 = .ok (.goto 4, 3) := by decide +kernel
theorem dX12_readDoor_49 : decode cX12_readDoor 49 = .ok (.iconst 0, 1) := by decide +kernel
theorem dX12_readDoor_50 : decode cX12_readDoor 50 = .ok (.invokevirtual 210, 3) := by decide +kernel
theorem dX12_readDoor_53 : decode cX12_readDoor 53 = .ok (.iconst 0, 1) := by decide +kernel
theorem dX12_readDoor_54 : decode cX12_readDoor 54 = .ok (.istore_n 3, 1) := by decide +kernel
theorem dX12_readDoor_55 : decode cX12_readDoor 55 = .ok (.iconst 1, 1) := by decide +kernel
theorem dX12_readDoor_56 : decode cX12_readDoor 56 = .ok (.istore 4, 2) := by decide +kernel
theorem dX12_readDoor_58 : decode cX12_readDoor 58 = .ok (.iload 4, 2) := by decide +kernel
theorem dX12_readDoor_60 : decode cX12_readDoor 60 = .ok (.ifCond .eq 81, 3) := by decide +kernel
theorem dX12_readDoor_63 : decode cX12_readDoor 63 = .ok (.aload_n 0, 1) := by decide +kernel
theorem dX12_readDoor_64 : decode cX12_readDoor 64 = .ok (.getfield 174, 3) := by decide +kernel
theorem dX12_readDoor_67 : decode cX12_readDoor 67 = .ok (.ifCond .ne 74, 3) := by decide +kernel
theorem dX12_readDoor_70 : decode cX12_readDoor 70 = .ok (.aload_n 0, 1) := by decide +kernel
theorem dX12_readDoor_71 : decode cX12_readDoor 71 = .ok (.iconst 1, 1) := by decide +kernel
theorem dX12_readDoor_72 : decode cX12_readDoor 72 = .ok (.iconst 3, 1) := by decide +kernel
theorem dX12_readDoor_73 : decode cX12_readDoor 73 = .ok (.invokevirtual 217, 3) := by decide +kernel
theorem dX12_readDoor_76 : decode cX12_readDoor 76 = .ok (.istore 5, 2) := by decide +kernel
theorem dX12_readDoor_78 : decode cX12_readDoor 78 = .ok (.aload_n 0, 1) := by decide +kernel
theorem dX12_readDoor_79 : decode cX12_readDoor 79 = .ok (.getfield 174, 3) := by decide +kernel
theorem dX12_readDoor_82 : decode cX12_readDoor 82 = .ok (.ifCond .ne 22, 3) := by decide +kernel
theorem dX12_readDoor_85 : decode cX12_readDoor 85 = .ok (.iload_n 3, 1) := by decide +kernel
theorem dX12_readDoor_86 : decode cX12_readDoor 86 = .ok (.iload 5, 2) := by decide +kernel
theorem dX12_readDoor_88 : decode cX12_readDoor 88 = .ok (.ishr, 1) := by decide +kernel
theorem dX12_readDoor_89 : decode cX12_readDoor 89 = .ok (.iconst 1, 1) := by decide +kernel
theorem dX12_readDoor_90 : decode cX12_readDoor 90 = .ok (.iand, 1) := by decide +kernel
theorem dX12_readDoor_91 : decode cX12_readDoor 91 = .ok (.iconst 1, 1) := by decide +kernel
theorem dX12_readDoor_92 : decode cX12_readDoor 92 = .ok (.if_icmp .ne 12, 3) := by decide +kernel
theorem dX12_readDoor_95 : decode cX12_readDoor 95 = .ok (.aload_n 0, 1) := by decide +kernel
theorem dX12_readDoor_96 : decode cX12_readDoor 96 = .ok (.iconst 5, 1) := by decide +kernel
theorem dX12_readDoor_97 : decode cX12_readDoor 97 = .ok (.aload_n 0, 1) := by decide +kernel
theorem dX12_readDoor_98 : decode cX12_readDoor 98 = .ok (.getfield 127, 3) := by decide +kernel
theorem dX12_readDoor_101 : decode cX12_readDoor 101 = .ok (.invokevirtual 180, 3) := by decide +kernel
theorem dX12_readDoor_104 : decode cX12_readDoor 104 = .ok (.aload_n 0, 1) := by decide +kernel
theorem dX12_readDoor_105 : decode cX12_readDoor 105 = .ok (.getfield 174, 3) := by decide +kernel
theorem dX12_readDoor_108 : decode cX12_readDoor 108 = .ok (.ifCond .le 4, 3) := by decide +kernel
theorem dX12_readDoor_111 : decode cX12_readDoor 111 = .ok (.return_, 1) := by decide +kernel
theorem dX12_readDoor_112 : decode cX12_readDoor 112 = .ok (.iload_n 3, 1) := by decide +kernel
theorem dX12_readDoor_113 : decode cX12_readDoor 113 = .ok (.iconst 1, 1) := by decide +kernel
theorem dX12_readDoor_114 : decode cX12_readDoor 114 = .ok (.iload 5, 2) := by decide +kernel
theorem dX12_readDoor_116 : decode cX12_readDoor 116 = .ok (.ishl, 1) := by decide +kernel
theorem dX12_readDoor_117 : decode cX12_readDoor 117 = .ok (.ior, 1) := by decide +kernel
theorem dX12_readDoor_118 : decode cX12_readDoor 118 = .ok (.istore_n 3, 1) := by decide +kernel
theorem dX12_readDoor_119 : decode cX12_readDoor 119 = .ok (.aload_n 0, 1) := by decide +kernel
theorem dX12_readDoor_120 : decode cX12_readDoor 120 = .ok (.invokevirtual 184, 3) := by decide +kernel
theorem dX12_readDoor_123 : decode cX12_readDoor 123 = .ok (.aload_n 0, 1) := by decide +kernel
theorem dX12_readDoor_124 : decode cX12_readDoor 124 = .ok (.getfield 133, 3) := by decide +kernel
theorem dX12_readDoor_127 : decode cX12_readDoor 127 = .ok (.iconst 1, 1) := by decide +kernel
theorem dX12_readDoor_128 : decode cX12_readDoor 128 = .ok (.if_icmp .ne 7, 3) := by decide +kernel
theorem dX12_readDoor_131 : decode cX12_readDoor 131 = .ok (.iconst 1, 1) := by decide +kernel
theorem dX12_readDoor_132 : decode cX12_readDoor 132 = .ok (.goto 4, 3) := by decide +kernel
theorem dX12_readDoor_135 : decode cX12_readDoor 135 = .ok (.iconst 0, 1) := by decide +kernel
theorem dX12_readDoor_136 : decode cX12_readDoor 136 = .ok (.istore 4, 2) := by decide +kernel
theorem dX12_readDoor_138 : decode cX12_readDoor 138 = .ok (.goto (-80), 3) := by decide +kernel
theorem dX12_readDoor_141 : decode cX12_readDoor 141 = .ok (.aload_n 0, 1) := by decide +kernel
theorem dX12_readDoor_142 : decode cX12_readDoor 142 = .ok (.getfield 174, 3) := by decide +kernel
theorem dX12_readDoor_145 : decode cX12_readDoor 145 = .ok (.ifCond .le 4, 3) := by decide +kernel
theorem dX12_readDoor_148 : decode cX12_readDoor 148 = .ok (.return_, 1) := by decide +kernel
theorem dX12_readDoor_149 : decode cX12_readDoor 149 = .ok (.aload_n 0, 1) := by decide +kernel
theorem dX12_readDoor_150 : decode cX12_readDoor 150 = .ok (.getfield 35, 3) := by decide +kernel
theorem dX12_readDoor_153 : decode cX12_readDoor 153 = .ok (.sipush 1588, 3) := by decide +kernel
theorem dX12_readDoor_156 : decode cX12_readDoor 156 = .ok (.iload_n 1, 1) := by decide +kernel
theorem dX12_readDoor_157 : decode cX12_readDoor 157 = .ok (.iadd, 1) := by decide +kernel
theorem dX12_readDoor_158 : decode cX12_readDoor 158 = .ok (.iload_n 2, 1) := by decide +kernel
theorem dX12_readDoor_159 : decode cX12_readDoor 159 = .ok (.iastore, 1) := by decide +kernel
theorem dX12_readDoor_160 : decode cX12_readDoor 160 = .ok (.aload_n 0, 1) := by decide +kernel
theorem dX12_readDoor_161 : decode cX12_readDoor 161 = .ok (.getfield 35, 3) := by decide +kernel
theorem dX12_readDoor_164 : decode cX12_readDoor 164 = .ok (.sipush 1593, 3) := by decide +kernel
theorem dX12_readDoor_167 : decode cX12_readDoor 167 = .ok (.iload_n 1, 1) := by decide +kernel
theorem dX12_readDoor_168 : decode cX12_readDoor 168 = .ok (.iadd, 1) := by decide +kernel
theorem dX12_readDoor_169 : decode cX12_readDoor 169 = .ok (.iload_n 3, 1) := by decide +kernel
theorem dX12_readDoor_170 : decode cX12_readDoor 170 = .ok (.iastore, 1) := by decide +kernel
theorem dX12_readDoor_171 : decode cX12_readDoor 171 = .ok (.aload_n 0, 1) := by decide +kernel
theorem dX12_readDoor_172 : decode cX12_readDoor 172 = .ok (.getfield 35, 3) := by decide +kernel
theorem dX12_readDoor_175 : decode cX12_readDoor 175 = .ok (.sipush 1463, 3) := by decide +kernel
theorem dX12_readDoor_178 : decode cX12_readDoor 178 = .ok (.dup2, 1) := by decide +kernel
theorem dX12_readDoor_179 : decode cX12_readDoor 179 = .ok (.iaload, 1) := by decide +kernel
theorem dX12_readDoor_180 : decode cX12_readDoor 180 = .ok (.iconst 1, 1) := by decide +kernel
theorem dX12_readDoor_181 : decode cX12_readDoor 181 = .ok (.iadd, 1) := by decide +kernel
theorem dX12_readDoor_182 : decode cX12_readDoor 182 = .ok (.iastore, 1) := by decide +kernel
theorem dX12_readDoor_183 : decode cX12_readDoor 183 = .ok (.return_, 1) := by decide +kernel
theorem dX12_readFeature_0 : decode cX12_readFeature 0 = .ok (.aload_n 0, 1) := by decide +kernel
theorem dX12_readFeature_1 : decode cX12_readFeature 1 = .ok (.getfield 35, 3) := by decide +kernel
theorem dX12_readFeature_4 : decode cX12_readFeature 4 = .ok (.sipush 1460, 3) := by decide +kernel
theorem dX12_readFeature_7 : decode cX12_readFeature 7 = .ok (.iaload, 1) := by decide +kernel
theorem dX12_readFeature_8 : decode cX12_readFeature 8 = .ok (.iconst 3, 1) := by decide +kernel
theorem dX12_readFeature_9 : decode cX12_readFeature 9 = .ok (.if_icmp .ge 24, 3) := by decide +kernel
theorem dX12_readFeature_12 : decode cX12_readFeature 12 = .ok (.aload_n 0, 1) := by decide +kernel
theorem dX12_readFeature_13 : decode cX12_readFeature 13 = .ok (.getfield 35, 3) := by decide +kernel
theorem dX12_readFeature_16 : decode cX12_readFeature 16 = .ok (.sipush 1461, 3) := by decide +kernel
theorem dX12_readFeature_19 : decode cX12_readFeature 19 = .ok (.iaload, 1) := by decide +kernel
theorem dX12_readFeature_20 : decode cX12_readFeature 20 = .ok (.ifCond .le 13, 3) := by decide +kernel
theorem dX12_readFeature_23 : decode cX12_readFeature 23 = .ok (.aload_n 0, 1) := by decide +kernel
theorem dX12_readFeature_24 : decode cX12_readFeature 24 = .ok (.bipush 7, 2) := by decide +kernel
theorem dX12_readFeature_26 : decode cX12_readFeature 26 = .ok (.aload_n 0, 1) := by decide +kernel
theorem dX12_readFeature_27 : decode cX12_readFeature 27 = .ok (.getfield 127, 3) := by decide +kernel
theorem dX12_readFeature_30 : decode cX12_readFeature 30 = .ok (.invokevirtual 180, 3) := by decide +kernel
theorem dX12_readFeature_33 : decode cX12_readFeature 33 = .ok (.aload_n 0, 1) := by decide +kernel
theorem dX12_readFeature_34 : decode cX12_readFeature 34 = .ok (.iconst 0, 1) := by decide +kernel
theorem dX12_readFeature_35 : decode cX12_readFeature 35 = .ok (.iconst 3, 1) := by decide +kernel
theorem dX12_readFeature_36 : decode cX12_readFeature 36 = .ok (.iconst 0, 1) := by decide +kernel
theorem dX12_readFeature_37 : decode cX12_readFeature 37 = .ok (.invokevirtual 207, 3) := by decide +kernel
theorem dX12_readFeature_40 : decode cX12_readFeature 40 = .ok (.istore_n 1, 1) := by decide +kernel
theorem dX12_readFeature_41 : decode cX12_readFeature 41 = .ok (.aload_n 0, 1) := by decide +kernel
theorem dX12_readFeature_42 : decode cX12_readFeature 42 = .ok (.aload_n 0, 1) := by decide +kernel
theorem dX12_readFeature_43 : decode cX12_readFeature 43 = .ok (.invokevirtual 170, 3) := by decide +kernel
theorem dX12_readFeature_46 : decode cX12_readFeature 46 = .ok (.bipush 8, 2) := by decide +kernel
theorem dX12_readFeature_48 : decode cX12_readFeature 48 = .ok (.if_icmp .ne 7, 3) := by decide +kernel
theorem dX12_readFeature_51 : decode cX12_readFeature 51 = .ok (.iconst 1, 1) := by decide +kernel
theorem dX12_readFeature_52 : decode cX12_readFeature 52 = .ok (.goto 4, 3) := by decide +kernel
