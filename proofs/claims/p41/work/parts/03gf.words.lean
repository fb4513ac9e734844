theorem dX1_playFeel_87 : decode cX1_playFeel 87 = .ok (.aload_n 0, 1) := by decide +kernel
theorem dX1_playFeel_88 : decode cX1_playFeel 88 = .ok (.getfield 100, 3) := by decide +kernel
theorem dX1_playFeel_91 : decode cX1_playFeel 91 = .ok (.invokevirtual 172, 3) := by decide +kernel
theorem dX1_playFeel_94 : decode cX1_playFeel 94 = .ok (.iload_n 1, 1) := by decide +kernel
theorem dX1_playFeel_95 : decode cX1_playFeel 95 = .ok (.aload_n 0, 1) := by decide +kernel
theorem dX1_playFeel_96 : decode cX1_playFeel 96 = .ok (.getfield 103, 3) := by decide +kernel
theorem dX1_playFeel_99 : decode cX1_playFeel 99 = .ok (.iload 5, 2) := by decide +kernel
theorem dX1_playFeel_101 : decode cX1_playFeel 101 = .ok (.invokevirtual 175, 3) := by decide +kernel
theorem dX1_playFeel_104 : decode cX1_playFeel 104 = .ok (.iadd, 1) := by decide +kernel
theorem dX1_playFeel_105 : decode cX1_playFeel 105 = .ok (.istore 4, 2) := by decide +kernel
theorem dX1_playFeel_107 : decode cX1_playFeel 107 = .ok (.iinc 5 1, 3) := by decide +kernel
theorem dX1_playFeel_110 : decode cX1_playFeel 110 = .ok (.goto (-55), 3) := by decide +kernel
theorem dX1_playFeel_113 : decode cX1_playFeel 113 = .ok (.aload_n 0, 1) := by decide +kernel
theorem dX1_playFeel_114 : decode cX1_playFeel 114 = .ok (.getfield 17, 3) := by decide +kernel
theorem dX1_playFeel_117 : decode cX1_playFeel 117 = .ok (.iload_n 1, 1) := by decide +kernel
theorem dX1_playFeel_118 : decode cX1_playFeel 118 = .ok (.iload_n 3, 1) := by decide +kernel
theorem dX1_playFeel_119 : decode cX1_playFeel 119 = .ok (.invokestatic 96, 3) := by decide +kernel
theorem dX1_playFeel_122 : decode cX1_playFeel 122 = .ok (.aload_n 0, 1) := by decide +kernel
theorem dX1_playFeel_123 : decode cX1_playFeel 123 = .ok (.getfield 31, 3) := by decide +kernel
theorem dX1_playFeel_126 : decode cX1_playFeel 126 = .ok (.getfield 179, 3) := by decide +kernel
theorem dX1_playFeel_129 : decode cX1_playFeel 129 = .ok (.ifCond .eq 13, 3) := by decide +kernel
theorem dX1_playFeel_132 : decode cX1_playFeel 132 = .ok (.aload_n 0, 1) := by decide +kernel
theorem dX1_playFeel_133 : decode cX1_playFeel 133 = .ok (.getfield 40, 3) := by decide +kernel
theorem dX1_playFeel_136 : decode cX1_playFeel 136 = .ok (.iload_n 1, 1) := by decide +kernel
theorem dX1_playFeel_137 : decode cX1_playFeel 137 = .ok (.iload_n 3, 1) := by decide +kernel
theorem dX1_playFeel_138 : decode cX1_playFeel 138 = .ok (.invokevirtual 182, 3) := by decide +kernel
theorem dX1_playFeel_141 : decode cX1_playFeel 141 = .ok (.pop, 1) := by decide +kernel
theorem dX1_playFeel_142 : decode cX1_playFeel 142 = .ok (.return_, 1) := by decide +kernel
theorem dX1_playGo_0 : decode cX1_playGo 0 = .ok (.aload_n 0, 1) := by decide +kernel
theorem dX1_playGo_1 : decode cX1_playGo 1 = .ok (.dup, 1) := by decide +kernel
theorem dX1_playGo_2 : decode cX1_playGo 2 = .ok (.getfield 60, 3) := by decide +kernel
theorem dX1_playGo_5 : decode cX1_playGo 5 = .ok (.aload_n 0, 1) := by decide +kernel
theorem dX1_playGo_6 : decode cX1_playGo 6 = .ok (.getfield 27, 3) := by decide +kernel
theorem dX1_playGo_9 : decode cX1_playGo 9 = .ok (.iconst 2, 1) := by decide +kernel
theorem dX1_playGo_10 : decode cX1_playGo 10 = .ok (.invokevirtual 155, 3) := by decide +kernel
theorem dX1_playGo_13 : decode cX1_playGo 13 = .ok (.i2l, 1) := by decide +kernel
theorem dX1_playGo_14 : decode cX1_playGo 14 = .ok (.ladd, 1) := by decide +kernel
theorem dX1_playGo_15 : decode cX1_playGo 15 = .ok (.putfield 60, 3) := by decide +kernel
theorem dX1_playGo_18 : decode cX1_playGo 18 = .ok (.aload_n 0, 1) := by decide +kernel
theorem dX1_playGo_19 : decode cX1_playGo 19 = .ok (.aload_n 0, 1) := by decide +kernel
theorem dX1_playGo_20 : decode cX1_playGo 20 = .ok (.getfield 103, 3) := by decide +kernel
theorem dX1_playGo_23 : decode cX1_playGo 23 = .ok (.ifCond .ne 12, 3) := by decide +kernel
theorem dX1_playGo_26 : decode cX1_playGo 26 = .ok (.aload_n 0, 1) := by decide +kernel
theorem dX1_playGo_27 : decode cX1_playGo 27 = .ok (.getfield 100, 3) := by decide +kernel
theorem dX1_playGo_30 : decode cX1_playGo 30 = .ok (.iconst 1, 1) := by decide +kernel
theorem dX1_playGo_31 : decode cX1_playGo 31 = .ok (.iadd, 1) := by decide +kernel
theorem dX1_playGo_32 : decode cX1_playGo 32 = .ok (.goto 9, 3) := by decide +kernel
theorem dX1_playGo_35 : decode cX1_playGo 35 = .ok (.aload_n 0, 1) := by decide +kernel
theorem dX1_playGo_36 : decode cX1_playGo 36 = .ok (.getfield 100, 3) := by decide +kernel
theorem dX1_playGo_39 : decode cX1_playGo 39 = .ok (.iconst 1, 1) := by decide +kernel
theorem dX1_playGo_40 : decode cX1_playGo 40 = .ok (.isub, 1) := by decide +kernel
theorem dX1_playGo_41 : decode cX1_playGo 41 = .ok (.aload_n 0, 1) := by decide +kernel
theorem dX1_playGo_42 : decode cX1_playGo 42 = .ok (.getfield 40, 3) := by decide +kernel
theorem dX1_playGo_45 : decode cX1_playGo 45 = .ok (.getfield 111, 3) := by decide +kernel
theorem dX1_playGo_48 : decode cX1_playGo 48 = .ok (.invokestatic 192, 3) := by decide +kernel
theorem dX1_playGo_51 : decode cX1_playGo 51 = .ok (.putfield 100, 3) := by decide +kernel
theorem dX1_playGo_54 : decode cX1_playGo 54 = .ok (.aload_n 0, 1) := by decide +kernel
theorem dX1_playGo_55 : decode cX1_playGo 55 = .ok (.getfield 40, 3) := by decide +kernel
theorem dX1_playGo_58 : decode cX1_playGo 58 = .ok (.invokevirtual 196, 3) := by decide +kernel
theorem dX1_playGo_61 : decode cX1_playGo 61 = .ok (.aload_n 0, 1) := by decide +kernel
theorem dX1_playGo_62 : decode cX1_playGo 62 = .ok (.invokevirtual 125, 3) := by decide +kernel
theorem dX1_playGo_65 : decode cX1_playGo 65 = .ok (.return_, 1) := by decide +kernel
theorem dX1_playStep_0 : decode cX1_playStep 0 = .ok (.aload_n 0, 1) := by decide +kernel
theorem dX1_playStep_1 : decode cX1_playStep 1 = .ok (.getfield 51, 3) := by decide +kernel
theorem dX1_playStep_4 : decode cX1_playStep 4 = .ok (.istore_n 2, 1) := by decide +kernel
theorem dX1_playStep_5 : decode cX1_playStep 5 = .ok (.aload_n 0, 1) := by decide +kernel
theorem dX1_playStep_6 : decode cX1_playStep 6 = .ok (.iload_n 2, 1) := by decide +kernel
theorem dX1_playStep_7 : decode cX1_playStep 7 = .ok (.iconst 1, 1) := by decide +kernel
theorem dX1_playStep_8 : decode cX1_playStep 8 = .ok (.iadd, 1) := by decide +kernel
theorem dX1_playStep_9 : decode cX1_playStep 9 = .ok (.putfield 51, 3) := by decide +kernel
theorem dX1_playStep_12 : decode cX1_playStep 12 = .ok (.iload_n 1, 1) := by decide +kernel
theorem dX1_playStep_13 : decode cX1_playStep 13 = .ok (.tableswitch 160 0 9 #[55, 70, 77, 84, 108, 152, 160, 160, 160, 133], 55) := by decide +kernel
theorem dX1_playStep_68 : decode cX1_playStep 68 = .ok (.aload_n 0, 1) := by decide +kernel
theorem dX1_playStep_69 : decode cX1_playStep 69 = .ok (.aload_n 0, 1) := by decide +kernel
theorem dX1_playStep_70 : decode cX1_playStep 70 = .ok (.getfield 31, 3) := by decide +kernel
theorem dX1_playStep_73 : decode cX1_playStep 73 = .ok (.iload_n 2, 1) := by decide +kernel
theorem dX1_playStep_74 : decode cX1_playStep 74 = .ok (.invokevirtual 140, 3) := by decide +kernel
theorem dX1_playStep_77 : decode cX1_playStep 77 = .ok (.invokevirtual 143, 3) := by decide +kernel
theorem dX1_playStep_80 : decode cX1_playStep 80 = .ok (.goto 116, 3) := by decide +kernel
theorem dX1_playStep_83 : decode cX1_playStep 83 = .ok (.aload_n 0, 1) := by decide +kernel
theorem dX1_playStep_84 : decode cX1_playStep 84 = .ok (.invokevirtual 146, 3) := by decide +kernel
theorem dX1_playStep_87 : decode cX1_playStep 87 = .ok (.goto 109, 3) := by decide +kernel
theorem dX1_playStep_90 : decode cX1_playStep 90 = .ok (.aload_n 0, 1) := by decide +kernel
theorem dX1_playStep_91 : decode cX1_playStep 91 = .ok (.invokevirtual 149, 3) := by decide +kernel
theorem dX1_playStep_94 : decode cX1_playStep 94 = .ok (.goto 102, 3) := by decide +kernel
theorem dX1_playStep_97 : decode cX1_playStep 97 = .ok (.aload_n 0, 1) := by decide +kernel
theorem dX1_playStep_98 : decode cX1_playStep 98 = .ok (.iconst 1, 1) := by decide +kernel
theorem dX1_playStep_99 : decode cX1_playStep 99 = .ok (.aload_n 0, 1) := by decide +kernel
theorem dX1_playStep_100 : decode cX1_playStep 100 = .ok (.getfield 103, 3) := by decide +kernel
theorem dX1_playStep_103 : decode cX1_playStep 103 = .ok (.isub, 1) := by decide +kernel
theorem dX1_playStep_104 : decode cX1_playStep 104 = .ok (.putfield 103, 3) := by decide +kernel
theorem dX1_playStep_107 : decode cX1_playStep 107 = .ok (.aload_n 0, 1) := by decide +kernel
theorem dX1_playStep_108 : decode cX1_playStep 108 = .ok (.getfield 40, 3) := by decide +kernel
theorem dX1_playStep_111 : decode cX1_playStep 111 = .ok (.invokevirtual 152, 3) := by decide +kernel
theorem dX1_playStep_114 : decode cX1_playStep 114 = .ok (.aload_n 0, 1) := by decide +kernel
theorem dX1_playStep_115 : decode cX1_playStep 115 = .ok (.invokevirtual 125, 3) := by decide +kernel
theorem dX1_playStep_118 : decode cX1_playStep 118 = .ok (.goto 78, 3) := by decide +kernel
theorem dX1_playStep_121 : decode cX1_playStep 121 = .ok (.aload_n 0, 1) := by decide +kernel
theorem dX1_playStep_122 : decode cX1_playStep 122 = .ok (.dup, 1) := by decide +kernel
theorem dX1_playStep_123 : decode cX1_playStep 123 = .ok (.getfield 60, 3) := by decide +kernel
theorem dX1_playStep_126 : decode cX1_playStep 126 = .ok (.aload_n 0, 1) := by decide +kernel
theorem dX1_playStep_127 : decode cX1_playStep 127 = .ok (.getfield 27, 3) := by decide +kernel
theorem dX1_playStep_130 : decode cX1_playStep 130 = .ok (.iconst 3, 1) := by decide +kernel
theorem dX1_playStep_131 : decode cX1_playStep 131 = .ok (.invokevirtual 155, 3) := by decide +kernel
theorem dX1_playStep_134 : decode cX1_playStep 134 = .ok (.i2l, 1) := by decide +kernel
theorem dX1_playStep_135 : decode cX1_playStep 135 = .ok (.ladd, 1) := by decide +kernel
theorem dX1_playStep_136 : decode cX1_playStep 136 = .ok (.putfield 60, 3) := by decide +kernel
theorem dX1_playStep_139 : decode cX1_playStep 139 = .ok (.aload_n 0, 1) := by decide +kernel
theorem dX1_playStep_140 : decode cX1_playStep 140 = .ok (.invokevirtual 80, 3) := by decide +kernel
theorem dX1_playStep_143 : decode cX1_playStep 143 = .ok (.goto 53, 3) := by decide +kernel
theorem dX1_playStep_146 : decode cX1_playStep 146 = .ok (.aload_n 0, 1) := by decide +kernel
theorem dX1_playStep_147 : decode cX1_playStep 147 = .ok (.getfield 11, 3) := by decide +kernel
theorem dX1_playStep_150 : decode cX1_playStep 150 = .ok (.iload_n 2, 1) := by decide +kernel
theorem dX1_playStep_151 : decode cX1_playStep 151 = .ok (.aload_n 0, 1) := by decide +kernel
theorem dX1_playStep_152 : decode cX1_playStep 152 = .ok (.getfield 31, 3) := by decide +kernel
theorem dX1_playStep_155 : decode cX1_playStep 155 = .ok (.iload_n 2, 1) := by decide +kernel
theorem dX1_playStep_156 : decode cX1_playStep 156 = .ok (.invokevirtual 158, 3) := by decide +kernel
theorem dX1_playStep_159 : decode cX1_playStep 159 = .ok (.invokestatic 96, 3) := by decide +kernel
theorem dX1_playStep_162 : decode cX1_playStep 162 = .ok (.goto 34, 3) := by decide +kernel
theorem dX1_playStep_165 : decode cX1_playStep 165 = .ok (.aload_n 0, 1) := by decide +kernel
theorem dX1_playStep_166 : decode cX1_playStep 166 = .ok (.iconst 1, 1) := by decide +kernel
theorem dX1_playStep_167 : decode cX1_playStep 167 = .ok (.putfield 54, 3) := by decide +kernel
theorem dX1_playStep_170 : decode cX1_playStep 170 = .ok (.goto 26, 3) := by decide +kernel
theorem dX1_playStep_173 : decode cX1_playStep 173 = .ok (.aload_n 0, 1) := by decide +kernel
theorem dX1_playStep_174 : decode cX1_playStep 174 = .ok (.iload_n 1, 1) := by decide +kernel
theorem dX1_playStep_175 : decode cX1_playStep 175 = .ok (.iload_n 2, 1) := by decide +kernel
theorem dX1_playStep_176 : decode cX1_playStep 176 = .ok (.invokevirtual 161, 3) := by decide +kernel
theorem dX1_playStep_179 : decode cX1_playStep 179 = .ok (.ifCond .ne 17, 3) := by decide +kernel
theorem dX1_playStep_182 : decode cX1_playStep 182 = .ok (.aload_n 0, 1) := by decide +kernel
theorem dX1_playStep_183 : decode cX1_playStep 183 = .ok (.aload_n 0, 1) := by decide +kernel
theorem dX1_playStep_184 : decode cX1_playStep 184 = .ok (.getfield 31, 3) := by decide +kernel
theorem dX1_playStep_187 : decode cX1_playStep 187 = .ok (.iload_n 2, 1) := by decide +kernel
theorem dX1_playStep_188 : decode cX1_playStep 188 = .ok (.invokevirtual 137, 3) := by decide +kernel
theorem dX1_playStep_191 : decode cX1_playStep 191 = .ok (.iconst 1, 1) := by decide +kernel
theorem dX1_playStep_192 : decode cX1_playStep 192 = .ok (.iadd, 1) := by decide +kernel
theorem dX1_playStep_193 : decode cX1_playStep 193 = .ok (.putfield 51, 3) := by decide +kernel
theorem dX1_playStep_196 : decode cX1_playStep 196 = .ok (.return_, 1) := by decide +kernel
theorem dX1_playTry_0 : decode cX1_playTry 0 = .ok (.aload_n 0, 1) := by decide +kernel
theorem dX1_playTry_1 : decode cX1_playTry 1 = .ok (.dup, 1) := by decide +kernel
theorem dX1_playTry_2 : decode cX1_playTry 2 = .ok (.getfield 60, 3) := by decide +kernel
theorem dX1_playTry_5 : decode cX1_playTry 5 = .ok (.aload_n 0, 1) := by decide +kernel
theorem dX1_playTry_6 : decode cX1_playTry 6 = .ok (.getfield 27, 3) := by decide +kernel
theorem dX1_playTry_9 : decode cX1_playTry 9 = .ok (.iconst 1, 1) := by decide +kernel
theorem dX1_playTry_10 : decode cX1_playTry 10 = .ok (.invokevirtual 155, 3) := by decide +kernel
theorem dX1_playTry_13 : decode cX1_playTry 13 = .ok (.i2l, 1) := by decide +kernel
theorem dX1_playTry_14 : decode cX1_playTry 14 = .ok (.ladd, 1) := by decide +kernel
theorem dX1_playTry_15 : decode cX1_playTry 15 = .ok (.putfield 60, 3) := by decide +kernel
theorem dX1_playTry_18 : decode cX1_playTry 18 = .ok (.aload_n 0, 1) := by decide +kernel
theorem dX1_playTry_19 : decode cX1_playTry 19 = .ok (.dup, 1) := by decide +kernel
theorem dX1_playTry_20 : decode cX1_playTry 20 = .ok (.getfield 70, 3) := by decide +kernel
theorem dX1_playTry_23 : decode cX1_playTry 23 = .ok (.iconst 1, 1) := by decide +kernel
theorem dX1_playTry_24 : decode cX1_playTry 24 = .ok (.iadd, 1) := by decide +kernel
theorem dX1_playTry_25 : decode cX1_playTry 25 = .ok (.putfield 70, 3) := by decide +kernel
theorem dX1_playTry_28 : decode cX1_playTry 28 = .ok (.aload_n 0, 1) := by decide +kernel
theorem dX1_playTry_29 : decode cX1_playTry 29 = .ok (.iconst 1, 1) := by decide +kernel
theorem dX1_playTry_30 : decode cX1_playTry 30 = .ok (.putfield 134, 3) := by decide +kernel
theorem dX1_playTry_33 : decode cX1_playTry 33 = .ok (.aload_n 0, 1) := by decide +kernel
theorem dX1_playTry_34 : decode cX1_playTry 34 = .ok (.getfield 27, 3) := by decide +kernel
theorem dX1_playTry_37 : decode cX1_playTry 37 = .ok (.aload_n 0, 1) := by decide +kernel
theorem dX1_playTry_38 : decode cX1_playTry 38 = .ok (.getfield 40, 3) := by decide +kernel
theorem dX1_playTry_41 : decode cX1_playTry 41 = .ok (.aload_n 0, 1) := by decide +kernel
theorem dX1_playTry_42 : decode cX1_playTry 42 = .ok (.getfield 100, 3) := by decide +kernel
theorem dX1_playTry_45 : decode cX1_playTry 45 = .ok (.invokevirtual 172, 3) := by decide +kernel
theorem dX1_playTry_48 : decode cX1_playTry 48 = .ok (.aload_n 0, 1) := by decide +kernel
theorem dX1_playTry_49 : decode cX1_playTry 49 = .ok (.getfield 44, 3) := by decide +kernel
theorem dX1_playTry_52 : decode cX1_playTry 52 = .ok (.invokevirtual 185, 3) := by decide +kernel
theorem dX1_playTry_55 : decode cX1_playTry 55 = .ok (.ifCond .eq 16, 3) := by decide +kernel
theorem dX1_playTry_58 : decode cX1_playTry 58 = .ok (.aload_n 0, 1) := by decide +kernel
theorem dX1_playTry_59 : decode cX1_playTry 59 = .ok (.iconst 1, 1) := by decide +kernel
theorem dX1_playTry_60 : decode cX1_playTry 60 = .ok (.putfield 57, 3) := by decide +kernel
theorem dX1_playTry_63 : decode cX1_playTry 63 = .ok (.aload_n 0, 1) := by decide +kernel
theorem dX1_playTry_64 : decode cX1_playTry 64 = .ok (.iconst 1, 1) := by decide +kernel
theorem dX1_playTry_65 : decode cX1_playTry 65 = .ok (.putfield 54, 3) := by decide +kernel
theorem dX1_playTry_68 : decode cX1_playTry 68 = .ok (.goto 26, 3) := by decide +kernel
theorem dX1_playTry_71 : decode cX1_playTry 71 = .ok (.aload_n 0, 1) := by decide +kernel
theorem dX1_playTry_72 : decode cX1_playTry 72 = .ok (.getfield 31, 3) := by decide +kernel
theorem dX1_playTry_75 : decode cX1_playTry 75 = .ok (.getfield 179, 3) := by decide +kernel
theorem dX1_playTry_78 : decode cX1_playTry 78 = .ok (.ifCond .eq 16, 3) := by decide +kernel
theorem dX1_playTry_81 : decode cX1_playTry 81 = .ok (.aload_n 0, 1) := by decide +kernel
theorem dX1_playTry_82 : decode cX1_playTry 82 = .ok (.getfield 40, 3) := by decide +kernel
theorem dX1_playTry_85 : decode cX1_playTry 85 = .ok (.aload_n 0, 1) := by decide +kernel
theorem dX1_playTry_86 : decode cX1_playTry 86 = .ok (.getfield 44, 3) := by decide +kernel
theorem dX1_playTry_89 : decode cX1_playTry 89 = .ok (.iconst 0, 1) := by decide +kernel
theorem dX1_playTry_90 : decode cX1_playTry 90 = .ok (.invokevirtual 188, 3) := by decide +kernel
theorem dX1_playTry_93 : decode cX1_playTry 93 = .ok (.pop, 1) := by decide +kernel
theorem dX1_playTry_94 : decode cX1_playTry 94 = .ok (.return_, 1) := by decide +kernel
theorem dX1_run_0 : decode cX1_run 0 = .ok (.aload_n 0, 1) := by decide +kernel
theorem dX1_run_1 : decode cX1_run 1 = .ok (.iload_n 2, 1) := by decide +kernel
theorem dX1_run_2 : decode cX1_run 2 = .ok (.putfield 44, 3) := by decide +kernel
theorem dX1_run_5 : decode cX1_run 5 = .ok (.aload_n 0, 1) := by decide +kernel
theorem dX1_run_6 : decode cX1_run 6 = .ok (.iload_n 3, 1) := by decide +kernel
theorem dX1_run_7 : decode cX1_run 7 = .ok (.putfield 48, 3) := by decide +kernel
theorem dX1_run_10 : decode cX1_run 10 = .ok (.aload_n 0, 1) := by decide +kernel
theorem dX1_run_11 : decode cX1_run 11 = .ok (.iconst 0, 1) := by decide +kernel
theorem dX1_run_12 : decode cX1_run 12 = .ok (.putfield 51, 3) := by decide +kernel
theorem dX1_run_15 : decode cX1_run 15 = .ok (.aload_n 0, 1) := by decide +kernel
theorem dX1_run_16 : decode cX1_run 16 = .ok (.iconst 0, 1) := by decide +kernel
theorem dX1_run_17 : decode cX1_run 17 = .ok (.putfield 54, 3) := by decide +kernel
theorem dX1_run_20 : decode cX1_run 20 = .ok (.aload_n 0, 1) := by decide +kernel
theorem dX1_run_21 : decode cX1_run 21 = .ok (.iconst 0, 1) := by decide +kernel
theorem dX1_run_22 : decode cX1_run 22 = .ok (.putfield 57, 3) := by decide +kernel
theorem dX1_run_25 : decode cX1_run 25 = .ok (.aload_n 0, 1) := by decide +kernel
theorem dX1_run_26 : decode cX1_run 26 = .ok (.lconst 0, 1) := by decide +kernel
theorem dX1_run_27 : decode cX1_run 27 = .ok (.putfield 60, 3) := by decide +kernel
theorem dX1_run_30 : decode cX1_run 30 = .ok (.aload_n 0, 1) := by decide +kernel
theorem dX1_run_31 : decode cX1_run 31 = .ok (.iconst 0, 1) := by decide +kernel
theorem dX1_run_32 : decode cX1_run 32 = .ok (.putfield 64, 3) := by decide +kernel
theorem dX1_run_35 : decode cX1_run 35 = .ok (.aload_n 0, 1) := by decide +kernel
theorem dX1_run_36 : decode cX1_run 36 = .ok (.iconst 0, 1) := by decide +kernel
theorem dX1_run_37 : decode cX1_run 37 = .ok (.putfield 67, 3) := by decide +kernel
theorem dX1_run_40 : decode cX1_run 40 = .ok (.aload_n 0, 1) := by decide +kernel
theorem dX1_run_41 : decode cX1_run 41 = .ok (.iconst 0, 1) := by decide +kernel
theorem dX1_run_42 : decode cX1_run 42 = .ok (.putfield 70, 3) := by decide +kernel
theorem dX1_run_45 : decode cX1_run 45 = .ok (.aload_n 0, 1) := by decide +kernel
theorem dX1_run_46 : decode cX1_run 46 = .ok (.iconst 0, 1) := by decide +kernel
theorem dX1_run_47 : decode cX1_run 47 = .ok (.putfield 73, 3) := by decide +kernel
theorem dX1_run_50 : decode cX1_run 50 = .ok (.aload_n 0, 1) := by decide +kernel
theorem dX1_run_51 : decode cX1_run 51 = .ok (.getfield 40, 3) := by decide +kernel
theorem dX1_run_54 : decode cX1_run 54 = .ok (.iload_n 1, 1) := by decide +kernel
theorem dX1_run_55 : decode cX1_run 55 = .ok (.invokevirtual 76, 3) := by decide +kernel
theorem dX1_run_58 : decode cX1_run 58 = .ok (.aload_n 0, 1) := by decide +kernel
theorem dX1_run_59 : decode cX1_run 59 = .ok (.invokevirtual 80, 3) := by decide +kernel
theorem dX1_run_62 : decode cX1_run 62 = .ok (.iconst 0, 1) := by decide +kernel
theorem dX1_run_63 : decode cX1_run 63 = .ok (.istore 4, 2) := by decide +kernel
theorem dX1_run_65 : decode cX1_run 65 = .ok (.iload 4, 2) := by decide +kernel
theorem dX1_run_67 : decode cX1_run 67 = .ok (.sipush 10000, 3) := by decide +kernel
theorem dX1_run_70 : decode cX1_run 70 = .ok (.if_icmp .ge 96, 3) := by decide +kernel
theorem dX1_run_73 : decode cX1_run 73 = .ok (.aload_n 0, 1) := by decide +kernel
theorem dX1_run_74 : decode cX1_run 74 = .ok (.getfield 54, 3) := by decide +kernel
theorem dX1_run_77 : decode cX1_run 77 = .ok (.ifCond .ne 89, 3) := by decide +kernel
theorem dX1_run_80 : decode cX1_run 80 = .ok (.aload_n 0, 1) := by decide +kernel
theorem dX1_run_81 : decode cX1_run 81 = .ok (.getfield 51, 3) := by decide +kernel
theorem dX1_run_84 : decode cX1_run 84 = .ok (.aload_n 0, 1) := by decide +kernel
theorem dX1_run_85 : decode cX1_run 85 = .ok (.getfield 31, 3) := by decide +kernel
theorem dX1_run_88 : decode cX1_run 88 = .ok (.getfield 83, 3) := by decide +kernel
theorem dX1_run_91 : decode cX1_run 91 = .ok (.if_icmp .ge 75, 3) := by decide +kernel
theorem dX1_run_94 : decode cX1_run 94 = .ok (.aload_n 0, 1) := by decide +kernel
theorem dX1_run_95 : decode cX1_run 95 = .ok (.getfield 31, 3) := by decide +kernel
theorem dX1_run_98 : decode cX1_run 98 = .ok (.aload_n 0, 1) := by decide +kernel
theorem dX1_run_99 : decode cX1_run 99 = .ok (.getfield 51, 3) := by decide +kernel
theorem dX1_run_102 : decode cX1_run 102 = .ok (.invokevirtual 86, 3) := by decide +kernel
theorem dX1_run_105 : decode cX1_run 105 = .ok (.istore 5, 2) := by decide +kernel
theorem dX1_run_107 : decode cX1_run 107 = .ok (.iload 5, 2) := by decide +kernel
theorem dX1_run_109 : decode cX1_run 109 = .ok (.bipush 10, 2) := by decide +kernel
theorem dX1_run_111 : decode cX1_run 111 = .ok (.if_icmp .ne 10, 3) := by decide +kernel
theorem dX1_run_114 : decode cX1_run 114 = .ok (.aload_n 0, 1) := by decide +kernel
theorem dX1_run_115 : decode cX1_run 115 = .ok (.invokevirtual 90, 3) := by decide +kernel
theorem dX1_run_118 : decode cX1_run 118 = .ok (.goto 42, 3) := by decide +kernel
theorem dX1_run_121 : decode cX1_run 121 = .ok (.aload_n 0, 1) := by decide +kernel
theorem dX1_run_122 : decode cX1_run 122 = .ok (.getfield 64, 3) := by decide +kernel
theorem dX1_run_125 : decode cX1_run 125 = .ok (.sipush 200, 3) := by decide +kernel
theorem dX1_run_128 : decode cX1_run 128 = .ok (.if_icmp .lt 16, 3) := by decide +kernel
theorem dX1_run_131 : decode cX1_run 131 = .ok (.aload_n 0, 1) := by decide +kernel
theorem dX1_run_132 : decode cX1_run 132 = .ok (.iconst 1, 1) := by decide +kernel
theorem dX1_run_133 : decode cX1_run 133 = .ok (.putfield 73, 3) := by decide +kernel
theorem dX1_run_136 : decode cX1_run 136 = .ok (.aload_n 0, 1) := by decide +kernel
theorem dX1_run_137 : decode cX1_run 137 = .ok (.iconst 1, 1) := by decide +kernel
theorem dX1_run_138 : decode cX1_run 138 = .ok (.putfield 54, 3) := by decide +kernel
theorem dX1_run_141 : decode cX1_run 141 = .ok (.goto 19, 3) := by decide +kernel
theorem dX1_run_144 : decode cX1_run 144 = .ok (.aload_n 0, 1) := by decide +kernel
theorem dX1_run_145 : decode cX1_run 145 = .ok (.dup, 1) := by decide +kernel
theorem dX1_run_146 : decode cX1_run 146 = .ok (.getfield 64, 3) := by decide +kernel
theorem dX1_run_149 : decode cX1_run 149 = .ok (.iconst 1, 1) := by decide +kernel
theorem dX1_run_150 : decode cX1_run 150 = .ok (.iadd, 1) := by decide +kernel
theorem dX1_run_151 : decode cX1_run 151 = .ok (.putfield 64, 3) := by decide +kernel
theorem dX1_run_154 : decode cX1_run 154 = .ok (.aload_n 0, 1) := by decide +kernel
theorem dX1_run_155 : decode cX1_run 155 = .ok (.iload 5, 2) := by decide +kernel
theorem dX1_run_157 : decode cX1_run 157 = .ok (.invokevirtual 93, 3) := by decide +kernel
theorem dX1_run_160 : decode cX1_run 160 = .ok (.iinc 4 1, 3) := by decide +kernel
theorem dX1_run_163 : decode cX1_run 163 = .ok (.goto (-98), 3) := by decide +kernel
theorem dX1_run_166 : decode cX1_run 166 = .ok (.return_, 1) := by decide +kernel
theorem dX2_addDoor_0 : decode cX2_addDoor 0 = .ok (.aload_n 0, 1) := by decide +kernel
theorem dX2_addDoor_1 : decode cX2_addDoor 1 = .ok (.getfield 34, 3) := by decide +kernel
theorem dX2_addDoor_4 : decode cX2_addDoor 4 = .ok (.aload_n 0, 1) := by decide +kernel
theorem dX2_addDoor_5 : decode cX2_addDoor 5 = .ok (.getfield 62, 3) := by decide +kernel
theorem dX2_addDoor_8 : decode cX2_addDoor 8 = .ok (.iload_n 1, 1) := by decide +kernel
theorem dX2_addDoor_9 : decode cX2_addDoor 9 = .ok (.invokestatic 126, 3) := by decide +kernel
theorem dX2_addDoor_12 : decode cX2_addDoor 12 = .ok (.aload_n 0, 1) := by decide +kernel
theorem dX2_addDoor_13 : decode cX2_addDoor 13 = .ok (.getfield 37, 3) := by decide +kernel
theorem dX2_addDoor_16 : decode cX2_addDoor 16 = .ok (.aload_n 0, 1) := by decide +kernel
theorem dX2_addDoor_17 : decode cX2_addDoor 17 = .ok (.getfield 62, 3) := by decide +kernel
theorem dX2_addDoor_20 : decode cX2_addDoor 20 = .ok (.iconst 0, 1) := by decide +kernel
theorem dX2_addDoor_21 : decode cX2_addDoor 21 = .ok (.invokestatic 126, 3) := by decide +kernel
theorem dX2_addDoor_24 : decode cX2_addDoor 24 = .ok (.aload_n 0, 1) := by decide +kernel
theorem dX2_addDoor_25 : decode cX2_addDoor 25 = .ok (.dup, 1) := by decide +kernel
theorem dX2_addDoor_26 : decode cX2_addDoor 26 = .ok (.getfield 62, 3) := by decide +kernel
theorem dX2_addDoor_29 : decode cX2_addDoor 29 = .ok (.iconst 1, 1) := by decide +kernel
theorem dX2_addDoor_30 : decode cX2_addDoor 30 = .ok (.iadd, 1) := by decide +kernel
theorem dX2_addDoor_31 : decode cX2_addDoor 31 = .ok (.putfield 62, 3) := by decide +kernel
theorem dX2_addDoor_34 : decode cX2_addDoor 34 = .ok (.return_, 1) := by decide +kernel
theorem dX2_addFeature_0 : decode cX2_addFeature 0 = .ok (.aload_n 0, 1) := by decide +kernel
theorem dX2_addFeature_1 : decode cX2_addFeature 1 = .ok (.getfield 9, 3) := by decide +kernel
theorem dX2_addFeature_4 : decode cX2_addFeature 4 = .ok (.aload_n 0, 1) := by decide +kernel
theorem dX2_addFeature_5 : decode cX2_addFeature 5 = .ok (.getfield 49, 3) := by decide +kernel
theorem dX2_addFeature_8 : decode cX2_addFeature 8 = .ok (.lload_n 1, 1) := by decide +kernel
theorem dX2_addFeature_9 : decode cX2_addFeature 9 = .ok (.invokestatic 137, 3) := by decide +kernel
theorem dX2_addFeature_12 : decode cX2_addFeature 12 = .ok (.aload_n 0, 1) := by decide +kernel
theorem dX2_addFeature_13 : decode cX2_addFeature 13 = .ok (.getfield 15, 3) := by decide +kernel
theorem dX2_addFeature_16 : decode cX2_addFeature 16 = .ok (.aload_n 0, 1) := by decide +kernel
theorem dX2_addFeature_17 : decode cX2_addFeature 17 = .ok (.getfield 49, 3) := by decide +kernel
theorem dX2_addFeature_20 : decode cX2_addFeature 20 = .ok (.iload_n 3, 1) := by decide +kernel
theorem dX2_addFeature_21 : decode cX2_addFeature 21 = .ok (.invokestatic 126, 3) := by decide +kernel
theorem dX2_addFeature_24 : decode cX2_addFeature 24 = .ok (.aload_n 0, 1) := by decide +kernel
theorem dX2_addFeature_25 : decode cX2_addFeature 25 = .ok (.getfield 19, 3) := by decide +kernel
theorem dX2_addFeature_28 : decode cX2_addFeature 28 = .ok (.aload_n 0, 1) := by decide +kernel
theorem dX2_addFeature_29 : decode cX2_addFeature 29 = .ok (.getfield 49, 3) := by decide +kernel
theorem dX2_addFeature_32 : decode cX2_addFeature 32 = .ok (.iload 4, 2) := by decide +kernel
theorem dX2_addFeature_34 : decode cX2_addFeature 34 = .ok (.ifCond .eq 7, 3) := by decide +kernel
theorem dX2_addFeature_37 : decode cX2_addFeature 37 = .ok (.iconst 1, 1) := by decide +kernel
theorem dX2_addFeature_38 : decode cX2_addFeature 38 = .ok (.goto 4, 3) := by decide +kernel
theorem dX2_addFeature_41 : decode cX2_addFeature 41 = .ok (.iconst 0, 1) := by decide +kernel
theorem dX2_addFeature_42 : decode cX2_addFeature 42 = .ok (.invokestatic 126, 3) := by decide +kernel
theorem dX2_addFeature_45 : decode cX2_addFeature 45 = .ok (.aload_n 0, 1) := by decide +kernel
theorem dX2_addFeature_46 : decode cX2_addFeature 46 = .ok (.dup, 1) := by decide +kernel
theorem dX2_addFeature_47 : decode cX2_addFeature 47 = .ok (.getfield 49, 3) := by decide +kernel
theorem dX2_addFeature_50 : decode cX2_addFeature 50 = .ok (.iconst 1, 1) := by decide +kernel
theorem dX2_addFeature_51 : decode cX2_addFeature 51 = .ok (.iadd, 1) := by decide +kernel
theorem dX2_addFeature_52 : decode cX2_addFeature 52 = .ok (.putfield 49, 3) := by decide +kernel
theorem dX2_addFeature_55 : decode cX2_addFeature 55 = .ok (.iconst 0, 1) := by decide +kernel
theorem dX2_addFeature_56 : decode cX2_addFeature 56 = .ok (.istore 5, 2) := by decide +kernel
theorem dX2_addFeature_58 : decode cX2_addFeature 58 = .ok (.iload 5, 2) := by decide +kernel
theorem dX2_addFeature_60 : decode cX2_addFeature 60 = .ok (.iconst 4, 1) := by decide +kernel
theorem dX2_addFeature_61 : decode cX2_addFeature 61 = .ok (.if_icmp .ge 51, 3) := by decide +kernel
theorem dX2_addFeature_64 : decode cX2_addFeature 64 = .ok (.iconst 0, 1) := by decide +kernel
theorem dX2_addFeature_65 : decode cX2_addFeature 65 = .ok (.istore 6, 2) := by decide +kernel
theorem dX2_addFeature_67 : decode cX2_addFeature 67 = .ok (.iload 6, 2) := by decide +kernel
theorem dX2_addFeature_69 : decode cX2_addFeature 69 = .ok (.iconst 4, 1) := by decide +kernel
theorem dX2_addFeature_70 : decode cX2_addFeature 70 = .ok (.if_icmp .ge 36, 3) := by decide +kernel
theorem dX2_addFeature_73 : decode cX2_addFeature 73 = .ok (.aload_n 0, 1) := by decide +kernel
theorem dX2_addFeature_74 : decode cX2_addFeature 74 = .ok (.aload_n 0, 1) := by decide +kernel
theorem dX2_addFeature_75 : decode cX2_addFeature 75 = .ok (.getfield 49, 3) := by decide +kernel
theorem dX2_addFeature_78 : decode cX2_addFeature 78 = .ok (.iconst 1, 1) := by decide +kernel
theorem dX2_addFeature_79 : decode cX2_addFeature 79 = .ok (.isub, 1) := by decide +kernel
theorem dX2_addFeature_80 : decode cX2_addFeature 80 = .ok (.iload 5, 2) := by decide +kernel
theorem dX2_addFeature_82 : decode cX2_addFeature 82 = .ok (.iload 6, 2) := by decide +kernel
theorem dX2_addFeature_84 : decode cX2_addFeature 84 = .ok (.iload 5, 2) := by decide +kernel
theorem dX2_addFeature_86 : decode cX2_addFeature 86 = .ok (.iload 6, 2) := by decide +kernel
theorem dX2_addFeature_88 : decode cX2_addFeature 88 = .ok (.if_icmp .ne 8, 3) := by decide +kernel
theorem dX2_addFeature_91 : decode cX2_addFeature 91 = .ok (.bipush 16, 2) := by decide +kernel
theorem dX2_addFeature_93 : decode cX2_addFeature 93 = .ok (.goto 4, 3) := by decide +kernel
theorem dX2_addFeature_96 : decode cX2_addFeature 96 = .ok (.iconst 0, 1) := by decide +kernel
theorem dX2_addFeature_97 : decode cX2_addFeature 97 = .ok (.invokevirtual 141, 3) := by decide +kernel
theorem dX2_addFeature_100 : decode cX2_addFeature 100 = .ok (.iinc 6 1, 3) := by decide +kernel
theorem dX2_addFeature_103 : decode cX2_addFeature 103 = .ok (.goto (-36), 3) := by decide +kernel
theorem dX2_addFeature_106 : decode cX2_addFeature 106 = .ok (.iinc 5 1, 3) := by decide +kernel
theorem dX2_addFeature_109 : decode cX2_addFeature 109 = .ok (.goto (-51), 3) := by decide +kernel
theorem dX2_addFeature_112 : decode cX2_addFeature 112 = .ok (.return_, 1) := by decide +kernel
theorem dX2_addOpener_0 : decode cX2_addOpener 0 = .ok (.aload_n 0, 1) := by decide +kernel
theorem dX2_addOpener_1 : decode cX2_addOpener 1 = .ok (.getfield 37, 3) := by decide +kernel
theorem dX2_addOpener_4 : decode cX2_addOpener 4 = .ok (.iload_n 1, 1) := by decide +kernel
theorem dX2_addOpener_5 : decode cX2_addOpener 5 = .ok (.aload_n 0, 1) := by decide +kernel
theorem dX2_addOpener_6 : decode cX2_addOpener 6 = .ok (.iload_n 1, 1) := by decide +kernel
theorem dX2_addOpener_7 : decode cX2_addOpener 7 = .ok (.invokevirtual 145, 3) := by decide +kernel
theorem dX2_addOpener_10 : decode cX2_addOpener 10 = .ok (.iconst 1, 1) := by decide +kernel
theorem dX2_addOpener_11 : decode cX2_addOpener 11 = .ok (.iload_n 2, 1) := by decide +kernel
theorem dX2_addOpener_12 : decode cX2_addOpener 12 = .ok (.ishl, 1) := by decide +kernel
theorem dX2_addOpener_13 : decode cX2_addOpener 13 = .ok (.ior, 1) := by decide +kernel
theorem dX2_addOpener_14 : decode cX2_addOpener 14 = .ok (.invokestatic 126, 3) := by decide +kernel
theorem dX2_addOpener_17 : decode cX2_addOpener 17 = .ok (.return_, 1) := by decide +kernel
theorem dX2_addRing_0 : decode cX2_addRing 0 = .ok (.aload_n 0, 1) := by decide +kernel
theorem dX2_addRing_1 : decode cX2_addRing 1 = .ok (.getfield 31, 3) := by decide +kernel
theorem dX2_addRing_4 : decode cX2_addRing 4 = .ok (.aload_n 0, 1) := by decide +kernel
theorem dX2_addRing_5 : decode cX2_addRing 5 = .ok (.getfield 59, 3) := by decide +kernel
theorem dX2_addRing_8 : decode cX2_addRing 8 = .ok (.iconst 0, 1) := by decide +kernel
theorem dX2_addRing_9 : decode cX2_addRing 9 = .ok (.invokestatic 126, 3) := by decide +kernel
theorem dX2_addRing_12 : decode cX2_addRing 12 = .ok (.aload_n 0, 1) := by decide +kernel
theorem dX2_addRing_13 : decode cX2_addRing 13 = .ok (.dup, 1) := by decide +kernel
theorem dX2_addRing_14 : decode cX2_addRing 14 = .ok (.getfield 59, 3) := by decide +kernel
theorem dX2_addRing_17 : decode cX2_addRing 17 = .ok (.iconst 1, 1) := by decide +kernel
theorem dX2_addRing_18 : decode cX2_addRing 18 = .ok (.iadd, 1) := by decide +kernel
theorem dX2_addRing_19 : decode cX2_addRing 19 = .ok (.putfield 59, 3) := by decide +kernel
theorem dX2_addRing_22 : decode cX2_addRing 22 = .ok (.return_, 1) := by decide +kernel
theorem dX2_addToRound_0 : decode cX2_addToRound 0 = .ok (.aload_n 0, 1) := by decide +kernel
theorem dX2_addToRound_1 : decode cX2_addToRound 1 = .ok (.getfield 43, 3) := by decide +kernel
theorem dX2_addToRound_4 : decode cX2_addToRound 4 = .ok (.aload_n 0, 1) := by decide +kernel
theorem dX2_addToRound_5 : decode cX2_addToRound 5 = .ok (.getfield 72, 3) := by decide +kernel
theorem dX2_addToRound_8 : decode cX2_addToRound 8 = .ok (.iload_n 1, 1) := by decide +kernel
theorem dX2_addToRound_9 : decode cX2_addToRound 9 = .ok (.invokestatic 126, 3) := by decide +kernel
theorem dX2_addToRound_12 : decode cX2_addToRound 12 = .ok (.aload_n 0, 1) := by decide +kernel
theorem dX2_addToRound_13 : decode cX2_addToRound 13 = .ok (.dup, 1) := by decide +kernel
theorem dX2_addToRound_14 : decode cX2_addToRound 14 = .ok (.getfield 72, 3) := by decide +kernel
theorem dX2_addToRound_17 : decode cX2_addToRound 17 = .ok (.iconst 1, 1) := by decide +kernel
theorem dX2_addToRound_18 : decode cX2_addToRound 18 = .ok (.iadd, 1) := by decide +kernel
theorem dX2_addToRound_19 : decode cX2_addToRound 19 = .ok (.putfield 72, 3) := by decide +kernel
theorem dX2_addToRound_22 : decode cX2_addToRound 22 = .ok (.return_, 1) := by decide +kernel
theorem dX2_clear_0 : decode cX2_clear 0 = .ok (.aload_n 0, 1) := by decide +kernel
theorem dX2_clear_1 : decode cX2_clear 1 = .ok (.iconst 0, 1) := by decide +kernel
theorem dX2_clear_2 : decode cX2_clear 2 = .ok (.putfield 49, 3) := by decide +kernel
theorem dX2_clear_5 : decode cX2_clear 5 = .ok (.aload_n 0, 1) := by decide +kernel
theorem dX2_clear_6 : decode cX2_clear 6 = .ok (.iconst 0, 1) := by decide +kernel
theorem dX2_clear_7 : decode cX2_clear 7 = .ok (.putfield 53, 3) := by decide +kernel
theorem dX2_clear_10 : decode cX2_clear 10 = .ok (.aload_n 0, 1) := by decide +kernel
theorem dX2_clear_11 : decode cX2_clear 11 = .ok (.iconst 0, 1) := by decide +kernel
theorem dX2_clear_12 : decode cX2_clear 12 = .ok (.putfield 56, 3) := by decide +kernel
theorem dX2_clear_15 : decode cX2_clear 15 = .ok (.aload_n 0, 1) := by decide +kernel
theorem dX2_clear_16 : decode cX2_clear 16 = .ok (.iconst 0, 1) := by decide +kernel
theorem dX2_clear_17 : decode cX2_clear 17 = .ok (.putfield 59, 3) := by decide +kernel
theorem dX2_clear_20 : decode cX2_clear 20 = .ok (.aload_n 0, 1) := by decide +kernel
theorem dX2_clear_21 : decode cX2_clear 21 = .ok (.iconst 0, 1) := by decide +kernel
theorem dX2_clear_22 : decode cX2_clear 22 = .ok (.putfield 62, 3) := by decide +kernel
theorem dX2_clear_25 : decode cX2_clear 25 = .ok (.aload_n 0, 1) := by decide +kernel
theorem dX2_clear_26 : decode cX2_clear 26 = .ok (.iconst 0, 1) := by decide +kernel
theorem dX2_clear_27 : decode cX2_clear 27 = .ok (.iconst 1, 1) := by decide +kernel
theorem dX2_clear_28 : decode cX2_clear 28 = .ok (.invokevirtual 65, 3) := by decide +kernel
theorem dX2_clear_31 : decode cX2_clear 31 = .ok (.aload_n 0, 1) := by decide +kernel
theorem dX2_clear_32 : decode cX2_clear 32 = .ok (.iconst 1, 1) := by decide +kernel
theorem dX2_clear_33 : decode cX2_clear 33 = .ok (.iconst 4, 1) := by decide +kernel
theorem dX2_clear_34 : decode cX2_clear 34 = .ok (.invokevirtual 65, 3) := by decide +kernel
theorem dX2_clear_37 : decode cX2_clear 37 = .ok (.aload_n 0, 1) := by decide +kernel
theorem dX2_clear_38 : decode cX2_clear 38 = .ok (.iconst 2, 1) := by decide +kernel
theorem dX2_clear_39 : decode cX2_clear 39 = .ok (.iconst 1, 1) := by decide +kernel
theorem dX2_clear_40 : decode cX2_clear 40 = .ok (.invokevirtual 65, 3) := by decide +kernel
theorem dX2_clear_43 : decode cX2_clear 43 = .ok (.aload_n 0, 1) := by decide +kernel
theorem dX2_clear_44 : decode cX2_clear 44 = .ok (.iconst 3, 1) := by decide +kernel
theorem dX2_clear_45 : decode cX2_clear 45 = .ok (.bipush 9, 2) := by decide +kernel
theorem dX2_clear_47 : decode cX2_clear 47 = .ok (.invokevirtual 65, 3) := by decide +kernel
theorem dX2_clear_50 : decode cX2_clear 50 = .ok (.aload_n 0, 1) := by decide +kernel
theorem dX2_clear_51 : decode cX2_clear 51 = .ok (.bipush 8, 2) := by decide +kernel
theorem dX2_clear_53 : decode cX2_clear 53 = .ok (.putfield 69, 3) := by decide +kernel
theorem dX2_clear_56 : decode cX2_clear 56 = .ok (.aload_n 0, 1) := by decide +kernel
theorem dX2_clear_57 : decode cX2_clear 57 = .ok (.iconst 0, 1) := by decide +kernel
theorem dX2_clear_58 : decode cX2_clear 58 = .ok (.putfield 72, 3) := by decide +kernel
theorem dX2_clear_61 : decode cX2_clear 61 = .ok (.return_, 1) := by decide +kernel
theorem dX2_copy_0 : decode cX2_copy 0 = .ok (.aload_n 0, 1) := by decide +kernel
theorem dX2_copy_1 : decode cX2_copy 1 = .ok (.ifnull 7, 3) := by decide +kernel
theorem dX2_copy_4 : decode cX2_copy 4 = .ok (.aload_n 1, 1) := by decide +kernel
theorem dX2_copy_5 : decode cX2_copy 5 = .ok (.ifnonnull 4, 3) := by decide +kernel
theorem dX2_copy_9 : decode cX2_copy 9 = .ok (.aload_n 1, 1) := by decide +kernel
theorem dX2_copy_10 : decode cX2_copy 10 = .ok (.aload_n 0, 1) := by decide +kernel
theorem dX2_copy_11 : decode cX2_copy 11 = .ok (.getfield 49, 3) := by decide +kernel
theorem dX2_copy_14 : decode cX2_copy 14 = .ok (.putfield 49, 3) := by decide +kernel
theorem dX2_copy_17 : decode cX2_copy 17 = .ok (.aload_n 0, 1) := by decide +kernel
theorem dX2_copy_18 : decode cX2_copy 18 = .ok (.getfield 9, 3) := by decide +kernel
theorem dX2_copy_21 : decode cX2_copy 21 = .ok (.iconst 0, 1) := by decide +kernel
theorem dX2_copy_22 : decode cX2_copy 22 = .ok (.aload_n 1, 1) := by decide +kernel
theorem dX2_copy_23 : decode cX2_copy 23 = .ok (.getfield 9, 3) := by decide +kernel
theorem dX2_copy_26 : decode cX2_copy 26 = .ok (.iconst 0, 1) := by decide +kernel
theorem dX2_copy_27 : decode cX2_copy 27 = .ok (.iconst 3, 1) := by decide +kernel
theorem dX2_copy_28 : decode cX2_copy 28 = .ok (.invokestatic 75, 3) := by decide +kernel
theorem dX2_copy_31 : decode cX2_copy 31 = .ok (.aload_n 0, 1) := by decide +kernel
theorem dX2_copy_32 : decode cX2_copy 32 = .ok (.getfield 15, 3) := by decide +kernel
theorem dX2_copy_35 : decode cX2_copy 35 = .ok (.iconst 0, 1) := by decide +kernel
theorem dX2_copy_36 : decode cX2_copy 36 = .ok (.aload_n 1, 1) := by decide +kernel
theorem dX2_copy_37 : decode cX2_copy 37 = .ok (.getfield 15, 3) := by decide +kernel
theorem dX2_copy_40 : decode cX2_copy 40 = .ok (.iconst 0, 1) := by decide +kernel
theorem dX2_copy_41 : decode cX2_copy 41 = .ok (.iconst 3, 1) := by decide +kernel
theorem dX2_copy_42 : decode cX2_copy 42 = .ok (.invokestatic 75, 3) := by decide +kernel
theorem dX2_copy_45 : decode cX2_copy 45 = .ok (.aload_n 0, 1) := by decide +kernel
theorem dX2_copy_46 : decode cX2_copy 46 = .ok (.getfield 19, 3) := by decide +kernel
theorem dX2_copy_49 : decode cX2_copy 49 = .ok (.iconst 0, 1) := by decide +kernel
theorem dX2_copy_50 : decode cX2_copy 50 = .ok (.aload_n 1, 1) := by decide +kernel
theorem dX2_copy_51 : decode cX2_copy 51 = .ok (.getfield 19, 3) := by decide +kernel
theorem dX2_copy_54 : decode cX2_copy 54 = .ok (.iconst 0, 1) := by decide +kernel
theorem dX2_copy_55 : decode cX2_copy 55 = .ok (.iconst 3, 1) := by decide +kernel
theorem dX2_copy_56 : decode cX2_copy 56 = .ok (.invokestatic 75, 3) := by decide +kernel
theorem dX2_copy_59 : decode cX2_copy 59 = .ok (.aload_n 0, 1) := by decide +kernel
theorem dX2_copy_60 : decode cX2_copy 60 = .ok (.getfield 22, 3) := by decide +kernel
theorem dX2_copy_63 : decode cX2_copy 63 = .ok (.iconst 0, 1) := by decide +kernel
theorem dX2_copy_64 : decode cX2_copy 64 = .ok (.aload_n 1, 1) := by decide +kernel
theorem dX2_copy_65 : decode cX2_copy 65 = .ok (.getfield 22, 3) := by decide +kernel
theorem dX2_copy_68 : decode cX2_copy 68 = .ok (.iconst 0, 1) := by decide +kernel
theorem dX2_copy_69 : decode cX2_copy 69 = .ok (.bipush 48, 2) := by decide +kernel
theorem dX2_copy_71 : decode cX2_copy 71 = .ok (.invokestatic 75, 3) := by decide +kernel
theorem dX2_copy_74 : decode cX2_copy 74 = .ok (.aload_n 1, 1) := by decide +kernel
theorem dX2_copy_75 : decode cX2_copy 75 = .ok (.aload_n 0, 1) := by decide +kernel
theorem dX2_copy_76 : decode cX2_copy 76 = .ok (.getfield 53, 3) := by decide +kernel
theorem dX2_copy_79 : decode cX2_copy 79 = .ok (.putfield 53, 3) := by decide +kernel
theorem dX2_copy_82 : decode cX2_copy 82 = .ok (.aload_n 0, 1) := by decide +kernel
theorem dX2_copy_83 : decode cX2_copy 83 = .ok (.getfield 25, 3) := by decide +kernel
theorem dX2_copy_86 : decode cX2_copy 86 = .ok (.iconst 0, 1) := by decide +kernel
theorem dX2_copy_87 : decode cX2_copy 87 = .ok (.aload_n 1, 1) := by decide +kernel
theorem dX2_copy_88 : decode cX2_copy 88 = .ok (.getfield 25, 3) := by decide +kernel
theorem dX2_copy_91 : decode cX2_copy 91 = .ok (.iconst 0, 1) := by decide +kernel
theorem dX2_copy_92 : decode cX2_copy 92 = .ok (.bipush 30, 2) := by decide +kernel
theorem dX2_copy_94 : decode cX2_copy 94 = .ok (.invokestatic 75, 3) := by decide +kernel
theorem dX2_copy_97 : decode cX2_copy 97 = .ok (.aload_n 1, 1) := by decide +kernel
theorem dX2_copy_98 : decode cX2_copy 98 = .ok (.aload_n 0, 1) := by decide +kernel
theorem dX2_copy_99 : decode cX2_copy 99 = .ok (.getfield 56, 3) := by decide +kernel
theorem dX2_copy_102 : decode cX2_copy 102 = .ok (.putfield 56, 3) := by decide +kernel
theorem dX2_copy_105 : decode cX2_copy 105 = .ok (.aload_n 1, 1) := by decide +kernel
theorem dX2_copy_106 : decode cX2_copy 106 = .ok (.aload_n 0, 1) := by decide +kernel
theorem dX2_copy_107 : decode cX2_copy 107 = .ok (.getfield 59, 3) := by decide +kernel
theorem dX2_copy_110 : decode cX2_copy 110 = .ok (.putfield 59, 3) := by decide +kernel
theorem dX2_copy_113 : decode cX2_copy 113 = .ok (.aload_n 0, 1) := by decide +kernel
theorem dX2_copy_114 : decode cX2_copy 114 = .ok (.getfield 28, 3) := by decide +kernel
theorem dX2_copy_117 : decode cX2_copy 117 = .ok (.iconst 0, 1) := by decide +kernel
theorem dX2_copy_118 : decode cX2_copy 118 = .ok (.aload_n 1, 1) := by decide +kernel
theorem dX2_copy_119 : decode cX2_copy 119 = .ok (.getfield 28, 3) := by decide +kernel
theorem dX2_copy_122 : decode cX2_copy 122 = .ok (.iconst 0, 1) := by decide +kernel
theorem dX2_copy_123 : decode cX2_copy 123 = .ok (.bipush 30, 2) := by decide +kernel
theorem dX2_copy_125 : decode cX2_copy 125 = .ok (.invokestatic 75, 3) := by decide +kernel
theorem dX2_copy_128 : decode cX2_copy 128 = .ok (.aload_n 0, 1) := by decide +kernel
theorem dX2_copy_129 : decode cX2_copy 129 = .ok (.getfield 31, 3) := by decide +kernel
theorem dX2_copy_132 : decode cX2_copy 132 = .ok (.iconst 0, 1) := by decide +kernel
theorem dX2_copy_133 : decode cX2_copy 133 = .ok (.aload_n 1, 1) := by decide +kernel
theorem dX2_copy_134 : decode cX2_copy 134 = .ok (.getfield 31, 3) := by decide +kernel
theorem dX2_copy_137 : decode cX2_copy 137 = .ok (.iconst 0, 1) := by decide +kernel
theorem dX2_copy_138 : decode cX2_copy 138 = .ok (.iconst 3, 1) := by decide +kernel
theorem dX2_copy_139 : decode cX2_copy 139 = .ok (.invokestatic 75, 3) := by decide +kernel
theorem dX2_copy_142 : decode cX2_copy 142 = .ok (.aload_n 1, 1) := by decide +kernel
theorem dX2_copy_143 : decode cX2_copy 143 = .ok (.aload_n 0, 1) := by decide +kernel
theorem dX2_copy_144 : decode cX2_copy 144 = .ok (.getfield 62, 3) := by decide +kernel
theorem dX2_copy_147 : decode cX2_copy 147 = .ok (.putfield 62, 3) := by decide +kernel
theorem dX2_copy_150 : decode cX2_copy 150 = .ok (.aload_n 0, 1) := by decide +kernel
theorem dX2_copy_151 : decode cX2_copy 151 = .ok (.getfield 34, 3) := by decide +kernel
theorem dX2_copy_154 : decode cX2_copy 154 = .ok (.iconst 0, 1) := by decide +kernel
theorem dX2_copy_155 : decode cX2_copy 155 = .ok (.aload_n 1, 1) := by decide +kernel
theorem dX2_copy_156 : decode cX2_copy 156 = .ok (.getfield 34, 3) := by decide +kernel
theorem dX2_copy_159 : decode cX2_copy 159 = .ok (.iconst 0, 1) := by decide +kernel
theorem dX2_copy_160 : decode cX2_copy 160 = .ok (.iconst 5, 1) := by decide +kernel
theorem dX2_copy_161 : decode cX2_copy 161 = .ok (.invokestatic 75, 3) := by decide +kernel
theorem dX2_copy_164 : decode cX2_copy 164 = .ok (.aload_n 0, 1) := by decide +kernel
theorem dX2_copy_165 : decode cX2_copy 165 = .ok (.getfield 37, 3) := by decide +kernel
theorem dX2_copy_168 : decode cX2_copy 168 = .ok (.iconst 0, 1) := by decide +kernel
theorem dX2_copy_169 : decode cX2_copy 169 = .ok (.aload_n 1, 1) := by decide +kernel
theorem dX2_copy_170 : decode cX2_copy 170 = .ok (.getfield 37, 3) := by decide +kernel
theorem dX2_copy_173 : decode cX2_copy 173 = .ok (.iconst 0, 1) := by decide +kernel
theorem dX2_copy_174 : decode cX2_copy 174 = .ok (.iconst 5, 1) := by decide +kernel
theorem dX2_copy_175 : decode cX2_copy 175 = .ok (.invokestatic 75, 3) := by decide +kernel
theorem dX2_copy_178 : decode cX2_copy 178 = .ok (.aload_n 0, 1) := by decide +kernel
theorem dX2_copy_179 : decode cX2_copy 179 = .ok (.getfield 40, 3) := by decide +kernel
theorem dX2_copy_182 : decode cX2_copy 182 = .ok (.iconst 0, 1) := by decide +kernel
theorem dX2_copy_183 : decode cX2_copy 183 = .ok (.aload_n 1, 1) := by decide +kernel
theorem dX2_copy_184 : decode cX2_copy 184 = .ok (.getfield 40, 3) := by decide +kernel
theorem dX2_copy_187 : decode cX2_copy 187 = .ok (.iconst 0, 1) := by decide +kernel
theorem dX2_copy_188 : decode cX2_copy 188 = .ok (.iconst 4, 1) := by decide +kernel
theorem dX2_copy_189 : decode cX2_copy 189 = .ok (.invokestatic 75, 3) := by decide +kernel
theorem dX2_copy_192 : decode cX2_copy 192 = .ok (.aload_n 1, 1) := by decide +kernel
theorem dX2_copy_193 : decode cX2_copy 193 = .ok (.aload_n 0, 1) := by decide +kernel
theorem dX2_copy_194 : decode cX2_copy 194 = .ok (.getfield 69, 3) := by decide +kernel
theorem dX2_copy_197 : decode cX2_copy 197 = .ok (.putfield 69, 3) := by decide +kernel
theorem dX2_copy_200 : decode cX2_copy 200 = .ok (.aload_n 1, 1) := by decide +kernel
theorem dX2_copy_201 : decode cX2_copy 201 = .ok (.aload_n 0, 1) := by decide +kernel
theorem dX2_copy_202 : decode cX2_copy 202 = .ok (.getfield 72, 3) := by decide +kernel
theorem dX2_copy_205 : decode cX2_copy 205 = .ok (.putfield 72, 3) := by decide +kernel
theorem dX2_copy_208 : decode cX2_copy 208 = .ok (.aload_n 0, 1) := by decide +kernel
theorem dX2_copy_209 : decode cX2_copy 209 = .ok (.getfield 43, 3) := by decide +kernel
theorem dX2_copy_212 : decode cX2_copy 212 = .ok (.iconst 0, 1) := by decide +kernel
theorem dX2_copy_213 : decode cX2_copy 213 = .ok (.aload_n 1, 1) := by decide +kernel
theorem dX2_copy_214 : decode cX2_copy 214 = .ok (.getfield 43, 3) := by decide +kernel
theorem dX2_copy_217 : decode cX2_copy 217 = .ok (.iconst 0, 1) := by decide +kernel
theorem dX2_copy_218 : decode cX2_copy 218 = .ok (.bipush 12, 2) := by decide +kernel
theorem dX2_copy_220 : decode cX2_copy 220 = .ok (.invokestatic 75, 3) := by decide +kernel
theorem dX2_copy_223 : decode cX2_copy 223 = .ok (.return_, 1) := by decide +kernel
theorem dX2_featureNamed_0 : decode cX2_featureNamed 0 = .ok (.iconst 0, 1) := by decide +kernel
theorem dX2_featureNamed_1 : decode cX2_featureNamed 1 = .ok (.istore_n 3, 1) := by decide +kernel
theorem dX2_featureNamed_2 : decode cX2_featureNamed 2 = .ok (.iload_n 3, 1) := by decide +kernel
theorem dX2_featureNamed_3 : decode cX2_featureNamed 3 = .ok (.aload_n 0, 1) := by decide +kernel
theorem dX2_featureNamed_4 : decode cX2_featureNamed 4 = .ok (.getfield 49, 3) := by decide +kernel
theorem dX2_featureNamed_7 : decode cX2_featureNamed 7 = .ok (.if_icmp .ge 24, 3) := by decide +kernel
theorem dX2_featureNamed_10 : decode cX2_featureNamed 10 = .ok (.aload_n 0, 1) := by decide +kernel
theorem dX2_featureNamed_11 : decode cX2_featureNamed 11 = .ok (.getfield 9, 3) := by decide +kernel
theorem dX2_featureNamed_14 : decode cX2_featureNamed 14 = .ok (.iload_n 3, 1) := by decide +kernel
theorem dX2_featureNamed_15 : decode cX2_featureNamed 15 = .ok (.invokestatic 93, 3) := by decide +kernel
theorem dX2_featureNamed_18 : decode cX2_featureNamed 18 = .ok (.lload_n 1, 1) := by decide +kernel
theorem dX2_featureNamed_19 : decode cX2_featureNamed 19 = .ok (.lcmp, 1) := by decide +kernel
theorem dX2_featureNamed_20 : decode cX2_featureNamed 20 = .ok (.ifCond .ne 5, 3) := by decide +kernel
theorem dX2_featureNamed_23 : decode cX2_featureNamed 23 = .ok (.iload_n 3, 1) := by decide +kernel
theorem dX2_featureNamed_24 : decode cX2_featureNamed 24 = .ok (.ireturn, 1) := by decide +kernel
theorem dX2_featureNamed_25 : decode cX2_featureNamed 25 = .ok (.iinc 3 1, 3) := by decide +kernel
theorem dX2_featureNamed_28 : decode cX2_featureNamed 28 = .ok (.goto (-26), 3) := by decide +kernel
theorem dX2_featureNamed_31 : decode cX2_featureNamed 31 = .ok (.iconst (-1), 1) := by decide +kernel
theorem dX2_featureNamed_32 : decode cX2_featureNamed 32 = .ok (.ireturn, 1) := by decide +kernel
theorem dX2_feltAs_0 : decode cX2_feltAs 0 = .ok (.iload_n 2, 1) := by decide +kernel
theorem dX2_feltAs_1 : decode cX2_feltAs 1 = .ok (.ifCond .lt 17, 3) := by decide +kernel
theorem dX2_feltAs_4 : decode cX2_feltAs 4 = .ok (.iload_n 2, 1) := by decide +kernel
theorem dX2_feltAs_5 : decode cX2_feltAs 5 = .ok (.iconst 4, 1) := by decide +kernel
theorem dX2_feltAs_6 : decode cX2_feltAs 6 = .ok (.if_icmp .ge 12, 3) := by decide +kernel
theorem dX2_feltAs_9 : decode cX2_feltAs 9 = .ok (.iload_n 3, 1) := by decide +kernel
theorem dX2_feltAs_10 : decode cX2_feltAs 10 = .ok (.ifCond .lt 8, 3) := by decide +kernel
theorem dX2_feltAs_13 : decode cX2_feltAs 13 = .ok (.iload_n 3, 1) := by decide +kernel
theorem dX2_feltAs_14 : decode cX2_feltAs 14 = .ok (.iconst 4, 1) := by decide +kernel
theorem dX2_feltAs_15 : decode cX2_feltAs 15 = .ok (.if_icmp .lt 5, 3) := by decide +kernel
theorem dX2_feltAs_18 : decode cX2_feltAs 18 = .ok (.iconst 0, 1) := by decide +kernel
theorem dX2_feltAs_19 : decode cX2_feltAs 19 = .ok (.ireturn, 1) := by decide +kernel
theorem dX2_feltAs_20 : decode cX2_feltAs 20 = .ok (.aload_n 0, 1) := by decide +kernel
theorem dX2_feltAs_21 : decode cX2_feltAs 21 = .ok (.getfield 22, 3) := by decide +kernel
theorem dX2_feltAs_24 : decode cX2_feltAs 24 = .ok (.iload_n 1, 1) := by decide +kernel
theorem dX2_feltAs_25 : decode cX2_feltAs 25 = .ok (.iconst 4, 1) := by decide +kernel
theorem dX2_feltAs_26 : decode cX2_feltAs 26 = .ok (.imul, 1) := by decide +kernel
theorem dX2_feltAs_27 : decode cX2_feltAs 27 = .ok (.iload_n 2, 1) := by decide +kernel
theorem dX2_feltAs_28 : decode cX2_feltAs 28 = .ok (.iadd, 1) := by decide +kernel
theorem dX2_feltAs_29 : decode cX2_feltAs 29 = .ok (.iconst 4, 1) := by decide +kernel
theorem dX2_feltAs_30 : decode cX2_feltAs 30 = .ok (.imul, 1) := by decide +kernel
theorem dX2_feltAs_31 : decode cX2_feltAs 31 = .ok (.iload_n 3, 1) := by decide +kernel
theorem dX2_feltAs_32 : decode cX2_feltAs 32 = .ok (.iadd, 1) := by decide +kernel
theorem dX2_feltAs_33 : decode cX2_feltAs 33 = .ok (.invokestatic 89, 3) := by decide +kernel
theorem dX2_feltAs_36 : decode cX2_feltAs 36 = .ok (.ireturn, 1) := by decide +kernel
theorem dX2_feltAsAt_0 : decode cX2_feltAsAt 0 = .ok (.aload_n 0, 1) := by decide +kernel
theorem dX2_feltAsAt_1 : decode cX2_feltAsAt 1 = .ok (.iload_n 2, 1) := by decide +kernel
theorem dX2_feltAsAt_2 : decode cX2_feltAsAt 2 = .ok (.aload_n 0, 1) := by decide +kernel
theorem dX2_feltAsAt_3 : decode cX2_feltAsAt 3 = .ok (.iload_n 1, 1) := by decide +kernel
theorem dX2_feltAsAt_4 : decode cX2_feltAsAt 4 = .ok (.iload_n 2, 1) := by decide +kernel
theorem dX2_feltAsAt_5 : decode cX2_feltAsAt 5 = .ok (.iload_n 3, 1) := by decide +kernel
theorem dX2_feltAsAt_6 : decode cX2_feltAsAt 6 = .ok (.invokevirtual 100, 3) := by decide +kernel
theorem dX2_feltAsAt_9 : decode cX2_feltAsAt 9 = .ok (.iload 4, 2) := by decide +kernel
theorem dX2_feltAsAt_11 : decode cX2_feltAsAt 11 = .ok (.invokevirtual 104, 3) := by decide +kernel
theorem dX2_feltAsAt_14 : decode cX2_feltAsAt 14 = .ok (.ireturn, 1) := by decide +kernel
theorem dX2_hasDoor_0 : decode cX2_hasDoor 0 = .ok (.iload_n 1, 1) := by decide +kernel
theorem dX2_hasDoor_1 : decode cX2_hasDoor 1 = .ok (.ifCond .lt 15, 3) := by decide +kernel
theorem dX2_hasDoor_4 : decode cX2_hasDoor 4 = .ok (.iload_n 1, 1) := by decide +kernel
theorem dX2_hasDoor_5 : decode cX2_hasDoor 5 = .ok (.aload_n 0, 1) := by decide +kernel
theorem dX2_hasDoor_6 : decode cX2_hasDoor 6 = .ok (.getfield 62, 3) := by decide +kernel
theorem dX2_hasDoor_9 : decode cX2_hasDoor 9 = .ok (.if_icmp .ge 7, 3) := by decide +kernel
theorem dX2_hasDoor_12 : decode cX2_hasDoor 12 = .ok (.iconst 1, 1) := by decide +kernel
theorem dX2_hasDoor_13 : decode cX2_hasDoor 13 = .ok (.goto 4, 3) := by decide +kernel
theorem dX2_hasDoor_16 : decode cX2_hasDoor 16 = .ok (.iconst 0, 1) := by decide +kernel
theorem dX2_hasDoor_17 : decode cX2_hasDoor 17 = .ok (.ireturn, 1) := by decide +kernel
theorem dX2_hasFeature_0 : decode cX2_hasFeature 0 = .ok (.iload_n 1, 1) := by decide +kernel
theorem dX2_hasFeature_1 : decode cX2_hasFeature 1 = .ok (.ifCond .lt 15, 3) := by decide +kernel
theorem dX2_hasFeature_4 : decode cX2_hasFeature 4 = .ok (.iload_n 1, 1) := by decide +kernel
theorem dX2_hasFeature_5 : decode cX2_hasFeature 5 = .ok (.aload_n 0, 1) := by decide +kernel
theorem dX2_hasFeature_6 : decode cX2_hasFeature 6 = .ok (.getfield 49, 3) := by decide +kernel
theorem dX2_hasFeature_9 : decode cX2_hasFeature 9 = .ok (.if_icmp .ge 7, 3) := by decide +kernel
theorem dX2_hasFeature_12 : decode cX2_hasFeature 12 = .ok (.iconst 1, 1) := by decide +kernel
theorem dX2_hasFeature_13 : decode cX2_hasFeature 13 = .ok (.goto 4, 3) := by decide +kernel
theorem dX2_hasFeature_16 : decode cX2_hasFeature 16 = .ok (.iconst 0, 1) := by decide +kernel
theorem dX2_hasFeature_17 : decode cX2_hasFeature 17 = .ok (.ireturn, 1) := by decide +kernel
theorem dX2_hasKey_0 : decode cX2_hasKey 0 = .ok (.iload_n 1, 1) := by decide +kernel
theorem dX2_hasKey_1 : decode cX2_hasKey 1 = .ok (.ifCond .lt 15, 3) := by decide +kernel
theorem dX2_hasKey_4 : decode cX2_hasKey 4 = .ok (.iload_n 1, 1) := by decide +kernel
theorem dX2_hasKey_5 : decode cX2_hasKey 5 = .ok (.aload_n 0, 1) := by decide +kernel
theorem dX2_hasKey_6 : decode cX2_hasKey 6 = .ok (.getfield 53, 3) := by decide +kernel
theorem dX2_hasKey_9 : decode cX2_hasKey 9 = .ok (.if_icmp .ge 7, 3) := by decide +kernel
theorem dX2_hasKey_12 : decode cX2_hasKey 12 = .ok (.iconst 1, 1) := by decide +kernel
theorem dX2_hasKey_13 : decode cX2_hasKey 13 = .ok (.goto 4, 3) := by decide +kernel
theorem dX2_hasKey_16 : decode cX2_hasKey 16 = .ok (.iconst 0, 1) := by decide +kernel
theorem dX2_hasKey_17 : decode cX2_hasKey 17 = .ok (.ireturn, 1) := by decide +kernel
theorem dX2_hasRing_0 : decode cX2_hasRing 0 = .ok (.iload_n 1, 1) := by decide +kernel
theorem dX2_hasRing_1 : decode cX2_hasRing 1 = .ok (.ifCond .lt 15, 3) := by decide +kernel
theorem dX2_hasRing_4 : decode cX2_hasRing 4 = .ok (.iload_n 1, 1) := by decide +kernel
theorem dX2_hasRing_5 : decode cX2_hasRing 5 = .ok (.aload_n 0, 1) := by decide +kernel
theorem dX2_hasRing_6 : decode cX2_hasRing 6 = .ok (.getfield 59, 3) := by decide +kernel
theorem dX2_hasRing_9 : decode cX2_hasRing 9 = .ok (.if_icmp .ge 7, 3) := by decide +kernel
theorem dX2_hasRing_12 : decode cX2_hasRing 12 = .ok (.iconst 1, 1) := by decide +kernel
theorem dX2_hasRing_13 : decode cX2_hasRing 13 = .ok (.goto 4, 3) := by decide +kernel
theorem dX2_hasRing_16 : decode cX2_hasRing 16 = .ok (.iconst 0, 1) := by decide +kernel
theorem dX2_hasRing_17 : decode cX2_hasRing 17 = .ok (.ireturn, 1) := by decide +kernel
theorem dX2_hasStep_0 : decode cX2_hasStep 0 = .ok (.iload_n 2, 1) := by decide +kernel
theorem dX2_hasStep_1 : decode cX2_hasStep 1 = .ok (.ifCond .lt 16, 3) := by decide +kernel
theorem dX2_hasStep_4 : decode cX2_hasStep 4 = .ok (.iload_n 2, 1) := by decide +kernel
theorem dX2_hasStep_5 : decode cX2_hasStep 5 = .ok (.aload_n 0, 1) := by decide +kernel
theorem dX2_hasStep_6 : decode cX2_hasStep 6 = .ok (.iload_n 1, 1) := by decide +kernel
theorem dX2_hasStep_7 : decode cX2_hasStep 7 = .ok (.invokevirtual 81, 3) := by decide +kernel
theorem dX2_hasStep_10 : decode cX2_hasStep 10 = .ok (.if_icmp .ge 7, 3) := by decide +kernel
theorem dX2_hasStep_13 : decode cX2_hasStep 13 = .ok (.iconst 1, 1) := by decide +kernel
theorem dX2_hasStep_14 : decode cX2_hasStep 14 = .ok (.goto 4, 3) := by decide +kernel
theorem dX2_hasStep_17 : decode cX2_hasStep 17 = .ok (.iconst 0, 1) := by decide +kernel
theorem dX2_hasStep_18 : decode cX2_hasStep 18 = .ok (.ireturn, 1) := by decide +kernel
theorem dX2_isLent_0 : decode cX2_isLent 0 = .ok (.aload_n 0, 1) := by decide +kernel
theorem dX2_isLent_1 : decode cX2_isLent 1 = .ok (.iload_n 1, 1) := by decide +kernel
theorem dX2_isLent_2 : decode cX2_isLent 2 = .ok (.invokevirtual 97, 3) := by decide +kernel
theorem dX2_isLent_5 : decode cX2_isLent 5 = .ok (.ifCond .eq 19, 3) := by decide +kernel
theorem dX2_isLent_8 : decode cX2_isLent 8 = .ok (.aload_n 0, 1) := by decide +kernel
theorem dX2_isLent_9 : decode cX2_isLent 9 = .ok (.getfield 56, 3) := by decide +kernel
theorem dX2_isLent_12 : decode cX2_isLent 12 = .ok (.iload_n 1, 1) := by decide +kernel
theorem dX2_isLent_13 : decode cX2_isLent 13 = .ok (.ishr, 1) := by decide +kernel
theorem dX2_isLent_14 : decode cX2_isLent 14 = .ok (.iconst 1, 1) := by decide +kernel
theorem dX2_isLent_15 : decode cX2_isLent 15 = .ok (.iand, 1) := by decide +kernel
theorem dX2_isLent_16 : decode cX2_isLent 16 = .ok (.iconst 1, 1) := by decide +kernel
theorem dX2_isLent_17 : decode cX2_isLent 17 = .ok (.if_icmp .ne 7, 3) := by decide +kernel
theorem dX2_isLent_20 : decode cX2_isLent 20 = .ok (.iconst 1, 1) := by decide +kernel
theorem dX2_isLent_21 : decode cX2_isLent 21 = .ok (.goto 4, 3) := by decide +kernel
theorem dX2_isLent_24 : decode cX2_isLent 24 = .ok (.iconst 0, 1) := by decide +kernel
theorem dX2_isLent_25 : decode cX2_isLent 25 = .ok (.ireturn, 1) := by decide +kernel
theorem dX2_isOnlyOpener_0 : decode cX2_isOnlyOpener 0 = .ok (.aload_n 0, 1) := by decide +kernel
theorem dX2_isOnlyOpener_1 : decode cX2_isOnlyOpener 1 = .ok (.iload_n 1, 1) := by decide +kernel
theorem dX2_isOnlyOpener_2 : decode cX2_isOnlyOpener 2 = .ok (.invokevirtual 130, 3) := by decide +kernel
theorem dX2_isOnlyOpener_5 : decode cX2_isOnlyOpener 5 = .ok (.istore_n 3, 1) := by decide +kernel
theorem dX2_isOnlyOpener_6 : decode cX2_isOnlyOpener 6 = .ok (.iload_n 3, 1) := by decide +kernel
theorem dX2_isOnlyOpener_7 : decode cX2_isOnlyOpener 7 = .ok (.iconst (-1), 1) := by decide +kernel
theorem dX2_isOnlyOpener_8 : decode cX2_isOnlyOpener 8 = .ok (.if_icmp .eq 20, 3) := by decide +kernel
theorem dX2_isOnlyOpener_11 : decode cX2_isOnlyOpener 11 = .ok (.aload_n 0, 1) := by decide +kernel
theorem dX2_isOnlyOpener_12 : decode cX2_isOnlyOpener 12 = .ok (.iload_n 1, 1) := by decide +kernel
theorem dX2_isOnlyOpener_13 : decode cX2_isOnlyOpener 13 = .ok (.invokevirtual 123, 3) := by decide +kernel
theorem dX2_isOnlyOpener_16 : decode cX2_isOnlyOpener 16 = .ok (.ifCond .ne 12, 3) := by decide +kernel
theorem dX2_isOnlyOpener_19 : decode cX2_isOnlyOpener 19 = .ok (.aload_n 0, 1) := by decide +kernel
theorem dX2_isOnlyOpener_20 : decode cX2_isOnlyOpener 20 = .ok (.iload_n 1, 1) := by decide +kernel
theorem dX2_isOnlyOpener_21 : decode cX2_isOnlyOpener 21 = .ok (.iload_n 2, 1) := by decide +kernel
theorem dX2_isOnlyOpener_22 : decode cX2_isOnlyOpener 22 = .ok (.invokevirtual 133, 3) := by decide +kernel
theorem dX2_isOnlyOpener_25 : decode cX2_isOnlyOpener 25 = .ok (.ifCond .ne 5, 3) := by decide +kernel
theorem dX2_isOnlyOpener_28 : decode cX2_isOnlyOpener 28 = .ok (.iconst 0, 1) := by decide +kernel
theorem dX2_isOnlyOpener_29 : decode cX2_isOnlyOpener 29 = .ok (.ireturn, 1) := by decide +kernel
theorem dX2_isOnlyOpener_30 : decode cX2_isOnlyOpener 30 = .ok (.iconst 0, 1) := by decide +kernel
theorem dX2_isOnlyOpener_31 : decode cX2_isOnlyOpener 31 = .ok (.istore 4, 2) := by decide +kernel
theorem dX2_isOnlyOpener_33 : decode cX2_isOnlyOpener 33 = .ok (.iload 4, 2) := by decide +kernel
theorem dX2_isOnlyOpener_35 : decode cX2_isOnlyOpener 35 = .ok (.aload_n 0, 1) := by decide +kernel
theorem dX2_isOnlyOpener_36 : decode cX2_isOnlyOpener 36 = .ok (.iload_n 3, 1) := by decide +kernel
theorem dX2_isOnlyOpener_37 : decode cX2_isOnlyOpener 37 = .ok (.invokevirtual 113, 3) := by decide +kernel
theorem dX2_isOnlyOpener_40 : decode cX2_isOnlyOpener 40 = .ok (.if_icmp .ge 45, 3) := by decide +kernel
theorem dX2_isOnlyOpener_43 : decode cX2_isOnlyOpener 43 = .ok (.aload_n 0, 1) := by decide +kernel
theorem dX2_isOnlyOpener_44 : decode cX2_isOnlyOpener 44 = .ok (.iload_n 3, 1) := by decide +kernel
theorem dX2_isOnlyOpener_45 : decode cX2_isOnlyOpener 45 = .ok (.iload 4, 2) := by decide +kernel
theorem dX2_isOnlyOpener_47 : decode cX2_isOnlyOpener 47 = .ok (.invokevirtual 116, 3) := by decide +kernel
theorem dX2_isOnlyOpener_50 : decode cX2_isOnlyOpener 50 = .ok (.istore 5, 2) := by decide +kernel
theorem dX2_isOnlyOpener_52 : decode cX2_isOnlyOpener 52 = .ok (.iload 5, 2) := by decide +kernel
theorem dX2_isOnlyOpener_54 : decode cX2_isOnlyOpener 54 = .ok (.iload_n 1, 1) := by decide +kernel
theorem dX2_isOnlyOpener_55 : decode cX2_isOnlyOpener 55 = .ok (.if_icmp .eq 24, 3) := by decide +kernel
theorem dX2_isOnlyOpener_58 : decode cX2_isOnlyOpener 58 = .ok (.aload_n 0, 1) := by decide +kernel
theorem dX2_isOnlyOpener_59 : decode cX2_isOnlyOpener 59 = .ok (.iload 5, 2) := by decide +kernel
theorem dX2_isOnlyOpener_61 : decode cX2_isOnlyOpener 61 = .ok (.invokevirtual 123, 3) := by decide +kernel
theorem dX2_isOnlyOpener_64 : decode cX2_isOnlyOpener 64 = .ok (.ifCond .ne 15, 3) := by decide +kernel
theorem dX2_isOnlyOpener_67 : decode cX2_isOnlyOpener 67 = .ok (.aload_n 0, 1) := by decide +kernel
theorem dX2_isOnlyOpener_68 : decode cX2_isOnlyOpener 68 = .ok (.iload 5, 2) := by decide +kernel
theorem dX2_isOnlyOpener_70 : decode cX2_isOnlyOpener 70 = .ok (.iload_n 2, 1) := by decide +kernel
theorem dX2_isOnlyOpener_71 : decode cX2_isOnlyOpener 71 = .ok (.invokevirtual 133, 3) := by decide +kernel
theorem dX2_isOnlyOpener_74 : decode cX2_isOnlyOpener 74 = .ok (.ifCond .eq 5, 3) := by decide +kernel
theorem dX2_isOnlyOpener_77 : decode cX2_isOnlyOpener 77 = .ok (.iconst 0, 1) := by decide +kernel
theorem dX2_isOnlyOpener_78 : decode cX2_isOnlyOpener 78 = .ok (.ireturn, 1) := by decide +kernel
theorem dX2_isOnlyOpener_79 : decode cX2_isOnlyOpener 79 = .ok (.iinc 4 1, 3) := by decide +kernel
theorem dX2_isOnlyOpener_82 : decode cX2_isOnlyOpener 82 = .ok (.goto (-49), 3) := by decide +kernel
theorem dX2_isOnlyOpener_85 : decode cX2_isOnlyOpener 85 = .ok (.iconst 1, 1) := by decide +kernel
theorem dX2_isOnlyOpener_86 : decode cX2_isOnlyOpener 86 = .ok (.ireturn, 1) := by decide +kernel
theorem dX2_isTurned_0 : decode cX2_isTurned 0 = .ok (.aload_n 0, 1) := by decide +kernel
theorem dX2_isTurned_1 : decode cX2_isTurned 1 = .ok (.iload_n 1, 1) := by decide +kernel
theorem dX2_isTurned_2 : decode cX2_isTurned 2 = .ok (.invokevirtual 85, 3) := by decide +kernel
theorem dX2_isTurned_5 : decode cX2_isTurned 5 = .ok (.ifCond .eq 19, 3) := by decide +kernel
theorem dX2_isTurned_8 : decode cX2_isTurned 8 = .ok (.aload_n 0, 1) := by decide +kernel
theorem dX2_isTurned_9 : decode cX2_isTurned 9 = .ok (.getfield 19, 3) := by decide +kernel
theorem dX2_isTurned_12 : decode cX2_isTurned 12 = .ok (.iload_n 1, 1) := by decide +kernel
theorem dX2_isTurned_13 : decode cX2_isTurned 13 = .ok (.invokestatic 89, 3) := by decide +kernel
theorem dX2_isTurned_16 : decode cX2_isTurned 16 = .ok (.iconst 1, 1) := by decide +kernel
theorem dX2_isTurned_17 : decode cX2_isTurned 17 = .ok (.if_icmp .ne 7, 3) := by decide +kernel
theorem dX2_isTurned_20 : decode cX2_isTurned 20 = .ok (.iconst 1, 1) := by decide +kernel
theorem dX2_isTurned_21 : decode cX2_isTurned 21 = .ok (.goto 4, 3) := by decide +kernel
theorem dX2_isTurned_24 : decode cX2_isTurned 24 = .ok (.iconst 0, 1) := by decide +kernel
theorem dX2_isTurned_25 : decode cX2_isTurned 25 = .ok (.ireturn, 1) := by decide +kernel
theorem dX2_keyOn_0 : decode cX2_keyOn 0 = .ok (.iload_n 2, 1) := by decide +kernel
theorem dX2_keyOn_1 : decode cX2_keyOn 1 = .ok (.ifCond .lt 28, 3) := by decide +kernel
theorem dX2_keyOn_4 : decode cX2_keyOn 4 = .ok (.iload_n 2, 1) := by decide +kernel
theorem dX2_keyOn_5 : decode cX2_keyOn 5 = .ok (.aload_n 0, 1) := by decide +kernel
theorem dX2_keyOn_6 : decode cX2_keyOn 6 = .ok (.iload_n 1, 1) := by decide +kernel
theorem dX2_keyOn_7 : decode cX2_keyOn 7 = .ok (.invokevirtual 113, 3) := by decide +kernel
theorem dX2_keyOn_10 : decode cX2_keyOn 10 = .ok (.if_icmp .ge 19, 3) := by decide +kernel
theorem dX2_keyOn_13 : decode cX2_keyOn 13 = .ok (.aload_n 0, 1) := by decide +kernel
theorem dX2_keyOn_14 : decode cX2_keyOn 14 = .ok (.getfield 28, 3) := by decide +kernel
theorem dX2_keyOn_17 : decode cX2_keyOn 17 = .ok (.iload_n 1, 1) := by decide +kernel
theorem dX2_keyOn_18 : decode cX2_keyOn 18 = .ok (.bipush 10, 2) := by decide +kernel
theorem dX2_keyOn_20 : decode cX2_keyOn 20 = .ok (.imul, 1) := by decide +kernel
theorem dX2_keyOn_21 : decode cX2_keyOn 21 = .ok (.iload_n 2, 1) := by decide +kernel
theorem dX2_keyOn_22 : decode cX2_keyOn 22 = .ok (.iadd, 1) := by decide +kernel
theorem dX2_keyOn_23 : decode cX2_keyOn 23 = .ok (.invokestatic 89, 3) := by decide +kernel
theorem dX2_keyOn_26 : decode cX2_keyOn 26 = .ok (.goto 4, 3) := by decide +kernel
theorem dX2_keyOn_29 : decode cX2_keyOn 29 = .ok (.iconst (-1), 1) := by decide +kernel
theorem dX2_keyOn_30 : decode cX2_keyOn 30 = .ok (.ireturn, 1) := by decide +kernel
theorem dX2_keyThere_0 : decode cX2_keyThere 0 = .ok (.iconst 0, 1) := by decide +kernel
theorem dX2_keyThere_1 : decode cX2_keyThere 1 = .ok (.istore_n 3, 1) := by decide +kernel
theorem dX2_keyThere_2 : decode cX2_keyThere 2 = .ok (.iconst 0, 1) := by decide +kernel
theorem dX2_keyThere_3 : decode cX2_keyThere 3 = .ok (.istore 4, 2) := by decide +kernel
theorem dX2_keyThere_5 : decode cX2_keyThere 5 = .ok (.iload 4, 2) := by decide +kernel
theorem dX2_keyThere_7 : decode cX2_keyThere 7 = .ok (.aload_n 0, 1) := by decide +kernel
theorem dX2_keyThere_8 : decode cX2_keyThere 8 = .ok (.iload_n 1, 1) := by decide +kernel
theorem dX2_keyThere_9 : decode cX2_keyThere 9 = .ok (.invokevirtual 113, 3) := by decide +kernel
theorem dX2_keyThere_12 : decode cX2_keyThere 12 = .ok (.if_icmp .ge 41, 3) := by decide +kernel
theorem dX2_keyThere_15 : decode cX2_keyThere 15 = .ok (.aload_n 0, 1) := by decide +kernel
theorem dX2_keyThere_16 : decode cX2_keyThere 16 = .ok (.iload_n 1, 1) := by decide +kernel
theorem dX2_keyThere_17 : decode cX2_keyThere 17 = .ok (.iload 4, 2) := by decide +kernel
theorem dX2_keyThere_19 : decode cX2_keyThere 19 = .ok (.invokevirtual 116, 3) := by decide +kernel
theorem dX2_keyThere_22 : decode cX2_keyThere 22 = .ok (.istore 5, 2) := by decide +kernel
theorem dX2_keyThere_24 : decode cX2_keyThere 24 = .ok (.aload_n 0, 1) := by decide +kernel
theorem dX2_keyThere_25 : decode cX2_keyThere 25 = .ok (.iload 5, 2) := by decide +kernel
theorem dX2_keyThere_27 : decode cX2_keyThere 27 = .ok (.invokevirtual 123, 3) := by decide +kernel
theorem dX2_keyThere_30 : decode cX2_keyThere 30 = .ok (.ifCond .eq 6, 3) := by decide +kernel
theorem dX2_keyThere_33 : decode cX2_keyThere 33 = .ok (.goto 14, 3) := by decide +kernel
theorem dX2_keyThere_36 : decode cX2_keyThere 36 = .ok (.iload_n 3, 1) := by decide +kernel
theorem dX2_keyThere_37 : decode cX2_keyThere 37 = .ok (.iload_n 2, 1) := by decide +kernel
theorem dX2_keyThere_38 : decode cX2_keyThere 38 = .ok (.if_icmp .ne 6, 3) := by decide +kernel
theorem dX2_keyThere_41 : decode cX2_keyThere 41 = .ok (.iload 5, 2) := by decide +kernel
theorem dX2_keyThere_43 : decode cX2_keyThere 43 = .ok (.ireturn, 1) := by decide +kernel
theorem dX2_keyThere_44 : decode cX2_keyThere 44 = .ok (.iinc 3 1, 3) := by decide +kernel
theorem dX2_keyThere_47 : decode cX2_keyThere 47 = .ok (.iinc 4 1, 3) := by decide +kernel
theorem dX2_keyThere_50 : decode cX2_keyThere 50 = .ok (.goto (-45), 3) := by decide +kernel
theorem dX2_keyThere_53 : decode cX2_keyThere 53 = .ok (.iconst (-1), 1) := by decide +kernel
theorem dX2_keyThere_54 : decode cX2_keyThere 54 = .ok (.ireturn, 1) := by decide +kernel
theorem dX2_layAt_0 : decode cX2_layAt 0 = .ok (.iload_n 2, 1) := by decide +kernel
theorem dX2_layAt_1 : decode cX2_layAt 1 = .ok (.ifCond .lt 26, 3) := by decide +kernel
theorem dX2_layAt_4 : decode cX2_layAt 4 = .ok (.iload_n 2, 1) := by decide +kernel
theorem dX2_layAt_5 : decode cX2_layAt 5 = .ok (.aload_n 0, 1) := by decide +kernel
theorem dX2_layAt_6 : decode cX2_layAt 6 = .ok (.iload_n 1, 1) := by decide +kernel
theorem dX2_layAt_7 : decode cX2_layAt 7 = .ok (.invokevirtual 113, 3) := by decide +kernel
theorem dX2_layAt_10 : decode cX2_layAt 10 = .ok (.if_icmp .ge 17, 3) := by decide +kernel
theorem dX2_layAt_13 : decode cX2_layAt 13 = .ok (.aload_n 0, 1) := by decide +kernel
theorem dX2_layAt_14 : decode cX2_layAt 14 = .ok (.getfield 28, 3) := by decide +kernel
theorem dX2_layAt_17 : decode cX2_layAt 17 = .ok (.iload_n 1, 1) := by decide +kernel
theorem dX2_layAt_18 : decode cX2_layAt 18 = .ok (.bipush 10, 2) := by decide +kernel
theorem dX2_layAt_20 : decode cX2_layAt 20 = .ok (.imul, 1) := by decide +kernel
theorem dX2_layAt_21 : decode cX2_layAt 21 = .ok (.iload_n 2, 1) := by decide +kernel
theorem dX2_layAt_22 : decode cX2_layAt 22 = .ok (.iadd, 1) := by decide +kernel
theorem dX2_layAt_23 : decode cX2_layAt 23 = .ok (.iload_n 3, 1) := by decide +kernel
theorem dX2_layAt_24 : decode cX2_layAt 24 = .ok (.invokestatic 126, 3) := by decide +kernel
theorem dX2_layAt_27 : decode cX2_layAt 27 = .ok (.return_, 1) := by decide +kernel
theorem dX2_manyOn_0 : decode cX2_manyOn 0 = .ok (.aload_n 0, 1) := by decide +kernel
theorem dX2_manyOn_1 : decode cX2_manyOn 1 = .ok (.iload_n 1, 1) := by decide +kernel
theorem dX2_manyOn_2 : decode cX2_manyOn 2 = .ok (.invokevirtual 110, 3) := by decide +kernel
theorem dX2_manyOn_5 : decode cX2_manyOn 5 = .ok (.ifCond .eq 14, 3) := by decide +kernel
theorem dX2_manyOn_8 : decode cX2_manyOn 8 = .ok (.aload_n 0, 1) := by decide +kernel
theorem dX2_manyOn_9 : decode cX2_manyOn 9 = .ok (.getfield 31, 3) := by decide +kernel
theorem dX2_manyOn_12 : decode cX2_manyOn 12 = .ok (.iload_n 1, 1) := by decide +kernel
theorem dX2_manyOn_13 : decode cX2_manyOn 13 = .ok (.invokestatic 89, 3) := by decide +kernel
theorem dX2_manyOn_16 : decode cX2_manyOn 16 = .ok (.goto 4, 3) := by decide +kernel
theorem dX2_manyOn_19 : decode cX2_manyOn 19 = .ok (.iconst 0, 1) := by decide +kernel
theorem dX2_manyOn_20 : decode cX2_manyOn 20 = .ok (.ireturn, 1) := by decide +kernel
theorem dX2_manyThere_0 : decode cX2_manyThere 0 = .ok (.iconst 0, 1) := by decide +kernel
theorem dX2_manyThere_1 : decode cX2_manyThere 1 = .ok (.istore_n 2, 1) := by decide +kernel
theorem dX2_manyThere_2 : decode cX2_manyThere 2 = .ok (.iconst 0, 1) := by decide +kernel
theorem dX2_manyThere_3 : decode cX2_manyThere 3 = .ok (.istore_n 3, 1) := by decide +kernel
theorem dX2_manyThere_4 : decode cX2_manyThere 4 = .ok (.iload_n 3, 1) := by decide +kernel
theorem dX2_manyThere_5 : decode cX2_manyThere 5 = .ok (.aload_n 0, 1) := by decide +kernel
theorem dX2_manyThere_6 : decode cX2_manyThere 6 = .ok (.iload_n 1, 1) := by decide +kernel
theorem dX2_manyThere_7 : decode cX2_manyThere 7 = .ok (.invokevirtual 113, 3) := by decide +kernel
theorem dX2_manyThere_10 : decode cX2_manyThere 10 = .ok (.if_icmp .ge 25, 3) := by decide +kernel
theorem dX2_manyThere_13 : decode cX2_manyThere 13 = .ok (.aload_n 0, 1) := by decide +kernel
theorem dX2_manyThere_14 : decode cX2_manyThere 14 = .ok (.aload_n 0, 1) := by decide +kernel
theorem dX2_manyThere_15 : decode cX2_manyThere 15 = .ok (.iload_n 1, 1) := by decide +kernel
theorem dX2_manyThere_16 : decode cX2_manyThere 16 = .ok (.iload_n 3, 1) := by decide +kernel
theorem dX2_manyThere_17 : decode cX2_manyThere 17 = .ok (.invokevirtual 116, 3) := by decide +kernel
theorem dX2_manyThere_20 : decode cX2_manyThere 20 = .ok (.invokevirtual 123, 3) := by decide +kernel
theorem dX2_manyThere_23 : decode cX2_manyThere 23 = .ok (.ifCond .ne 6, 3) := by decide +kernel
theorem dX2_manyThere_26 : decode cX2_manyThere 26 = .ok (.iinc 2 1, 3) := by decide +kernel
theorem dX2_manyThere_29 : decode cX2_manyThere 29 = .ok (.iinc 3 1, 3) := by decide +kernel
theorem dX2_manyThere_32 : decode cX2_manyThere 32 = .ok (.goto (-28), 3) := by decide +kernel
theorem dX2_manyThere_35 : decode cX2_manyThere 35 = .ok (.iload_n 2, 1) := by decide +kernel
theorem dX2_manyThere_36 : decode cX2_manyThere 36 = .ok (.ireturn, 1) := by decide +kernel
theorem dX2_openersOf_0 : decode cX2_openersOf 0 = .ok (.aload_n 0, 1) := by decide +kernel
theorem dX2_openersOf_1 : decode cX2_openersOf 1 = .ok (.iload_n 1, 1) := by decide +kernel
theorem dX2_openersOf_2 : decode cX2_openersOf 2 = .ok (.invokevirtual 107, 3) := by decide +kernel
theorem dX2_openersOf_5 : decode cX2_openersOf 5 = .ok (.ifCond .eq 14, 3) := by decide +kernel
theorem dX2_openersOf_8 : decode cX2_openersOf 8 = .ok (.aload_n 0, 1) := by decide +kernel
theorem dX2_openersOf_9 : decode cX2_openersOf 9 = .ok (.getfield 37, 3) := by decide +kernel
theorem dX2_openersOf_12 : decode cX2_openersOf 12 = .ok (.iload_n 1, 1) := by decide +kernel
theorem dX2_openersOf_13 : decode cX2_openersOf 13 = .ok (.invokestatic 89, 3) := by decide +kernel
theorem dX2_openersOf_16 : decode cX2_openersOf 16 = .ok (.goto 4, 3) := by decide +kernel
theorem dX2_openersOf_19 : decode cX2_openersOf 19 = .ok (.iconst 0, 1) := by decide +kernel
theorem dX2_openersOf_20 : decode cX2_openersOf 20 = .ok (.ireturn, 1) := by decide +kernel
theorem dX2_placeOn_0 : decode cX2_placeOn 0 = .ok (.iconst 0, 1) := by decide +kernel
theorem dX2_placeOn_1 : decode cX2_placeOn 1 = .ok (.istore_n 3, 1) := by decide +kernel
theorem dX2_placeOn_2 : decode cX2_placeOn 2 = .ok (.iload_n 3, 1) := by decide +kernel
theorem dX2_placeOn_3 : decode cX2_placeOn 3 = .ok (.aload_n 0, 1) := by decide +kernel
theorem dX2_placeOn_4 : decode cX2_placeOn 4 = .ok (.iload_n 1, 1) := by decide +kernel
theorem dX2_placeOn_5 : decode cX2_placeOn 5 = .ok (.invokevirtual 113, 3) := by decide +kernel
theorem dX2_placeOn_8 : decode cX2_placeOn 8 = .ok (.if_icmp .ge 21, 3) := by decide +kernel
theorem dX2_placeOn_11 : decode cX2_placeOn 11 = .ok (.aload_n 0, 1) := by decide +kernel
theorem dX2_placeOn_12 : decode cX2_placeOn 12 = .ok (.iload_n 1, 1) := by decide +kernel
theorem dX2_placeOn_13 : decode cX2_placeOn 13 = .ok (.iload_n 3, 1) := by decide +kernel
theorem dX2_placeOn_14 : decode cX2_placeOn 14 = .ok (.invokevirtual 116, 3) := by decide +kernel
theorem dX2_placeOn_17 : decode cX2_placeOn 17 = .ok (.iload_n 2, 1) := by decide +kernel
theorem dX2_placeOn_18 : decode cX2_placeOn 18 = .ok (.if_icmp .ne 5, 3) := by decide +kernel
theorem dX2_placeOn_21 : decode cX2_placeOn 21 = .ok (.iload_n 3, 1) := by decide +kernel
theorem dX2_placeOn_22 : decode cX2_placeOn 22 = .ok (.ireturn, 1) := by decide +kernel
theorem dX2_placeOn_23 : decode cX2_placeOn 23 = .ok (.iinc 3 1, 3) := by decide +kernel
theorem dX2_placeOn_26 : decode cX2_placeOn 26 = .ok (.goto (-24), 3) := by decide +kernel
theorem dX2_placeOn_29 : decode cX2_placeOn 29 = .ok (.iconst (-1), 1) := by decide +kernel
theorem dX2_placeOn_30 : decode cX2_placeOn 30 = .ok (.ireturn, 1) := by decide +kernel
theorem dX2_putOn_0 : decode cX2_putOn 0 = .ok (.aload_n 0, 1) := by decide +kernel
theorem dX2_putOn_1 : decode cX2_putOn 1 = .ok (.iload_n 2, 1) := by decide +kernel
theorem dX2_putOn_2 : decode cX2_putOn 2 = .ok (.invokevirtual 113, 3) := by decide +kernel
theorem dX2_putOn_5 : decode cX2_putOn 5 = .ok (.istore 4, 2) := by decide +kernel
theorem dX2_putOn_7 : decode cX2_putOn 7 = .ok (.aload_n 0, 1) := by decide +kernel
theorem dX2_putOn_8 : decode cX2_putOn 8 = .ok (.iload_n 2, 1) := by decide +kernel
theorem dX2_putOn_9 : decode cX2_putOn 9 = .ok (.invokevirtual 110, 3) := by decide +kernel
theorem dX2_putOn_12 : decode cX2_putOn 12 = .ok (.ifCond .eq 10, 3) := by decide +kernel
theorem dX2_putOn_15 : decode cX2_putOn 15 = .ok (.iload 4, 2) := by decide +kernel
theorem dX2_putOn_17 : decode cX2_putOn 17 = .ok (.bipush 10, 2) := by decide +kernel
theorem dX2_putOn_19 : decode cX2_putOn 19 = .ok (.if_icmp .lt 4, 3) := by decide +kernel
theorem dX2_putOn_22 : decode cX2_putOn 22 = .ok (.return_, 1) := by decide +kernel
theorem dX2_putOn_23 : decode cX2_putOn 23 = .ok (.aload_n 0, 1) := by decide +kernel
theorem dX2_putOn_24 : decode cX2_putOn 24 = .ok (.getfield 31, 3) := by decide +kernel
theorem dX2_putOn_27 : decode cX2_putOn 27 = .ok (.iload_n 2, 1) := by decide +kernel
theorem dX2_putOn_28 : decode cX2_putOn 28 = .ok (.iload 4, 2) := by decide +kernel
theorem dX2_putOn_30 : decode cX2_putOn 30 = .ok (.iconst 1, 1) := by decide +kernel
theorem dX2_putOn_31 : decode cX2_putOn 31 = .ok (.iadd, 1) := by decide +kernel
theorem dX2_putOn_32 : decode cX2_putOn 32 = .ok (.invokestatic 126, 3) := by decide +kernel
theorem dX2_putOn_35 : decode cX2_putOn 35 = .ok (.iload 4, 2) := by decide +kernel
theorem dX2_putOn_37 : decode cX2_putOn 37 = .ok (.istore 5, 2) := by decide +kernel
theorem dX2_putOn_39 : decode cX2_putOn 39 = .ok (.iload 5, 2) := by decide +kernel
theorem dX2_putOn_41 : decode cX2_putOn 41 = .ok (.iload_n 3, 1) := by decide +kernel
theorem dX2_putOn_42 : decode cX2_putOn 42 = .ok (.if_icmp .le 25, 3) := by decide +kernel
theorem dX2_putOn_45 : decode cX2_putOn 45 = .ok (.aload_n 0, 1) := by decide +kernel
theorem dX2_putOn_46 : decode cX2_putOn 46 = .ok (.iload_n 2, 1) := by decide +kernel
theorem dX2_putOn_47 : decode cX2_putOn 47 = .ok (.iload 5, 2) := by decide +kernel
theorem dX2_putOn_49 : decode cX2_putOn 49 = .ok (.aload_n 0, 1) := by decide +kernel
theorem dX2_putOn_50 : decode cX2_putOn 50 = .ok (.iload_n 2, 1) := by decide +kernel
theorem dX2_putOn_51 : decode cX2_putOn 51 = .ok (.iload 5, 2) := by decide +kernel
theorem dX2_putOn_53 : decode cX2_putOn 53 = .ok (.iconst 1, 1) := by decide +kernel
theorem dX2_putOn_54 : decode cX2_putOn 54 = .ok (.isub, 1) := by decide +kernel
theorem dX2_putOn_55 : decode cX2_putOn 55 = .ok (.invokevirtual 116, 3) := by decide +kernel
theorem dX2_putOn_58 : decode cX2_putOn 58 = .ok (.invokevirtual 148, 3) := by decide +kernel
theorem dX2_putOn_61 : decode cX2_putOn 61 = .ok (.iinc 5 (-1), 3) := by decide +kernel
theorem dX2_putOn_64 : decode cX2_putOn 64 = .ok (.goto (-25), 3) := by decide +kernel
theorem dX2_putOn_67 : decode cX2_putOn 67 = .ok (.aload_n 0, 1) := by decide +kernel
theorem dX2_putOn_68 : decode cX2_putOn 68 = .ok (.iload_n 2, 1) := by decide +kernel
theorem dX2_putOn_69 : decode cX2_putOn 69 = .ok (.iload_n 3, 1) := by decide +kernel
theorem dX2_putOn_70 : decode cX2_putOn 70 = .ok (.iload_n 1, 1) := by decide +kernel
theorem dX2_putOn_71 : decode cX2_putOn 71 = .ok (.invokevirtual 148, 3) := by decide +kernel
theorem dX2_putOn_74 : decode cX2_putOn 74 = .ok (.return_, 1) := by decide +kernel
theorem dX2_ringOf_0 : decode cX2_ringOf 0 = .ok (.iconst 0, 1) := by decide +kernel
theorem dX2_ringOf_1 : decode cX2_ringOf 1 = .ok (.istore_n 2, 1) := by decide +kernel
theorem dX2_ringOf_2 : decode cX2_ringOf 2 = .ok (.iload_n 2, 1) := by decide +kernel
theorem dX2_ringOf_3 : decode cX2_ringOf 3 = .ok (.aload_n 0, 1) := by decide +kernel
theorem dX2_ringOf_4 : decode cX2_ringOf 4 = .ok (.getfield 59, 3) := by decide +kernel
theorem dX2_ringOf_7 : decode cX2_ringOf 7 = .ok (.if_icmp .ge 21, 3) := by decide +kernel
theorem dX2_ringOf_10 : decode cX2_ringOf 10 = .ok (.aload_n 0, 1) := by decide +kernel
theorem dX2_ringOf_11 : decode cX2_ringOf 11 = .ok (.iload_n 2, 1) := by decide +kernel
theorem dX2_ringOf_12 : decode cX2_ringOf 12 = .ok (.iload_n 1, 1) := by decide +kernel
theorem dX2_ringOf_13 : decode cX2_ringOf 13 = .ok (.invokevirtual 120, 3) := by decide +kernel
theorem dX2_ringOf_16 : decode cX2_ringOf 16 = .ok (.iconst (-1), 1) := by decide +kernel
theorem dX2_ringOf_17 : decode cX2_ringOf 17 = .ok (.if_icmp .eq 5, 3) := by decide +kernel
theorem dX2_ringOf_20 : decode cX2_ringOf 20 = .ok (.iload_n 2, 1) := by decide +kernel
theorem dX2_ringOf_21 : decode cX2_ringOf 21 = .ok (.ireturn, 1) := by decide +kernel
theorem dX2_ringOf_22 : decode cX2_ringOf 22 = .ok (.iinc 2 1, 3) := by decide +kernel
theorem dX2_ringOf_25 : decode cX2_ringOf 25 = .ok (.goto (-23), 3) := by decide +kernel
theorem dX2_ringOf_28 : decode cX2_ringOf 28 = .ok (.iconst (-1), 1) := by decide +kernel
theorem dX2_ringOf_29 : decode cX2_ringOf 29 = .ok (.ireturn, 1) := by decide +kernel
theorem dX2_rowThere_0 : decode cX2_rowThere 0 = .ok (.iconst 0, 1) := by decide +kernel
theorem dX2_rowThere_1 : decode cX2_rowThere 1 = .ok (.istore_n 3, 1) := by decide +kernel
theorem dX2_rowThere_2 : decode cX2_rowThere 2 = .ok (.iconst 0, 1) := by decide +kernel
theorem dX2_rowThere_3 : decode cX2_rowThere 3 = .ok (.istore 4, 2) := by decide +kernel
theorem dX2_rowThere_5 : decode cX2_rowThere 5 = .ok (.iload 4, 2) := by decide +kernel
theorem dX2_rowThere_7 : decode cX2_rowThere 7 = .ok (.aload_n 0, 1) := by decide +kernel
theorem dX2_rowThere_8 : decode cX2_rowThere 8 = .ok (.iload_n 1, 1) := by decide +kernel
theorem dX2_rowThere_9 : decode cX2_rowThere 9 = .ok (.invokevirtual 113, 3) := by decide +kernel
theorem dX2_rowThere_12 : decode cX2_rowThere 12 = .ok (.if_icmp .ge 37, 3) := by decide +kernel
theorem dX2_rowThere_15 : decode cX2_rowThere 15 = .ok (.aload_n 0, 1) := by decide +kernel
theorem dX2_rowThere_16 : decode cX2_rowThere 16 = .ok (.iload_n 1, 1) := by decide +kernel
theorem dX2_rowThere_17 : decode cX2_rowThere 17 = .ok (.iload 4, 2) := by decide +kernel
theorem dX2_rowThere_19 : decode cX2_rowThere 19 = .ok (.invokevirtual 116, 3) := by decide +kernel
theorem dX2_rowThere_22 : decode cX2_rowThere 22 = .ok (.istore 5, 2) := by decide +kernel
theorem dX2_rowThere_24 : decode cX2_rowThere 24 = .ok (.aload_n 0, 1) := by decide +kernel
theorem dX2_rowThere_25 : decode cX2_rowThere 25 = .ok (.iload 5, 2) := by decide +kernel
theorem dX2_rowThere_27 : decode cX2_rowThere 27 = .ok (.invokevirtual 123, 3) := by decide +kernel
theorem dX2_rowThere_30 : decode cX2_rowThere 30 = .ok (.ifCond .ne 13, 3) := by decide +kernel
theorem dX2_rowThere_33 : decode cX2_rowThere 33 = .ok (.aload_n 2, 1) := by decide +kernel
theorem dX2_rowThere_34 : decode cX2_rowThere 34 = .ok (.iload_n 3, 1) := by decide +kernel
theorem dX2_rowThere_35 : decode cX2_rowThere 35 = .ok (.iload 5, 2) := by decide +kernel
theorem dX2_rowThere_37 : decode cX2_rowThere 37 = .ok (.invokestatic 126, 3) := by decide +kernel
theorem dX2_rowThere_40 : decode cX2_rowThere 40 = .ok (.iinc 3 1, 3) := by decide +kernel
theorem dX2_rowThere_43 : decode cX2_rowThere 43 = .ok (.iinc 4 1, 3) := by decide +kernel
theorem dX2_rowThere_46 : decode cX2_rowThere 46 = .ok (.goto (-41), 3) := by decide +kernel
theorem dX2_rowThere_49 : decode cX2_rowThere 49 = .ok (.iload_n 3, 1) := by decide +kernel
theorem dX2_rowThere_50 : decode cX2_rowThere 50 = .ok (.ireturn, 1) := by decide +kernel
theorem dX2_secondsOf_0 : decode cX2_secondsOf 0 = .ok (.aload_n 0, 1) := by decide +kernel
theorem dX2_secondsOf_1 : decode cX2_secondsOf 1 = .ok (.getfield 40, 3) := by decide +kernel
theorem dX2_secondsOf_4 : decode cX2_secondsOf 4 = .ok (.iload_n 1, 1) := by decide +kernel
theorem dX2_secondsOf_5 : decode cX2_secondsOf 5 = .ok (.invokestatic 89, 3) := by decide +kernel
theorem dX2_secondsOf_8 : decode cX2_secondsOf 8 = .ok (.ireturn, 1) := by decide +kernel
theorem dX2_setFeltAs_0 : decode cX2_setFeltAs 0 = .ok (.aload_n 0, 1) := by decide +kernel
theorem dX2_setFeltAs_1 : decode cX2_setFeltAs 1 = .ok (.getfield 22, 3) := by decide +kernel
theorem dX2_setFeltAs_4 : decode cX2_setFeltAs 4 = .ok (.iload_n 1, 1) := by decide +kernel
theorem dX2_setFeltAs_5 : decode cX2_setFeltAs 5 = .ok (.iconst 4, 1) := by decide +kernel
theorem dX2_setFeltAs_6 : decode cX2_setFeltAs 6 = .ok (.imul, 1) := by decide +kernel
theorem dX2_setFeltAs_7 : decode cX2_setFeltAs 7 = .ok (.iload_n 2, 1) := by decide +kernel
theorem dX2_setFeltAs_8 : decode cX2_setFeltAs 8 = .ok (.iadd, 1) := by decide +kernel
theorem dX2_setFeltAs_9 : decode cX2_setFeltAs 9 = .ok (.iconst 4, 1) := by decide +kernel
theorem dX2_setFeltAs_10 : decode cX2_setFeltAs 10 = .ok (.imul, 1) := by decide +kernel
theorem dX2_setFeltAs_11 : decode cX2_setFeltAs 11 = .ok (.iload_n 3, 1) := by decide +kernel
theorem dX2_setFeltAs_12 : decode cX2_setFeltAs 12 = .ok (.iadd, 1) := by decide +kernel
theorem dX2_setFeltAs_13 : decode cX2_setFeltAs 13 = .ok (.iload 4, 2) := by decide +kernel
theorem dX2_setFeltAs_15 : decode cX2_setFeltAs 15 = .ok (.invokestatic 126, 3) := by decide +kernel
theorem dX2_setFeltAs_18 : decode cX2_setFeltAs 18 = .ok (.return_, 1) := by decide +kernel
theorem dX2_setLent_0 : decode cX2_setLent 0 = .ok (.aload_n 0, 1) := by decide +kernel
theorem dX2_setLent_1 : decode cX2_setLent 1 = .ok (.iload_n 1, 1) := by decide +kernel
theorem dX2_setLent_2 : decode cX2_setLent 2 = .ok (.invokevirtual 97, 3) := by decide +kernel
theorem dX2_setLent_5 : decode cX2_setLent 5 = .ok (.ifCond .ne 4, 3) := by decide +kernel
theorem dX2_setLent_8 : decode cX2_setLent 8 = .ok (.return_, 1) := by decide +kernel
theorem dX2_setLent_9 : decode cX2_setLent 9 = .ok (.aload_n 0, 1) := by decide +kernel
theorem dX2_setLent_10 : decode cX2_setLent 10 = .ok (.iload_n 2, 1) := by decide +kernel
theorem dX2_setLent_11 : decode cX2_setLent 11 = .ok (.ifCond .eq 14, 3) := by decide +kernel
theorem dX2_setLent_14 : decode cX2_setLent 14 = .ok (.aload_n 0, 1) := by decide +kernel
theorem dX2_setLent_15 : decode cX2_setLent 15 = .ok (.getfield 56, 3) := by decide +kernel
theorem dX2_setLent_18 : decode cX2_setLent 18 = .ok (.iconst 1, 1) := by decide +kernel
theorem dX2_setLent_19 : decode cX2_setLent 19 = .ok (.iload_n 1, 1) := by decide +kernel
theorem dX2_setLent_20 : decode cX2_setLent 20 = .ok (.ishl, 1) := by decide +kernel
theorem dX2_setLent_21 : decode cX2_setLent 21 = .ok (.ior, 1) := by decide +kernel
theorem dX2_setLent_22 : decode cX2_setLent 22 = .ok (.goto 13, 3) := by decide +kernel
theorem dX2_setLent_25 : decode cX2_setLent 25 = .ok (.aload_n 0, 1) := by decide +kernel
theorem dX2_setLent_26 : decode cX2_setLent 26 = .ok (.getfield 56, 3) := by decide +kernel
theorem dX2_setLent_29 : decode cX2_setLent 29 = .ok (.iconst 1, 1) := by decide +kernel
theorem dX2_setLent_30 : decode cX2_setLent 30 = .ok (.iload_n 1, 1) := by decide +kernel
theorem dX2_setLent_31 : decode cX2_setLent 31 = .ok (.ishl, 1) := by decide +kernel
theorem dX2_setLent_32 : decode cX2_setLent 32 = .ok (.iconst (-1), 1) := by decide +kernel
theorem dX2_setLent_33 : decode cX2_setLent 33 = .ok (.ixor, 1) := by decide +kernel
theorem dX2_setLent_34 : decode cX2_setLent 34 = .ok (.iand, 1) := by decide +kernel
theorem dX2_setLent_35 : decode cX2_setLent 35 = .ok (.putfield 56, 3) := by decide +kernel
theorem dX2_setLent_38 : decode cX2_setLent 38 = .ok (.return_, 1) := by decide +kernel
theorem dX2_setOn_0 : decode cX2_setOn 0 = .ok (.iconst 0, 1) := by decide +kernel
theorem dX2_setOn_1 : decode cX2_setOn 1 = .ok (.istore_n 2, 1) := by decide +kernel
theorem dX2_setOn_2 : decode cX2_setOn 2 = .ok (.iconst 0, 1) := by decide +kernel
theorem dX2_setOn_3 : decode cX2_setOn 3 = .ok (.istore_n 3, 1) := by decide +kernel
theorem dX2_setOn_4 : decode cX2_setOn 4 = .ok (.iload_n 3, 1) := by decide +kernel
theorem dX2_setOn_5 : decode cX2_setOn 5 = .ok (.aload_n 0, 1) := by decide +kernel
theorem dX2_setOn_6 : decode cX2_setOn 6 = .ok (.iload_n 1, 1) := by decide +kernel
theorem dX2_setOn_7 : decode cX2_setOn 7 = .ok (.invokevirtual 113, 3) := by decide +kernel
theorem dX2_setOn_10 : decode cX2_setOn 10 = .ok (.if_icmp .ge 20, 3) := by decide +kernel
theorem dX2_setOn_13 : decode cX2_setOn 13 = .ok (.iload_n 2, 1) := by decide +kernel
theorem dX2_setOn_14 : decode cX2_setOn 14 = .ok (.iconst 1, 1) := by decide +kernel
theorem dX2_setOn_15 : decode cX2_setOn 15 = .ok (.aload_n 0, 1) := by decide +kernel
theorem dX2_setOn_16 : decode cX2_setOn 16 = .ok (.iload_n 1, 1) := by decide +kernel
theorem dX2_setOn_17 : decode cX2_setOn 17 = .ok (.iload_n 3, 1) := by decide +kernel
theorem dX2_setOn_18 : decode cX2_setOn 18 = .ok (.invokevirtual 116, 3) := by decide +kernel
theorem dX2_setOn_21 : decode cX2_setOn 21 = .ok (.ishl, 1) := by decide +kernel
theorem dX2_setOn_22 : decode cX2_setOn 22 = .ok (.ior, 1) := by decide +kernel
theorem dX2_setOn_23 : decode cX2_setOn 23 = .ok (.istore_n 2, 1) := by decide +kernel
theorem dX2_setOn_24 : decode cX2_setOn 24 = .ok (.iinc 3 1, 3) := by decide +kernel
theorem dX2_setOn_27 : decode cX2_setOn 27 = .ok (.goto (-23), 3) := by decide +kernel
theorem dX2_setOn_30 : decode cX2_setOn 30 = .ok (.iload_n 2, 1) := by decide +kernel
theorem dX2_setOn_31 : decode cX2_setOn 31 = .ok (.ireturn, 1) := by decide +kernel
theorem dX2_setSeconds_0 : decode cX2_setSeconds 0 = .ok (.aload_n 0, 1) := by decide +kernel
theorem dX2_setSeconds_1 : decode cX2_setSeconds 1 = .ok (.getfield 40, 3) := by decide +kernel
theorem dX2_setSeconds_4 : decode cX2_setSeconds 4 = .ok (.iload_n 1, 1) := by decide +kernel
theorem dX2_setSeconds_5 : decode cX2_setSeconds 5 = .ok (.iload_n 2, 1) := by decide +kernel
theorem dX2_setSeconds_6 : decode cX2_setSeconds 6 = .ok (.invokestatic 126, 3) := by decide +kernel
theorem dX2_setSeconds_9 : decode cX2_setSeconds 9 = .ok (.return_, 1) := by decide +kernel
theorem dX2_setStep_0 : decode cX2_setStep 0 = .ok (.aload_n 0, 1) := by decide +kernel
theorem dX2_setStep_1 : decode cX2_setStep 1 = .ok (.getfield 25, 3) := by decide +kernel
theorem dX2_setStep_4 : decode cX2_setStep 4 = .ok (.iload_n 1, 1) := by decide +kernel
theorem dX2_setStep_5 : decode cX2_setStep 5 = .ok (.iconst 3, 1) := by decide +kernel
theorem dX2_setStep_6 : decode cX2_setStep 6 = .ok (.imul, 1) := by decide +kernel
theorem dX2_setStep_7 : decode cX2_setStep 7 = .ok (.iload_n 2, 1) := by decide +kernel
theorem dX2_setStep_8 : decode cX2_setStep 8 = .ok (.iadd, 1) := by decide +kernel
theorem dX2_setStep_9 : decode cX2_setStep 9 = .ok (.iload_n 3, 1) := by decide +kernel
theorem dX2_setStep_10 : decode cX2_setStep 10 = .ok (.invokestatic 126, 3) := by decide +kernel
theorem dX2_setStep_13 : decode cX2_setStep 13 = .ok (.return_, 1) := by decide +kernel
theorem dX2_stepAt_0 : decode cX2_stepAt 0 = .ok (.aload_n 0, 1) := by decide +kernel
theorem dX2_stepAt_1 : decode cX2_stepAt 1 = .ok (.iload_n 1, 1) := by decide +kernel
theorem dX2_stepAt_2 : decode cX2_stepAt 2 = .ok (.invokevirtual 97, 3) := by decide +kernel
theorem dX2_stepAt_5 : decode cX2_stepAt 5 = .ok (.ifCond .eq 11, 3) := by decide +kernel
theorem dX2_stepAt_8 : decode cX2_stepAt 8 = .ok (.aload_n 0, 1) := by decide +kernel
theorem dX2_stepAt_9 : decode cX2_stepAt 9 = .ok (.iload_n 2, 1) := by decide +kernel
theorem dX2_stepAt_10 : decode cX2_stepAt 10 = .ok (.invokevirtual 85, 3) := by decide +kernel
theorem dX2_stepAt_13 : decode cX2_stepAt 13 = .ok (.ifCond .ne 5, 3) := by decide +kernel
theorem dX2_stepAt_16 : decode cX2_stepAt 16 = .ok (.iconst (-1), 1) := by decide +kernel
theorem dX2_stepAt_17 : decode cX2_stepAt 17 = .ok (.ireturn, 1) := by decide +kernel
theorem dX2_stepAt_18 : decode cX2_stepAt 18 = .ok (.aload_n 0, 1) := by decide +kernel
theorem dX2_stepAt_19 : decode cX2_stepAt 19 = .ok (.getfield 25, 3) := by decide +kernel
theorem dX2_stepAt_22 : decode cX2_stepAt 22 = .ok (.iload_n 1, 1) := by decide +kernel
theorem dX2_stepAt_23 : decode cX2_stepAt 23 = .ok (.iconst 3, 1) := by decide +kernel
theorem dX2_stepAt_24 : decode cX2_stepAt 24 = .ok (.imul, 1) := by decide +kernel
theorem dX2_stepAt_25 : decode cX2_stepAt 25 = .ok (.iload_n 2, 1) := by decide +kernel
theorem dX2_stepAt_26 : decode cX2_stepAt 26 = .ok (.iadd, 1) := by decide +kernel
theorem dX2_stepAt_27 : decode cX2_stepAt 27 = .ok (.invokestatic 89, 3) := by decide +kernel
theorem dX2_stepAt_30 : decode cX2_stepAt 30 = .ok (.istore 4, 2) := by decide +kernel
theorem dX2_stepAt_32 : decode cX2_stepAt 32 = .ok (.iload_n 3, 1) := by decide +kernel
theorem dX2_stepAt_33 : decode cX2_stepAt 33 = .ok (.iconst 1, 1) := by decide +kernel
theorem dX2_stepAt_34 : decode cX2_stepAt 34 = .ok (.if_icmp .ne 19, 3) := by decide +kernel
theorem dX2_stepAt_37 : decode cX2_stepAt 37 = .ok (.aload_n 0, 1) := by decide +kernel
theorem dX2_stepAt_38 : decode cX2_stepAt 38 = .ok (.getfield 19, 3) := by decide +kernel
theorem dX2_stepAt_41 : decode cX2_stepAt 41 = .ok (.iload_n 2, 1) := by decide +kernel
theorem dX2_stepAt_42 : decode cX2_stepAt 42 = .ok (.invokestatic 89, 3) := by decide +kernel
theorem dX2_stepAt_45 : decode cX2_stepAt 45 = .ok (.iconst 1, 1) := by decide +kernel
theorem dX2_stepAt_46 : decode cX2_stepAt 46 = .ok (.if_icmp .ne 7, 3) := by decide +kernel
theorem dX2_stepAt_49 : decode cX2_stepAt 49 = .ok (.iconst 1, 1) := by decide +kernel
theorem dX2_stepAt_50 : decode cX2_stepAt 50 = .ok (.goto 4, 3) := by decide +kernel
theorem dX2_stepAt_53 : decode cX2_stepAt 53 = .ok (.iconst 0, 1) := by decide +kernel
theorem dX2_stepAt_54 : decode cX2_stepAt 54 = .ok (.istore 5, 2) := by decide +kernel
theorem dX2_stepAt_56 : decode cX2_stepAt 56 = .ok (.iload 5, 2) := by decide +kernel
theorem dX2_stepAt_58 : decode cX2_stepAt 58 = .ok (.ifCond .eq 19, 3) := by decide +kernel
theorem dX2_stepAt_61 : decode cX2_stepAt 61 = .ok (.aload_n 0, 1) := by decide +kernel
theorem dX2_stepAt_62 : decode cX2_stepAt 62 = .ok (.getfield 15, 3) := by decide +kernel
theorem dX2_stepAt_65 : decode cX2_stepAt 65 = .ok (.iload_n 2, 1) := by decide +kernel
theorem dX2_stepAt_66 : decode cX2_stepAt 66 = .ok (.invokestatic 89, 3) := by decide +kernel
theorem dX2_stepAt_69 : decode cX2_stepAt 69 = .ok (.iconst 1, 1) := by decide +kernel
theorem dX2_stepAt_70 : decode cX2_stepAt 70 = .ok (.isub, 1) := by decide +kernel
theorem dX2_stepAt_71 : decode cX2_stepAt 71 = .ok (.iload 4, 2) := by decide +kernel
theorem dX2_stepAt_73 : decode cX2_stepAt 73 = .ok (.isub, 1) := by decide +kernel
theorem dX2_stepAt_74 : decode cX2_stepAt 74 = .ok (.goto 5, 3) := by decide +kernel
theorem dX2_stepAt_77 : decode cX2_stepAt 77 = .ok (.iload 4, 2) := by decide +kernel
theorem dX2_stepAt_79 : decode cX2_stepAt 79 = .ok (.ireturn, 1) := by decide +kernel
theorem dX2_stepsOf_0 : decode cX2_stepsOf 0 = .ok (.aload_n 0, 1) := by decide +kernel
theorem dX2_stepsOf_1 : decode cX2_stepsOf 1 = .ok (.iload_n 1, 1) := by decide +kernel
theorem dX2_stepsOf_2 : decode cX2_stepsOf 2 = .ok (.invokevirtual 85, 3) := by decide +kernel
theorem dX2_stepsOf_5 : decode cX2_stepsOf 5 = .ok (.ifCond .eq 14, 3) := by decide +kernel
theorem dX2_stepsOf_8 : decode cX2_stepsOf 8 = .ok (.aload_n 0, 1) := by decide +kernel
theorem dX2_stepsOf_9 : decode cX2_stepsOf 9 = .ok (.getfield 15, 3) := by decide +kernel
theorem dX2_stepsOf_12 : decode cX2_stepsOf 12 = .ok (.iload_n 1, 1) := by decide +kernel
theorem dX2_stepsOf_13 : decode cX2_stepsOf 13 = .ok (.invokestatic 89, 3) := by decide +kernel
theorem dX2_stepsOf_16 : decode cX2_stepsOf 16 = .ok (.goto 4, 3) := by decide +kernel
theorem dX2_stepsOf_19 : decode cX2_stepsOf 19 = .ok (.iconst 0, 1) := by decide +kernel
theorem dX2_stepsOf_20 : decode cX2_stepsOf 20 = .ok (.ireturn, 1) := by decide +kernel
theorem dX2_takeOff_0 : decode cX2_takeOff 0 = .ok (.aload_n 0, 1) := by decide +kernel
theorem dX2_takeOff_1 : decode cX2_takeOff 1 = .ok (.iload_n 2, 1) := by decide +kernel
theorem dX2_takeOff_2 : decode cX2_takeOff 2 = .ok (.iload_n 1, 1) := by decide +kernel
theorem dX2_takeOff_3 : decode cX2_takeOff 3 = .ok (.invokevirtual 120, 3) := by decide +kernel
theorem dX2_takeOff_6 : decode cX2_takeOff 6 = .ok (.istore_n 3, 1) := by decide +kernel
theorem dX2_takeOff_7 : decode cX2_takeOff 7 = .ok (.iload_n 3, 1) := by decide +kernel
theorem dX2_takeOff_8 : decode cX2_takeOff 8 = .ok (.iconst (-1), 1) := by decide +kernel
theorem dX2_takeOff_9 : decode cX2_takeOff 9 = .ok (.if_icmp .ne 4, 3) := by decide +kernel
theorem dX2_takeOff_12 : decode cX2_takeOff 12 = .ok (.return_, 1) := by decide +kernel
theorem dX2_takeOff_13 : decode cX2_takeOff 13 = .ok (.aload_n 0, 1) := by decide +kernel
theorem dX2_takeOff_14 : decode cX2_takeOff 14 = .ok (.iload_n 2, 1) := by decide +kernel
theorem dX2_takeOff_15 : decode cX2_takeOff 15 = .ok (.invokevirtual 113, 3) := by decide +kernel
theorem dX2_takeOff_18 : decode cX2_takeOff 18 = .ok (.iconst 1, 1) := by decide +kernel
theorem dX2_takeOff_19 : decode cX2_takeOff 19 = .ok (.isub, 1) := by decide +kernel
theorem dX2_takeOff_20 : decode cX2_takeOff 20 = .ok (.istore 4, 2) := by decide +kernel
theorem dX2_takeOff_22 : decode cX2_takeOff 22 = .ok (.iload_n 3, 1) := by decide +kernel
theorem dX2_takeOff_23 : decode cX2_takeOff 23 = .ok (.istore 5, 2) := by decide +kernel
theorem dX2_takeOff_25 : decode cX2_takeOff 25 = .ok (.iload 5, 2) := by decide +kernel
theorem dX2_takeOff_27 : decode cX2_takeOff 27 = .ok (.iload 4, 2) := by decide +kernel
theorem dX2_takeOff_29 : decode cX2_takeOff 29 = .ok (.if_icmp .ge 25, 3) := by decide +kernel
theorem dX2_takeOff_32 : decode cX2_takeOff 32 = .ok (.aload_n 0, 1) := by decide +kernel
theorem dX2_takeOff_33 : decode cX2_takeOff 33 = .ok (.iload_n 2, 1) := by decide +kernel
theorem dX2_takeOff_34 : decode cX2_takeOff 34 = .ok (.iload 5, 2) := by decide +kernel
theorem dX2_takeOff_36 : decode cX2_takeOff 36 = .ok (.aload_n 0, 1) := by decide +kernel
theorem dX2_takeOff_37 : decode cX2_takeOff 37 = .ok (.iload_n 2, 1) := by decide +kernel
theorem dX2_takeOff_38 : decode cX2_takeOff 38 = .ok (.iload 5, 2) := by decide +kernel
theorem dX2_takeOff_40 : decode cX2_takeOff 40 = .ok (.iconst 1, 1) := by decide +kernel
theorem dX2_takeOff_41 : decode cX2_takeOff 41 = .ok (.iadd, 1) := by decide +kernel
theorem dX2_takeOff_42 : decode cX2_takeOff 42 = .ok (.invokevirtual 116, 3) := by decide +kernel
theorem dX2_takeOff_45 : decode cX2_takeOff 45 = .ok (.invokevirtual 148, 3) := by decide +kernel
theorem dX2_takeOff_48 : decode cX2_takeOff 48 = .ok (.iinc 5 1, 3) := by decide +kernel
theorem dX2_takeOff_51 : decode cX2_takeOff 51 = .ok (.goto (-26), 3) := by decide +kernel
theorem dX2_takeOff_54 : decode cX2_takeOff 54 = .ok (.aload_n 0, 1) := by decide +kernel
theorem dX2_takeOff_55 : decode cX2_takeOff 55 = .ok (.getfield 31, 3) := by decide +kernel
theorem dX2_takeOff_58 : decode cX2_takeOff 58 = .ok (.iload_n 2, 1) := by decide +kernel
theorem dX2_takeOff_59 : decode cX2_takeOff 59 = .ok (.iload 4, 2) := by decide +kernel
theorem dX2_takeOff_61 : decode cX2_takeOff 61 = .ok (.invokestatic 126, 3) := by decide +kernel
theorem dX2_takeOff_64 : decode cX2_takeOff 64 = .ok (.return_, 1) := by decide +kernel
theorem dX2_unlocks_0 : decode cX2_unlocks 0 = .ok (.aload_n 0, 1) := by decide +kernel
theorem dX2_unlocks_1 : decode cX2_unlocks 1 = .ok (.iload_n 2, 1) := by decide +kernel
theorem dX2_unlocks_2 : decode cX2_unlocks 2 = .ok (.invokevirtual 107, 3) := by decide +kernel
theorem dX2_unlocks_5 : decode cX2_unlocks 5 = .ok (.ifCond .eq 31, 3) := by decide +kernel
theorem dX2_unlocks_8 : decode cX2_unlocks 8 = .ok (.aload_n 0, 1) := by decide +kernel
theorem dX2_unlocks_9 : decode cX2_unlocks 9 = .ok (.iload_n 1, 1) := by decide +kernel
theorem dX2_unlocks_10 : decode cX2_unlocks 10 = .ok (.invokevirtual 97, 3) := by decide +kernel
theorem dX2_unlocks_13 : decode cX2_unlocks 13 = .ok (.ifCond .eq 23, 3) := by decide +kernel
theorem dX2_unlocks_16 : decode cX2_unlocks 16 = .ok (.aload_n 0, 1) := by decide +kernel
theorem dX2_unlocks_17 : decode cX2_unlocks 17 = .ok (.getfield 37, 3) := by decide +kernel
theorem dX2_unlocks_20 : decode cX2_unlocks 20 = .ok (.iload_n 2, 1) := by decide +kernel
theorem dX2_unlocks_21 : decode cX2_unlocks 21 = .ok (.invokestatic 89, 3) := by decide +kernel
theorem dX2_unlocks_24 : decode cX2_unlocks 24 = .ok (.iload_n 1, 1) := by decide +kernel
theorem dX2_unlocks_25 : decode cX2_unlocks 25 = .ok (.ishr, 1) := by decide +kernel
theorem dX2_unlocks_26 : decode cX2_unlocks 26 = .ok (.iconst 1, 1) := by decide +kernel
theorem dX2_unlocks_27 : decode cX2_unlocks 27 = .ok (.iand, 1) := by decide +kernel
theorem dX2_unlocks_28 : decode cX2_unlocks 28 = .ok (.iconst 1, 1) := by decide +kernel
theorem dX2_unlocks_29 : decode cX2_unlocks 29 = .ok (.if_icmp .ne 7, 3) := by decide +kernel
theorem dX2_unlocks_32 : decode cX2_unlocks 32 = .ok (.iconst 1, 1) := by decide +kernel
theorem dX2_unlocks_33 : decode cX2_unlocks 33 = .ok (.goto 4, 3) := by decide +kernel
theorem dX2_unlocks_36 : decode cX2_unlocks 36 = .ok (.iconst 0, 1) := by decide +kernel
theorem dX2_unlocks_37 : decode cX2_unlocks 37 = .ok (.ireturn, 1) := by decide +kernel
theorem dX2_wantedOf_0 : decode cX2_wantedOf 0 = .ok (.aload_n 0, 1) := by decide +kernel
theorem dX2_wantedOf_1 : decode cX2_wantedOf 1 = .ok (.iload_n 1, 1) := by decide +kernel
theorem dX2_wantedOf_2 : decode cX2_wantedOf 2 = .ok (.invokevirtual 107, 3) := by decide +kernel
theorem dX2_wantedOf_5 : decode cX2_wantedOf 5 = .ok (.ifCond .eq 14, 3) := by decide +kernel
theorem dX2_wantedOf_8 : decode cX2_wantedOf 8 = .ok (.aload_n 0, 1) := by decide +kernel
theorem dX2_wantedOf_9 : decode cX2_wantedOf 9 = .ok (.getfield 34, 3) := by decide +kernel
theorem dX2_wantedOf_12 : decode cX2_wantedOf 12 = .ok (.iload_n 1, 1) := by decide +kernel
theorem dX2_wantedOf_13 : decode cX2_wantedOf 13 = .ok (.invokestatic 89, 3) := by decide +kernel
theorem dX2_wantedOf_16 : decode cX2_wantedOf 16 = .ok (.goto 4, 3) := by decide +kernel
theorem dX2_wantedOf_19 : decode cX2_wantedOf 19 = .ok (.iconst 0, 1) := by decide +kernel
theorem dX2_wantedOf_20 : decode cX2_wantedOf 20 = .ok (.ireturn, 1) := by decide +kernel
theorem dX3_isTaken_0 : decode cX3_isTaken 0 = .ok (.lload_n 1, 1) := by decide +kernel
theorem dX3_isTaken_1 : decode cX3_isTaken 1 = .ok (.aload_n 0, 1) := by decide +kernel
theorem dX3_isTaken_2 : decode cX3_isTaken 2 = .ok (.getfield 18, 3) := by decide +kernel
theorem dX3_isTaken_5 : decode cX3_isTaken 5 = .ok (.aload_n 0, 1) := by decide +kernel
theorem dX3_isTaken_6 : decode cX3_isTaken 6 = .ok (.getfield 12, 3) := by decide +kernel
theorem dX3_isTaken_9 : decode cX3_isTaken 9 = .ok (.getfield 116, 3) := by decide +kernel
theorem dX3_isTaken_12 : decode cX3_isTaken 12 = .ok (.invokestatic 119, 3) := by decide +kernel
theorem dX3_isTaken_15 : decode cX3_isTaken 15 = .ok (.iconst (-1), 1) := by decide +kernel
theorem dX3_isTaken_16 : decode cX3_isTaken 16 = .ok (.if_icmp .ne 60, 3) := by decide +kernel
theorem dX3_isTaken_19 : decode cX3_isTaken 19 = .ok (.lload_n 1, 1) := by decide +kernel
theorem dX3_isTaken_20 : decode cX3_isTaken 20 = .ok (.aload_n 0, 1) := by decide +kernel
theorem dX3_isTaken_21 : decode cX3_isTaken 21 = .ok (.getfield 22, 3) := by decide +kernel
theorem dX3_isTaken_24 : decode cX3_isTaken 24 = .ok (.aload_n 0, 1) := by decide +kernel
theorem dX3_isTaken_25 : decode cX3_isTaken 25 = .ok (.getfield 12, 3) := by decide +kernel
theorem dX3_isTaken_28 : decode cX3_isTaken 28 = .ok (.getfield 123, 3) := by decide +kernel
theorem dX3_isTaken_31 : decode cX3_isTaken 31 = .ok (.invokestatic 119, 3) := by decide +kernel
theorem dX3_isTaken_34 : decode cX3_isTaken 34 = .ok (.iconst (-1), 1) := by decide +kernel
theorem dX3_isTaken_35 : decode cX3_isTaken 35 = .ok (.if_icmp .ne 41, 3) := by decide +kernel
theorem dX3_isTaken_38 : decode cX3_isTaken 38 = .ok (.lload_n 1, 1) := by decide +kernel
theorem dX3_isTaken_39 : decode cX3_isTaken 39 = .ok (.aload_n 0, 1) := by decide +kernel
theorem dX3_isTaken_40 : decode cX3_isTaken 40 = .ok (.getfield 25, 3) := by decide +kernel
theorem dX3_isTaken_43 : decode cX3_isTaken 43 = .ok (.aload_n 0, 1) := by decide +kernel
theorem dX3_isTaken_44 : decode cX3_isTaken 44 = .ok (.getfield 12, 3) := by decide +kernel
theorem dX3_isTaken_47 : decode cX3_isTaken 47 = .ok (.getfield 126, 3) := by decide +kernel
theorem dX3_isTaken_50 : decode cX3_isTaken 50 = .ok (.invokestatic 119, 3) := by decide +kernel
theorem dX3_isTaken_53 : decode cX3_isTaken 53 = .ok (.iconst (-1), 1) := by decide +kernel
theorem dX3_isTaken_54 : decode cX3_isTaken 54 = .ok (.if_icmp .ne 22, 3) := by decide +kernel
theorem dX3_isTaken_57 : decode cX3_isTaken 57 = .ok (.lload_n 1, 1) := by decide +kernel
theorem dX3_isTaken_58 : decode cX3_isTaken 58 = .ok (.aload_n 0, 1) := by decide +kernel
theorem dX3_isTaken_59 : decode cX3_isTaken 59 = .ok (.getfield 28, 3) := by decide +kernel
theorem dX3_isTaken_62 : decode cX3_isTaken 62 = .ok (.aload_n 0, 1) := by decide +kernel
theorem dX3_isTaken_63 : decode cX3_isTaken 63 = .ok (.getfield 12, 3) := by decide +kernel
theorem dX3_isTaken_66 : decode cX3_isTaken 66 = .ok (.getfield 129, 3) := by decide +kernel
theorem dX3_isTaken_69 : decode cX3_isTaken 69 = .ok (.invokestatic 119, 3) := by decide +kernel
theorem dX3_isTaken_72 : decode cX3_isTaken 72 = .ok (.iconst (-1), 1) := by decide +kernel
theorem dX3_isTaken_73 : decode cX3_isTaken 73 = .ok (.if_icmp .eq 7, 3) := by decide +kernel
theorem dX3_isTaken_76 : decode cX3_isTaken 76 = .ok (.iconst 1, 1) := by decide +kernel
theorem dX3_isTaken_77 : decode cX3_isTaken 77 = .ok (.goto 4, 3) := by decide +kernel
theorem dX3_isTaken_80 : decode cX3_isTaken 80 = .ok (.iconst 0, 1) := by decide +kernel
theorem dX3_isTaken_81 : decode cX3_isTaken 81 = .ok (.ireturn, 1) := by decide +kernel
theorem dX3_placeOf_0 : decode cX3_placeOf 0 = .ok (.iconst 0, 1) := by decide +kernel
theorem dX3_placeOf_1 : decode cX3_placeOf 1 = .ok (.istore 4, 2) := by decide +kernel
theorem dX3_placeOf_3 : decode cX3_placeOf 3 = .ok (.iload 4, 2) := by decide +kernel
theorem dX3_placeOf_5 : decode cX3_placeOf 5 = .ok (.iload_n 3, 1) := by decide +kernel
theorem dX3_placeOf_6 : decode cX3_placeOf 6 = .ok (.if_icmp .ge 23, 3) := by decide +kernel
theorem dX3_placeOf_9 : decode cX3_placeOf 9 = .ok (.aload_n 2, 1) := by decide +kernel
theorem dX3_placeOf_10 : decode cX3_placeOf 10 = .ok (.iload 4, 2) := by decide +kernel
theorem dX3_placeOf_12 : decode cX3_placeOf 12 = .ok (.invokestatic 112, 3) := by decide +kernel
theorem dX3_placeOf_15 : decode cX3_placeOf 15 = .ok (.lload_n 0, 1) := by decide +kernel
theorem dX3_placeOf_16 : decode cX3_placeOf 16 = .ok (.lcmp, 1) := by decide +kernel
theorem dX3_placeOf_17 : decode cX3_placeOf 17 = .ok (.ifCond .ne 6, 3) := by decide +kernel
theorem dX3_placeOf_20 : decode cX3_placeOf 20 = .ok (.iload 4, 2) := by decide +kernel
theorem dX3_placeOf_22 : decode cX3_placeOf 22 = .ok (.ireturn, 1) := by decide +kernel
theorem dX3_placeOf_23 : decode cX3_placeOf 23 = .ok (.iinc 4 1, 3) := by decide +kernel
theorem dX3_placeOf_26 : decode cX3_placeOf 26 = .ok (.goto (-23), 3) := by decide +kernel
theorem dX3_placeOf_29 : decode cX3_placeOf 29 = .ok (.iconst (-1), 1) := by decide +kernel
theorem dX3_placeOf_30 : decode cX3_placeOf 30 = .ok (.ireturn, 1) := by decide +kernel
theorem dX3_readAll_0 : decode cX3_readAll 0 = .ok (.aload_n 0, 1) := by decide +kernel
theorem dX3_readAll_1 : decode cX3_readAll 1 = .ok (.getfield 12, 3) := by decide +kernel
theorem dX3_readAll_4 : decode cX3_readAll 4 = .ok (.invokevirtual 35, 3) := by decide +kernel
theorem dX3_readAll_7 : decode cX3_readAll 7 = .ok (.aload_n 0, 1) := by decide +kernel
theorem dX3_readAll_8 : decode cX3_readAll 8 = .ok (.iconst 0, 1) := by decide +kernel
theorem dX3_readAll_9 : decode cX3_readAll 9 = .ok (.putfield 38, 3) := by decide +kernel
theorem dX3_readAll_12 : decode cX3_readAll 12 = .ok (.aload_n 0, 1) := by decide +kernel
theorem dX3_readAll_13 : decode cX3_readAll 13 = .ok (.iconst 0, 1) := by decide +kernel
theorem dX3_readAll_14 : decode cX3_readAll 14 = .ok (.putfield 42, 3) := by decide +kernel
theorem dX3_readAll_17 : decode cX3_readAll 17 = .ok (.aload_n 0, 1) := by decide +kernel
theorem dX3_readAll_18 : decode cX3_readAll 18 = .ok (.iconst 0, 1) := by decide +kernel
theorem dX3_readAll_19 : decode cX3_readAll 19 = .ok (.putfield 45, 3) := by decide +kernel
theorem dX3_readAll_22 : decode cX3_readAll 22 = .ok (.aload_n 0, 1) := by decide +kernel
theorem dX3_readAll_23 : decode cX3_readAll 23 = .ok (.iconst 0, 1) := by decide +kernel
theorem dX3_readAll_24 : decode cX3_readAll 24 = .ok (.putfield 49, 3) := by decide +kernel
theorem dX3_readAll_27 : decode cX3_readAll 27 = .ok (.iconst 0, 1) := by decide +kernel
theorem dX3_readAll_28 : decode cX3_readAll 28 = .ok (.istore_n 1, 1) := by decide +kernel
theorem dX3_readAll_29 : decode cX3_readAll 29 = .ok (.iload_n 1, 1) := by decide +kernel
theorem dX3_readAll_30 : decode cX3_readAll 30 = .ok (.sipush 900, 3) := by decide +kernel
theorem dX3_readAll_33 : decode cX3_readAll 33 = .ok (.if_icmp .ge 24, 3) := by decide +kernel
theorem dX3_readAll_36 : decode cX3_readAll 36 = .ok (.aload_n 0, 1) := by decide +kernel
theorem dX3_readAll_37 : decode cX3_readAll 37 = .ok (.getfield 31, 3) := by decide +kernel
theorem dX3_readAll_40 : decode cX3_readAll 40 = .ok (.invokevirtual 54, 3) := by decide +kernel
theorem dX3_readAll_43 : decode cX3_readAll 43 = .ok (.ifCond .eq 14, 3) := by decide +kernel
theorem dX3_readAll_46 : decode cX3_readAll 46 = .ok (.aload_n 0, 1) := by decide +kernel
theorem dX3_readAll_47 : decode cX3_readAll 47 = .ok (.invokevirtual 58, 3) := by decide +kernel
theorem dX3_readAll_50 : decode cX3_readAll 50 = .ok (.pop, 1) := by decide +kernel
theorem dX3_readAll_51 : decode cX3_readAll 51 = .ok (.iinc 1 1, 3) := by decide +kernel
theorem dX3_readAll_54 : decode cX3_readAll 54 = .ok (.goto (-25), 3) := by decide +kernel
theorem dX3_readAll_57 : decode cX3_readAll 57 = .ok (.aload_n 0, 1) := by decide +kernel
theorem dX3_readAll_58 : decode cX3_readAll 58 = .ok (.getfield 31, 3) := by decide +kernel
theorem dX3_readAll_61 : decode cX3_readAll 61 = .ok (.getfield 61, 3) := by decide +kernel
theorem dX3_readAll_64 : decode cX3_readAll 64 = .ok (.ifCond .ne 7, 3) := by decide +kernel
theorem dX3_readAll_67 : decode cX3_readAll 67 = .ok (.iconst 1, 1) := by decide +kernel
theorem dX3_readAll_68 : decode cX3_readAll 68 = .ok (.goto 4, 3) := by decide +kernel
theorem dX3_readAll_71 : decode cX3_readAll 71 = .ok (.iconst 0, 1) := by decide +kernel
theorem dX3_readAll_72 : decode cX3_readAll 72 = .ok (.ireturn, 1) := by decide +kernel
theorem dX3_readDoor_0 : decode cX3_readDoor 0 = .ok (.aload_n 0, 1) := by decide +kernel
theorem dX3_readDoor_1 : decode cX3_readDoor 1 = .ok (.getfield 12, 3) := by decide +kernel
theorem dX3_readDoor_4 : decode cX3_readDoor 4 = .ok (.getfield 129, 3) := by decide +kernel
theorem dX3_readDoor_7 : decode cX3_readDoor 7 = .ok (.iconst 5, 1) := by decide +kernel
theorem dX3_readDoor_8 : decode cX3_readDoor 8 = .ok (.if_icmp .lt 13, 3) := by decide +kernel
theorem dX3_readDoor_11 : decode cX3_readDoor 11 = .ok (.aload_n 0, 1) := by decide +kernel
theorem dX3_readDoor_12 : decode cX3_readDoor 12 = .ok (.getfield 31, 3) := by decide +kernel
theorem dX3_readDoor_15 : decode cX3_readDoor 15 = .ok (.bipush 6, 2) := by decide +kernel
theorem dX3_readDoor_17 : decode cX3_readDoor 17 = .ok (.invokevirtual 108, 3) := by decide +kernel
theorem dX3_readDoor_20 : decode cX3_readDoor 20 = .ok (.ireturn, 1) := by decide +kernel
theorem dX3_readDoor_21 : decode cX3_readDoor 21 = .ok (.aload_n 0, 1) := by decide +kernel
theorem dX3_readDoor_22 : decode cX3_readDoor 22 = .ok (.getfield 31, 3) := by decide +kernel
theorem dX3_readDoor_25 : decode cX3_readDoor 25 = .ok (.invokevirtual 143, 3) := by decide +kernel
theorem dX3_readDoor_28 : decode cX3_readDoor 28 = .ok (.aload_n 0, 1) := by decide +kernel
theorem dX3_readDoor_29 : decode cX3_readDoor 29 = .ok (.invokevirtual 146, 3) := by decide +kernel
theorem dX3_readDoor_32 : decode cX3_readDoor 32 = .ok (.lstore_n 1, 1) := by decide +kernel
theorem dX3_readDoor_33 : decode cX3_readDoor 33 = .ok (.lload_n 1, 1) := by decide +kernel
theorem dX3_readDoor_34 : decode cX3_readDoor 34 = .ok (.lconst 0, 1) := by decide +kernel
theorem dX3_readDoor_35 : decode cX3_readDoor 35 = .ok (.lcmp, 1) := by decide +kernel
theorem dX3_readDoor_36 : decode cX3_readDoor 36 = .ok (.ifCond .eq 15, 3) := by decide +kernel
theorem dX3_readDoor_39 : decode cX3_readDoor 39 = .ok (.aload_n 0, 1) := by decide +kernel
theorem dX3_readDoor_40 : decode cX3_readDoor 40 = .ok (.getfield 31, 3) := by decide +kernel
theorem dX3_readDoor_43 : decode cX3_readDoor 43 = .ok (.ldc 202, 2) := by decide +kernel
theorem dX3_readDoor_45 : decode cX3_readDoor 45 = .ok (.invokevirtual 152, 3) := by decide +kernel
theorem dX3_readDoor_48 : decode cX3_readDoor 48 = .ok (.ifCond .ne 5, 3) := by decide +kernel
theorem dX3_readDoor_51 : decode cX3_readDoor 51 = .ok (.iconst 0, 1) := by decide +kernel
theorem dX3_readDoor_52 : decode cX3_readDoor 52 = .ok (.ireturn, 1) := by decide +kernel
theorem dX3_readDoor_53 : decode cX3_readDoor 53 = .ok (.aload_n 0, 1) := by decide +kernel
theorem dX3_readDoor_54 : decode cX3_readDoor 54 = .ok (.getfield 31, 3) := by decide +kernel
theorem dX3_readDoor_57 : decode cX3_readDoor 57 = .ok (.iconst 0, 1) := by decide +kernel
theorem dX3_readDoor_58 : decode cX3_readDoor 58 = .ok (.bipush 99, 2) := by decide +kernel
theorem dX3_readDoor_60 : decode cX3_readDoor 60 = .ok (.invokevirtual 155, 3) := by decide +kernel
theorem dX3_readDoor_63 : decode cX3_readDoor 63 = .ok (.istore_n 3, 1) := by decide +kernel
theorem dX3_readDoor_64 : decode cX3_readDoor 64 = .ok (.iload_n 3, 1) := by decide +kernel
theorem dX3_readDoor_65 : decode cX3_readDoor 65 = .ok (.iconst (-1), 1) := by decide +kernel
theorem dX3_readDoor_66 : decode cX3_readDoor 66 = .ok (.if_icmp .eq 15, 3) := by decide +kernel
theorem dX3_readDoor_69 : decode cX3_readDoor 69 = .ok (.aload_n 0, 1) := by decide +kernel
theorem dX3_readDoor_70 : decode cX3_readDoor 70 = .ok (.getfield 31, 3) := by decide +kernel
theorem dX3_readDoor_73 : decode cX3_readDoor 73 = .ok (.ldc 204, 2) := by decide +kernel
theorem dX3_readDoor_75 : decode cX3_readDoor 75 = .ok (.invokevirtual 152, 3) := by decide +kernel
theorem dX3_readDoor_78 : decode cX3_readDoor 78 = .ok (.ifCond .ne 5, 3) := by decide +kernel
theorem dX3_readDoor_81 : decode cX3_readDoor 81 = .ok (.iconst 0, 1) := by decide +kernel
theorem dX3_readDoor_82 : decode cX3_readDoor 82 = .ok (.ireturn, 1) := by decide +kernel
theorem dX3_readDoor_83 : decode cX3_readDoor 83 = .ok (.aload_n 0, 1) := by decide +kernel
theorem dX3_readDoor_84 : decode cX3_readDoor 84 = .ok (.getfield 12, 3) := by decide +kernel
theorem dX3_readDoor_87 : decode cX3_readDoor 87 = .ok (.getfield 129, 3) := by decide +kernel
theorem dX3_readDoor_90 : decode cX3_readDoor 90 = .ok (.istore 4, 2) := by decide +kernel
theorem dX3_readDoor_92 : decode cX3_readDoor 92 = .ok (.aload_n 0, 1) := by decide +kernel
theorem dX3_readDoor_93 : decode cX3_readDoor 93 = .ok (.getfield 28, 3) := by decide +kernel
theorem dX3_readDoor_96 : decode cX3_readDoor 96 = .ok (.iload 4, 2) := by decide +kernel
theorem dX3_readDoor_98 : decode cX3_readDoor 98 = .ok (.lload_n 1, 1) := by decide +kernel
theorem dX3_readDoor_99 : decode cX3_readDoor 99 = .ok (.invokestatic 159, 3) := by decide +kernel
theorem dX3_readDoor_102 : decode cX3_readDoor 102 = .ok (.aload_n 0, 1) := by decide +kernel
theorem dX3_readDoor_103 : decode cX3_readDoor 103 = .ok (.getfield 12, 3) := by decide +kernel
theorem dX3_readDoor_106 : decode cX3_readDoor 106 = .ok (.iload_n 3, 1) := by decide +kernel
theorem dX3_readDoor_107 : decode cX3_readDoor 107 = .ok (.invokevirtual 206, 3) := by decide +kernel
theorem dX3_readDoor_110 : decode cX3_readDoor 110 = .ok (.iconst 0, 1) := by decide +kernel
theorem dX3_readDoor_111 : decode cX3_readDoor 111 = .ok (.istore 5, 2) := by decide +kernel
theorem dX3_readDoor_113 : decode cX3_readDoor 113 = .ok (.iload 5, 2) := by decide +kernel
theorem dX3_readDoor_115 : decode cX3_readDoor 115 = .ok (.bipush 10, 2) := by decide +kernel
theorem dX3_readDoor_117 : decode cX3_readDoor 117 = .ok (.if_icmp .gt 92, 3) := by decide +kernel
theorem dX3_readDoor_120 : decode cX3_readDoor 120 = .ok (.iload 5, 2) := by decide +kernel
theorem dX3_readDoor_122 : decode cX3_readDoor 122 = .ok (.ifCond .eq 15, 3) := by decide +kernel
theorem dX3_readDoor_125 : decode cX3_readDoor 125 = .ok (.aload_n 0, 1) := by decide +kernel
theorem dX3_readDoor_126 : decode cX3_readDoor 126 = .ok (.getfield 31, 3) := by decide +kernel
theorem dX3_readDoor_129 : decode cX3_readDoor 129 = .ok (.bipush 59, 2) := by decide +kernel
theorem dX3_readDoor_131 : decode cX3_readDoor 131 = .ok (.invokevirtual 189, 3) := by decide +kernel
theorem dX3_readDoor_134 : decode cX3_readDoor 134 = .ok (.ifCond .ne 75, 3) := by decide +kernel
theorem dX3_readDoor_137 : decode cX3_readDoor 137 = .ok (.aload_n 0, 1) := by decide +kernel
theorem dX3_readDoor_138 : decode cX3_readDoor 138 = .ok (.aload_n 0, 1) := by decide +kernel
theorem dX3_readDoor_139 : decode cX3_readDoor 139 = .ok (.getfield 22, 3) := by decide +kernel
theorem dX3_readDoor_142 : decode cX3_readDoor 142 = .ok (.aload_n 0, 1) := by decide +kernel
theorem dX3_readDoor_143 : decode cX3_readDoor 143 = .ok (.getfield 12, 3) := by decide +kernel
theorem dX3_readDoor_146 : decode cX3_readDoor 146 = .ok (.getfield 123, 3) := by decide +kernel
theorem dX3_readDoor_149 : decode cX3_readDoor 149 = .ok (.invokevirtual 171, 3) := by decide +kernel
theorem dX3_readDoor_152 : decode cX3_readDoor 152 = .ok (.istore 6, 2) := by decide +kernel
theorem dX3_readDoor_154 : decode cX3_readDoor 154 = .ok (.iload 6, 2) := by decide +kernel
theorem dX3_readDoor_156 : decode cX3_readDoor 156 = .ok (.iconst (-1), 1) := by decide +kernel
theorem dX3_readDoor_157 : decode cX3_readDoor 157 = .ok (.if_icmp .ne 5, 3) := by decide +kernel
theorem dX3_readDoor_160 : decode cX3_readDoor 160 = .ok (.iconst 0, 1) := by decide +kernel
theorem dX3_readDoor_161 : decode cX3_readDoor 161 = .ok (.ireturn, 1) := by decide +kernel
theorem dX3_readDoor_162 : decode cX3_readDoor 162 = .ok (.aload_n 0, 1) := by decide +kernel
theorem dX3_readDoor_163 : decode cX3_readDoor 163 = .ok (.getfield 12, 3) := by decide +kernel
theorem dX3_readDoor_166 : decode cX3_readDoor 166 = .ok (.iload 6, 2) := by decide +kernel
theorem dX3_readDoor_168 : decode cX3_readDoor 168 = .ok (.iload 4, 2) := by decide +kernel
theorem dX3_readDoor_170 : decode cX3_readDoor 170 = .ok (.invokevirtual 210, 3) := by decide +kernel
theorem dX3_readDoor_173 : decode cX3_readDoor 173 = .ok (.ifCond .eq 12, 3) := by decide +kernel
theorem dX3_readDoor_176 : decode cX3_readDoor 176 = .ok (.aload_n 0, 1) := by decide +kernel
theorem dX3_readDoor_177 : decode cX3_readDoor 177 = .ok (.getfield 31, 3) := by decide +kernel
theorem dX3_readDoor_180 : decode cX3_readDoor 180 = .ok (.iconst 5, 1) := by decide +kernel
theorem dX3_readDoor_181 : decode cX3_readDoor 181 = .ok (.invokevirtual 108, 3) := by decide +kernel
theorem dX3_readDoor_184 : decode cX3_readDoor 184 = .ok (.ireturn, 1) := by decide +kernel
theorem dX3_readDoor_185 : decode cX3_readDoor 185 = .ok (.aload_n 0, 1) := by decide +kernel
theorem dX3_readDoor_186 : decode cX3_readDoor 186 = .ok (.getfield 12, 3) := by decide +kernel
theorem dX3_readDoor_189 : decode cX3_readDoor 189 = .ok (.iload 4, 2) := by decide +kernel
theorem dX3_readDoor_191 : decode cX3_readDoor 191 = .ok (.iload 6, 2) := by decide +kernel
theorem dX3_readDoor_193 : decode cX3_readDoor 193 = .ok (.invokevirtual 214, 3) := by decide +kernel
theorem dX3_readDoor_196 : decode cX3_readDoor 196 = .ok (.aload_n 0, 1) := by decide +kernel
theorem dX3_readDoor_197 : decode cX3_readDoor 197 = .ok (.getfield 31, 3) := by decide +kernel
theorem dX3_readDoor_200 : decode cX3_readDoor 200 = .ok (.invokevirtual 143, 3) := by decide +kernel
theorem dX3_readDoor_203 : decode cX3_readDoor 203 = .ok (.iinc 5 1, 3) := by decide +kernel
theorem dX3_readDoor_206 : decode cX3_readDoor 206 = .ok (.goto (-93), 3) := by decide +kernel
theorem dX3_readDoor_209 : decode cX3_readDoor 209 = .ok (.aload_n 0, 1) := by decide +kernel
theorem dX3_readDoor_210 : decode cX3_readDoor 210 = .ok (.getfield 31, 3) := by decide +kernel
theorem dX3_readDoor_213 : decode cX3_readDoor 213 = .ok (.bipush 59, 2) := by decide +kernel
theorem dX3_readDoor_215 : decode cX3_readDoor 215 = .ok (.invokevirtual 167, 3) := by decide +kernel
theorem dX3_readDoor_218 : decode cX3_readDoor 218 = .ok (.ireturn, 1) := by decide +kernel
theorem dX3_readFeature_0 : decode cX3_readFeature 0 = .ok (.aload_n 0, 1) := by decide +kernel
theorem dX3_readFeature_1 : decode cX3_readFeature 1 = .ok (.getfield 12, 3) := by decide +kernel
theorem dX3_readFeature_4 : decode cX3_readFeature 4 = .ok (.getfield 116, 3) := by decide +kernel
theorem dX3_readFeature_7 : decode cX3_readFeature 7 = .ok (.iconst 3, 1) := by decide +kernel
theorem dX3_readFeature_8 : decode cX3_readFeature 8 = .ok (.if_icmp .lt 13, 3) := by decide +kernel
theorem dX3_readFeature_11 : decode cX3_readFeature 11 = .ok (.aload_n 0, 1) := by decide +kernel
theorem dX3_readFeature_12 : decode cX3_readFeature 12 = .ok (.getfield 31, 3) := by decide +kernel
theorem dX3_readFeature_15 : decode cX3_readFeature 15 = .ok (.bipush 6, 2) := by decide +kernel
theorem dX3_readFeature_17 : decode cX3_readFeature 17 = .ok (.invokevirtual 108, 3) := by decide +kernel
theorem dX3_readFeature_20 : decode cX3_readFeature 20 = .ok (.ireturn, 1) := by decide +kernel
theorem dX3_readFeature_21 : decode cX3_readFeature 21 = .ok (.aload_n 0, 1) := by decide +kernel
theorem dX3_readFeature_22 : decode cX3_readFeature 22 = .ok (.getfield 12, 3) := by decide +kernel
theorem dX3_readFeature_25 : decode cX3_readFeature 25 = .ok (.getfield 123, 3) := by decide +kernel
theorem dX3_readFeature_28 : decode cX3_readFeature 28 = .ok (.ifCond .le 13, 3) := by decide +kernel
theorem dX3_readFeature_31 : decode cX3_readFeature 31 = .ok (.aload_n 0, 1) := by decide +kernel
theorem dX3_readFeature_32 : decode cX3_readFeature 32 = .ok (.getfield 31, 3) := by decide +kernel
theorem dX3_readFeature_35 : decode cX3_readFeature 35 = .ok (.bipush 7, 2) := by decide +kernel
theorem dX3_readFeature_37 : decode cX3_readFeature 37 = .ok (.invokevirtual 108, 3) := by decide +kernel
theorem dX3_readFeature_40 : decode cX3_readFeature 40 = .ok (.ireturn, 1) := by decide +kernel
theorem dX3_readFeature_41 : decode cX3_readFeature 41 = .ok (.aload_n 0, 1) := by decide +kernel
theorem dX3_readFeature_42 : decode cX3_readFeature 42 = .ok (.getfield 31, 3) := by decide +kernel
theorem dX3_readFeature_45 : decode cX3_readFeature 45 = .ok (.invokevirtual 143, 3) := by decide +kernel
theorem dX3_readFeature_48 : decode cX3_readFeature 48 = .ok (.aload_n 0, 1) := by decide +kernel
theorem dX3_readFeature_49 : decode cX3_readFeature 49 = .ok (.invokevirtual 146, 3) := by decide +kernel
theorem dX3_readFeature_52 : decode cX3_readFeature 52 = .ok (.lstore_n 1, 1) := by decide +kernel
theorem dX3_readFeature_53 : decode cX3_readFeature 53 = .ok (.lload_n 1, 1) := by decide +kernel
theorem dX3_readFeature_54 : decode cX3_readFeature 54 = .ok (.lconst 0, 1) := by decide +kernel
theorem dX3_readFeature_55 : decode cX3_readFeature 55 = .ok (.lcmp, 1) := by decide +kernel
theorem dX3_readFeature_56 : decode cX3_readFeature 56 = .ok (.ifCond .eq 15, 3) := by decide +kernel
theorem dX3_readFeature_59 : decode cX3_readFeature 59 = .ok (.aload_n 0, 1) := by decide +kernel
theorem dX3_readFeature_60 : decode cX3_readFeature 60 = .ok (.getfield 31, 3) := by decide +kernel
theorem dX3_readFeature_63 : decode cX3_readFeature 63 = .ok (.ldc 150, 2) := by decide +kernel
theorem dX3_readFeature_65 : decode cX3_readFeature 65 = .ok (.invokevirtual 152, 3) := by decide +kernel
theorem dX3_readFeature_68 : decode cX3_readFeature 68 = .ok (.ifCond .ne 5, 3) := by decide +kernel
theorem dX3_readFeature_71 : decode cX3_readFeature 71 = .ok (.iconst 0, 1) := by decide +kernel
theorem dX3_readFeature_72 : decode cX3_readFeature 72 = .ok (.ireturn, 1) := by decide +kernel
theorem dX3_readFeature_73 : decode cX3_readFeature 73 = .ok (.aload_n 0, 1) := by decide +kernel
theorem dX3_readFeature_74 : decode cX3_readFeature 74 = .ok (.getfield 31, 3) := by decide +kernel
theorem dX3_readFeature_77 : decode cX3_readFeature 77 = .ok (.iconst 2, 1) := by decide +kernel
theorem dX3_readFeature_78 : decode cX3_readFeature 78 = .ok (.iconst 4, 1) := by decide +kernel
theorem dX3_readFeature_79 : decode cX3_readFeature 79 = .ok (.invokevirtual 155, 3) := by decide +kernel
theorem dX3_readFeature_82 : decode cX3_readFeature 82 = .ok (.istore_n 3, 1) := by decide +kernel
theorem dX3_readFeature_83 : decode cX3_readFeature 83 = .ok (.iload_n 3, 1) := by decide +kernel
theorem dX3_readFeature_84 : decode cX3_readFeature 84 = .ok (.iconst (-1), 1) := by decide +kernel
theorem dX3_readFeature_85 : decode cX3_readFeature 85 = .ok (.if_icmp .ne 5, 3) := by decide +kernel
theorem dX3_readFeature_88 : decode cX3_readFeature 88 = .ok (.iconst 0, 1) := by decide +kernel
theorem dX3_readFeature_89 : decode cX3_readFeature 89 = .ok (.ireturn, 1) := by decide +kernel
theorem dX3_readFeature_90 : decode cX3_readFeature 90 = .ok (.aload_n 0, 1) := by decide +kernel
theorem dX3_readFeature_91 : decode cX3_readFeature 91 = .ok (.getfield 31, 3) := by decide +kernel
theorem dX3_readFeature_94 : decode cX3_readFeature 94 = .ok (.ldc 98, 2) := by decide +kernel
theorem dX3_readFeature_96 : decode cX3_readFeature 96 = .ok (.invokevirtual 66, 3) := by decide +kernel
theorem dX3_readFeature_99 : decode cX3_readFeature 99 = .ok (.istore 4, 2) := by decide +kernel
theorem dX3_readFeature_101 : decode cX3_readFeature 101 = .ok (.iload 4, 2) := by decide +kernel
theorem dX3_readFeature_103 : decode cX3_readFeature 103 = .ok (.ifCond .eq 10, 3) := by decide +kernel
theorem dX3_readFeature_106 : decode cX3_readFeature 106 = .ok (.aload_n 0, 1) := by decide +kernel
theorem dX3_readFeature_107 : decode cX3_readFeature 107 = .ok (.getfield 31, 3) := by decide +kernel
theorem dX3_readFeature_110 : decode cX3_readFeature 110 = .ok (.invokevirtual 143, 3) := by decide +kernel
theorem dX3_readFeature_113 : decode cX3_readFeature 113 = .ok (.aload_n 0, 1) := by decide +kernel
theorem dX3_readFeature_114 : decode cX3_readFeature 114 = .ok (.getfield 18, 3) := by decide +kernel
theorem dX3_readFeature_117 : decode cX3_readFeature 117 = .ok (.aload_n 0, 1) := by decide +kernel
theorem dX3_readFeature_118 : decode cX3_readFeature 118 = .ok (.getfield 12, 3) := by decide +kernel
theorem dX3_readFeature_121 : decode cX3_readFeature 121 = .ok (.getfield 116, 3) := by decide +kernel
theorem dX3_readFeature_124 : decode cX3_readFeature 124 = .ok (.lload_n 1, 1) := by decide +kernel
theorem dX3_readFeature_125 : decode cX3_readFeature 125 = .ok (.invokestatic 159, 3) := by decide +kernel
theorem dX3_readFeature_128 : decode cX3_readFeature 128 = .ok (.aload_n 0, 1) := by decide +kernel
theorem dX3_readFeature_129 : decode cX3_readFeature 129 = .ok (.getfield 12, 3) := by decide +kernel
theorem dX3_readFeature_132 : decode cX3_readFeature 132 = .ok (.lload_n 1, 1) := by decide +kernel
theorem dX3_readFeature_133 : decode cX3_readFeature 133 = .ok (.iload_n 3, 1) := by decide +kernel
theorem dX3_readFeature_134 : decode cX3_readFeature 134 = .ok (.iload 4, 2) := by decide +kernel
theorem dX3_readFeature_136 : decode cX3_readFeature 136 = .ok (.invokevirtual 163, 3) := by decide +kernel
theorem dX3_readFeature_139 : decode cX3_readFeature 139 = .ok (.aload_n 0, 1) := by decide +kernel
theorem dX3_readFeature_140 : decode cX3_readFeature 140 = .ok (.getfield 31, 3) := by decide +kernel
theorem dX3_readFeature_143 : decode cX3_readFeature 143 = .ok (.bipush 59, 2) := by decide +kernel
theorem dX3_readFeature_145 : decode cX3_readFeature 145 = .ok (.invokevirtual 167, 3) := by decide +kernel
theorem dX3_readFeature_148 : decode cX3_readFeature 148 = .ok (.ireturn, 1) := by decide +kernel
theorem dX3_readFeels_0 : decode cX3_readFeels 0 = .ok (.aload_n 0, 1) := by decide +kernel
theorem dX3_readFeels_1 : decode cX3_readFeels 1 = .ok (.getfield 31, 3) := by decide +kernel
theorem dX3_readFeels_4 : decode cX3_readFeels 4 = .ok (.invokevirtual 143, 3) := by decide +kernel
theorem dX3_readFeels_7 : decode cX3_readFeels 7 = .ok (.aload_n 0, 1) := by decide +kernel
theorem dX3_readFeels_8 : decode cX3_readFeels 8 = .ok (.aload_n 0, 1) := by decide +kernel
theorem dX3_readFeels_9 : decode cX3_readFeels 9 = .ok (.getfield 18, 3) := by decide +kernel
theorem dX3_readFeels_12 : decode cX3_readFeels 12 = .ok (.aload_n 0, 1) := by decide +kernel
theorem dX3_readFeels_13 : decode cX3_readFeels 13 = .ok (.getfield 12, 3) := by decide +kernel
theorem dX3_readFeels_16 : decode cX3_readFeels 16 = .ok (.getfield 116, 3) := by decide +kernel
theorem dX3_readFeels_19 : decode cX3_readFeels 19 = .ok (.invokevirtual 171, 3) := by decide +kernel
theorem dX3_readFeels_22 : decode cX3_readFeels 22 = .ok (.istore_n 1, 1) := by decide +kernel
theorem dX3_readFeels_23 : decode cX3_readFeels 23 = .ok (.iload_n 1, 1) := by decide +kernel
theorem dX3_readFeels_24 : decode cX3_readFeels 24 = .ok (.iconst (-1), 1) := by decide +kernel
theorem dX3_readFeels_25 : decode cX3_readFeels 25 = .ok (.if_icmp .ne 5, 3) := by decide +kernel
theorem dX3_readFeels_28 : decode cX3_readFeels 28 = .ok (.iconst 0, 1) := by decide +kernel
theorem dX3_readFeels_29 : decode cX3_readFeels 29 = .ok (.ireturn, 1) := by decide +kernel
theorem dX3_readFeels_30 : decode cX3_readFeels 30 = .ok (.aload_n 0, 1) := by decide +kernel
theorem dX3_readFeels_31 : decode cX3_readFeels 31 = .ok (.getfield 42, 3) := by decide +kernel
theorem dX3_readFeels_34 : decode cX3_readFeels 34 = .ok (.iload_n 1, 1) := by decide +kernel
theorem dX3_readFeels_35 : decode cX3_readFeels 35 = .ok (.ishr, 1) := by decide +kernel
theorem dX3_readFeels_36 : decode cX3_readFeels 36 = .ok (.iconst 1, 1) := by decide +kernel
theorem dX3_readFeels_37 : decode cX3_readFeels 37 = .ok (.iand, 1) := by decide +kernel
theorem dX3_readFeels_38 : decode cX3_readFeels 38 = .ok (.iconst 1, 1) := by decide +kernel
theorem dX3_readFeels_39 : decode cX3_readFeels 39 = .ok (.if_icmp .ne 12, 3) := by decide +kernel
theorem dX3_readFeels_42 : decode cX3_readFeels 42 = .ok (.aload_n 0, 1) := by decide +kernel
theorem dX3_readFeels_43 : decode cX3_readFeels 43 = .ok (.getfield 31, 3) := by decide +kernel
theorem dX3_readFeels_46 : decode cX3_readFeels 46 = .ok (.iconst 5, 1) := by decide +kernel
theorem dX3_readFeels_47 : decode cX3_readFeels 47 = .ok (.invokevirtual 108, 3) := by decide +kernel
theorem dX3_readFeels_50 : decode cX3_readFeels 50 = .ok (.ireturn, 1) := by decide +kernel
theorem dX3_readFeels_51 : decode cX3_readFeels 51 = .ok (.aload_n 0, 1) := by decide +kernel
theorem dX3_readFeels_52 : decode cX3_readFeels 52 = .ok (.dup, 1) := by decide +kernel
theorem dX3_readFeels_53 : decode cX3_readFeels 53 = .ok (.getfield 42, 3) := by decide +kernel
theorem dX3_readFeels_56 : decode cX3_readFeels 56 = .ok (.iconst 1, 1) := by decide +kernel
theorem dX3_readFeels_57 : decode cX3_readFeels 57 = .ok (.iload_n 1, 1) := by decide +kernel
theorem dX3_readFeels_58 : decode cX3_readFeels 58 = .ok (.ishl, 1) := by decide +kernel
theorem dX3_readFeels_59 : decode cX3_readFeels 59 = .ok (.ior, 1) := by decide +kernel
theorem dX3_readFeels_60 : decode cX3_readFeels 60 = .ok (.putfield 42, 3) := by decide +kernel
theorem dX3_readFeels_63 : decode cX3_readFeels 63 = .ok (.aload_n 0, 1) := by decide +kernel
theorem dX3_readFeels_64 : decode cX3_readFeels 64 = .ok (.getfield 31, 3) := by decide +kernel
theorem dX3_readFeels_67 : decode cX3_readFeels 67 = .ok (.invokevirtual 143, 3) := by decide +kernel
theorem dX3_readFeels_70 : decode cX3_readFeels 70 = .ok (.aload_n 0, 1) := by decide +kernel
theorem dX3_readFeels_71 : decode cX3_readFeels 71 = .ok (.getfield 31, 3) := by decide +kernel
theorem dX3_readFeels_74 : decode cX3_readFeels 74 = .ok (.invokevirtual 175, 3) := by decide +kernel
theorem dX3_readFeels_77 : decode cX3_readFeels 77 = .ok (.ifCond .ne 12, 3) := by decide +kernel
theorem dX3_readFeels_80 : decode cX3_readFeels 80 = .ok (.aload_n 0, 1) := by decide +kernel
theorem dX3_readFeels_81 : decode cX3_readFeels 81 = .ok (.getfield 31, 3) := by decide +kernel
theorem dX3_readFeels_84 : decode cX3_readFeels 84 = .ok (.iconst 2, 1) := by decide +kernel
theorem dX3_readFeels_85 : decode cX3_readFeels 85 = .ok (.invokevirtual 108, 3) := by decide +kernel
theorem dX3_readFeels_88 : decode cX3_readFeels 88 = .ok (.ireturn, 1) := by decide +kernel
theorem dX3_readFeels_89 : decode cX3_readFeels 89 = .ok (.aload_n 0, 1) := by decide +kernel
theorem dX3_readFeels_90 : decode cX3_readFeels 90 = .ok (.getfield 12, 3) := by decide +kernel
theorem dX3_readFeels_93 : decode cX3_readFeels 93 = .ok (.iload_n 1, 1) := by decide +kernel
theorem dX3_readFeels_94 : decode cX3_readFeels 94 = .ok (.invokevirtual 178, 3) := by decide +kernel
theorem dX3_readFeels_97 : decode cX3_readFeels 97 = .ok (.istore_n 2, 1) := by decide +kernel
theorem dX3_readFeels_98 : decode cX3_readFeels 98 = .ok (.iconst 0, 1) := by decide +kernel
theorem dX3_readFeels_99 : decode cX3_readFeels 99 = .ok (.istore_n 3, 1) := by decide +kernel
theorem dX3_readFeels_100 : decode cX3_readFeels 100 = .ok (.iconst 0, 1) := by decide +kernel
theorem dX3_readFeels_101 : decode cX3_readFeels 101 = .ok (.istore 4, 2) := by decide +kernel
theorem dX3_readFeels_103 : decode cX3_readFeels 103 = .ok (.iload_n 3, 1) := by decide +kernel
theorem dX3_readFeels_104 : decode cX3_readFeels 104 = .ok (.bipush 16, 2) := by decide +kernel
theorem dX3_readFeels_106 : decode cX3_readFeels 106 = .ok (.if_icmp .gt 145, 3) := by decide +kernel
theorem dX3_readFeels_109 : decode cX3_readFeels 109 = .ok (.aload_n 0, 1) := by decide +kernel
theorem dX3_readFeels_110 : decode cX3_readFeels 110 = .ok (.getfield 31, 3) := by decide +kernel
theorem dX3_readFeels_113 : decode cX3_readFeels 113 = .ok (.invokevirtual 175, 3) := by decide +kernel
theorem dX3_readFeels_116 : decode cX3_readFeels 116 = .ok (.ifCond .eq 135, 3) := by decide +kernel
theorem dX3_readFeels_119 : decode cX3_readFeels 119 = .ok (.aload_n 0, 1) := by decide +kernel
theorem dX3_readFeels_120 : decode cX3_readFeels 120 = .ok (.getfield 31, 3) := by decide +kernel
theorem dX3_readFeels_123 : decode cX3_readFeels 123 = .ok (.getfield 182, 3) := by decide +kernel
theorem dX3_readFeels_126 : decode cX3_readFeels 126 = .ok (.bipush 16, 2) := by decide +kernel
theorem dX3_readFeels_128 : decode cX3_readFeels 128 = .ok (.if_icmp .le 12, 3) := by decide +kernel
theorem dX3_readFeels_131 : decode cX3_readFeels 131 = .ok (.aload_n 0, 1) := by decide +kernel
theorem dX3_readFeels_132 : decode cX3_readFeels 132 = .ok (.getfield 31, 3) := by decide +kernel
theorem dX3_readFeels_135 : decode cX3_readFeels 135 = .ok (.iconst 4, 1) := by decide +kernel
theorem dX3_readFeels_136 : decode cX3_readFeels 136 = .ok (.invokevirtual 108, 3) := by decide +kernel
theorem dX3_readFeels_139 : decode cX3_readFeels 139 = .ok (.ireturn, 1) := by decide +kernel
