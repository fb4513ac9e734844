theorem dX11_many_86 : decode cX11_many 86 = .ok (.getfield 36, 3) := by decide +kernel
theorem dX11_many_89 : decode cX11_many 89 = .ok (.getfield 216, 3) := by decide +kernel
theorem dX11_many_92 : decode cX11_many 92 = .ok (.invokevirtual 195, 3) := by decide +kernel
theorem dX11_many_95 : decode cX11_many 95 = .ok (.ireturn, 1) := by decide +kernel
theorem dX11_many_96 : decode cX11_many 96 = .ok (.aload_n 0, 1) := by decide +kernel
theorem dX11_many_97 : decode cX11_many 97 = .ok (.aload_n 0, 1) := by decide +kernel
theorem dX11_many_98 : decode cX11_many 98 = .ok (.getfield 36, 3) := by decide +kernel
theorem dX11_many_101 : decode cX11_many 101 = .ok (.getfield 219, 3) := by decide +kernel
theorem dX11_many_104 : decode cX11_many 104 = .ok (.invokevirtual 195, 3) := by decide +kernel
theorem dX11_many_107 : decode cX11_many 107 = .ok (.ireturn, 1) := by decide +kernel
theorem dX11_many_108 : decode cX11_many 108 = .ok (.aload_n 0, 1) := by decide +kernel
theorem dX11_many_109 : decode cX11_many 109 = .ok (.aload_n 0, 1) := by decide +kernel
theorem dX11_many_110 : decode cX11_many 110 = .ok (.getfield 36, 3) := by decide +kernel
theorem dX11_many_113 : decode cX11_many 113 = .ok (.getfield 222, 3) := by decide +kernel
theorem dX11_many_116 : decode cX11_many 116 = .ok (.invokevirtual 195, 3) := by decide +kernel
theorem dX11_many_119 : decode cX11_many 119 = .ok (.ireturn, 1) := by decide +kernel
theorem dX11_many_120 : decode cX11_many 120 = .ok (.aload_n 0, 1) := by decide +kernel
theorem dX11_many_121 : decode cX11_many 121 = .ok (.aload_n 0, 1) := by decide +kernel
theorem dX11_many_122 : decode cX11_many 122 = .ok (.getfield 36, 3) := by decide +kernel
theorem dX11_many_125 : decode cX11_many 125 = .ok (.iconst 0, 1) := by decide +kernel
theorem dX11_many_126 : decode cX11_many 126 = .ok (.invokevirtual 225, 3) := by decide +kernel
theorem dX11_many_129 : decode cX11_many 129 = .ok (.invokevirtual 195, 3) := by decide +kernel
theorem dX11_many_132 : decode cX11_many 132 = .ok (.ireturn, 1) := by decide +kernel
theorem dX11_many_133 : decode cX11_many 133 = .ok (.aload_n 0, 1) := by decide +kernel
theorem dX11_many_134 : decode cX11_many 134 = .ok (.aload_n 0, 1) := by decide +kernel
theorem dX11_many_135 : decode cX11_many 135 = .ok (.getfield 36, 3) := by decide +kernel
theorem dX11_many_138 : decode cX11_many 138 = .ok (.iconst 1, 1) := by decide +kernel
theorem dX11_many_139 : decode cX11_many 139 = .ok (.invokevirtual 225, 3) := by decide +kernel
theorem dX11_many_142 : decode cX11_many 142 = .ok (.invokevirtual 195, 3) := by decide +kernel
theorem dX11_many_145 : decode cX11_many 145 = .ok (.ireturn, 1) := by decide +kernel
theorem dX11_many_146 : decode cX11_many 146 = .ok (.aload_n 0, 1) := by decide +kernel
theorem dX11_many_147 : decode cX11_many 147 = .ok (.aload_n 0, 1) := by decide +kernel
theorem dX11_many_148 : decode cX11_many 148 = .ok (.getfield 36, 3) := by decide +kernel
theorem dX11_many_151 : decode cX11_many 151 = .ok (.iconst 2, 1) := by decide +kernel
theorem dX11_many_152 : decode cX11_many 152 = .ok (.invokevirtual 225, 3) := by decide +kernel
theorem dX11_many_155 : decode cX11_many 155 = .ok (.invokevirtual 195, 3) := by decide +kernel
theorem dX11_many_158 : decode cX11_many 158 = .ok (.ireturn, 1) := by decide +kernel
theorem dX11_many_159 : decode cX11_many 159 = .ok (.aload_n 0, 1) := by decide +kernel
theorem dX11_many_160 : decode cX11_many 160 = .ok (.aload_n 0, 1) := by decide +kernel
theorem dX11_many_161 : decode cX11_many 161 = .ok (.getfield 36, 3) := by decide +kernel
theorem dX11_many_164 : decode cX11_many 164 = .ok (.iconst 3, 1) := by decide +kernel
theorem dX11_many_165 : decode cX11_many 165 = .ok (.invokevirtual 225, 3) := by decide +kernel
theorem dX11_many_168 : decode cX11_many 168 = .ok (.invokevirtual 195, 3) := by decide +kernel
theorem dX11_many_171 : decode cX11_many 171 = .ok (.ireturn, 1) := by decide +kernel
theorem dX11_many_172 : decode cX11_many 172 = .ok (.aload_n 0, 1) := by decide +kernel
theorem dX11_many_173 : decode cX11_many 173 = .ok (.aload_n 0, 1) := by decide +kernel
theorem dX11_many_174 : decode cX11_many 174 = .ok (.getfield 36, 3) := by decide +kernel
theorem dX11_many_177 : decode cX11_many 177 = .ok (.getfield 228, 3) := by decide +kernel
theorem dX11_many_180 : decode cX11_many 180 = .ok (.invokevirtual 195, 3) := by decide +kernel
theorem dX11_many_183 : decode cX11_many 183 = .ok (.ireturn, 1) := by decide +kernel
theorem dX11_many_184 : decode cX11_many 184 = .ok (.aload_n 0, 1) := by decide +kernel
theorem dX11_many_185 : decode cX11_many 185 = .ok (.aload_n 0, 1) := by decide +kernel
theorem dX11_many_186 : decode cX11_many 186 = .ok (.getfield 45, 3) := by decide +kernel
theorem dX11_many_189 : decode cX11_many 189 = .ok (.getfield 231, 3) := by decide +kernel
theorem dX11_many_192 : decode cX11_many 192 = .ok (.invokevirtual 195, 3) := by decide +kernel
theorem dX11_many_195 : decode cX11_many 195 = .ok (.ireturn, 1) := by decide +kernel
theorem dX11_many_196 : decode cX11_many 196 = .ok (.aload_n 0, 1) := by decide +kernel
theorem dX11_many_197 : decode cX11_many 197 = .ok (.iconst 5, 1) := by decide +kernel
theorem dX11_many_198 : decode cX11_many 198 = .ok (.invokevirtual 148, 3) := by decide +kernel
theorem dX11_many_201 : decode cX11_many 201 = .ok (.ireturn, 1) := by decide +kernel
theorem dX11_mark_0 : decode cX11_mark 0 = .ok (.aload_n 0, 1) := by decide +kernel
theorem dX11_mark_1 : decode cX11_mark 1 = .ok (.getfield 106, 3) := by decide +kernel
theorem dX11_mark_4 : decode cX11_mark 4 = .ok (.ifCond .lt 11, 3) := by decide +kernel
theorem dX11_mark_7 : decode cX11_mark 7 = .ok (.aload_n 0, 1) := by decide +kernel
theorem dX11_mark_8 : decode cX11_mark 8 = .ok (.getfield 106, 3) := by decide +kernel
theorem dX11_mark_11 : decode cX11_mark 11 = .ok (.iconst 3, 1) := by decide +kernel
theorem dX11_mark_12 : decode cX11_mark 12 = .ok (.if_icmp .lt 10, 3) := by decide +kernel
theorem dX11_mark_15 : decode cX11_mark 15 = .ok (.aload_n 0, 1) := by decide +kernel
theorem dX11_mark_16 : decode cX11_mark 16 = .ok (.bipush 7, 2) := by decide +kernel
theorem dX11_mark_18 : decode cX11_mark 18 = .ok (.invokevirtual 148, 3) := by decide +kernel
theorem dX11_mark_21 : decode cX11_mark 21 = .ok (.ireturn, 1) := by decide +kernel
theorem dX11_mark_22 : decode cX11_mark 22 = .ok (.aload_n 0, 1) := by decide +kernel
theorem dX11_mark_23 : decode cX11_mark 23 = .ok (.getfield 36, 3) := by decide +kernel
theorem dX11_mark_26 : decode cX11_mark 26 = .ok (.aload_n 0, 1) := by decide +kernel
theorem dX11_mark_27 : decode cX11_mark 27 = .ok (.getfield 109, 3) := by decide +kernel
theorem dX11_mark_30 : decode cX11_mark 30 = .ok (.aload_n 0, 1) := by decide +kernel
theorem dX11_mark_31 : decode cX11_mark 31 = .ok (.getfield 106, 3) := by decide +kernel
theorem dX11_mark_34 : decode cX11_mark 34 = .ok (.aaload, 1) := by decide +kernel
theorem dX11_mark_35 : decode cX11_mark 35 = .ok (.invokestatic 185, 3) := by decide +kernel
theorem dX11_mark_38 : decode cX11_mark 38 = .ok (.aload_n 0, 1) := by decide +kernel
theorem dX11_mark_39 : decode cX11_mark 39 = .ok (.getfield 45, 3) := by decide +kernel
theorem dX11_mark_42 : decode cX11_mark 42 = .ok (.aload_n 0, 1) := by decide +kernel
theorem dX11_mark_43 : decode cX11_mark 43 = .ok (.getfield 113, 3) := by decide +kernel
theorem dX11_mark_46 : decode cX11_mark 46 = .ok (.aload_n 0, 1) := by decide +kernel
theorem dX11_mark_47 : decode cX11_mark 47 = .ok (.getfield 106, 3) := by decide +kernel
theorem dX11_mark_50 : decode cX11_mark 50 = .ok (.aaload, 1) := by decide +kernel
theorem dX11_mark_51 : decode cX11_mark 51 = .ok (.invokestatic 453, 3) := by decide +kernel
theorem dX11_mark_54 : decode cX11_mark 54 = .ok (.aload_n 0, 1) := by decide +kernel
theorem dX11_mark_55 : decode cX11_mark 55 = .ok (.getfield 52, 3) := by decide +kernel
theorem dX11_mark_58 : decode cX11_mark 58 = .ok (.aload_n 0, 1) := by decide +kernel
theorem dX11_mark_59 : decode cX11_mark 59 = .ok (.getfield 117, 3) := by decide +kernel
theorem dX11_mark_62 : decode cX11_mark 62 = .ok (.aload_n 0, 1) := by decide +kernel
theorem dX11_mark_63 : decode cX11_mark 63 = .ok (.getfield 106, 3) := by decide +kernel
theorem dX11_mark_66 : decode cX11_mark 66 = .ok (.aaload, 1) := by decide +kernel
theorem dX11_mark_67 : decode cX11_mark 67 = .ok (.invokestatic 201, 3) := by decide +kernel
theorem dX11_mark_70 : decode cX11_mark 70 = .ok (.aload_n 0, 1) := by decide +kernel
theorem dX11_mark_71 : decode cX11_mark 71 = .ok (.dup, 1) := by decide +kernel
theorem dX11_mark_72 : decode cX11_mark 72 = .ok (.getfield 106, 3) := by decide +kernel
theorem dX11_mark_75 : decode cX11_mark 75 = .ok (.iconst 1, 1) := by decide +kernel
theorem dX11_mark_76 : decode cX11_mark 76 = .ok (.iadd, 1) := by decide +kernel
theorem dX11_mark_77 : decode cX11_mark 77 = .ok (.putfield 106, 3) := by decide +kernel
theorem dX11_mark_80 : decode cX11_mark 80 = .ok (.aload_n 0, 1) := by decide +kernel
theorem dX11_mark_81 : decode cX11_mark 81 = .ok (.aload_n 0, 1) := by decide +kernel
theorem dX11_mark_82 : decode cX11_mark 82 = .ok (.getfield 106, 3) := by decide +kernel
theorem dX11_mark_85 : decode cX11_mark 85 = .ok (.invokevirtual 195, 3) := by decide +kernel
theorem dX11_mark_88 : decode cX11_mark 88 = .ok (.ireturn, 1) := by decide +kernel
theorem dX11_missing_0 : decode cX11_missing 0 = .ok (.aload_n 0, 1) := by decide +kernel
theorem dX11_missing_1 : decode cX11_missing 1 = .ok (.getfield 36, 3) := by decide +kernel
theorem dX11_missing_4 : decode cX11_missing 4 = .ok (.iload_n 1, 1) := by decide +kernel
theorem dX11_missing_5 : decode cX11_missing 5 = .ok (.invokevirtual 250, 3) := by decide +kernel
theorem dX11_missing_8 : decode cX11_missing 8 = .ok (.ifCond .eq 14, 3) := by decide +kernel
theorem dX11_missing_11 : decode cX11_missing 11 = .ok (.aload_n 0, 1) := by decide +kernel
theorem dX11_missing_12 : decode cX11_missing 12 = .ok (.getfield 36, 3) := by decide +kernel
theorem dX11_missing_15 : decode cX11_missing 15 = .ok (.iload_n 2, 1) := by decide +kernel
theorem dX11_missing_16 : decode cX11_missing 16 = .ok (.invokevirtual 275, 3) := by decide +kernel
theorem dX11_missing_19 : decode cX11_missing 19 = .ok (.ifCond .ne 9, 3) := by decide +kernel
theorem dX11_missing_22 : decode cX11_missing 22 = .ok (.aload_n 0, 1) := by decide +kernel
theorem dX11_missing_23 : decode cX11_missing 23 = .ok (.iconst 2, 1) := by decide +kernel
theorem dX11_missing_24 : decode cX11_missing 24 = .ok (.invokevirtual 126, 3) := by decide +kernel
theorem dX11_missing_27 : decode cX11_missing 27 = .ok (.ireturn, 1) := by decide +kernel
theorem dX11_missing_28 : decode cX11_missing 28 = .ok (.iload_n 3, 1) := by decide +kernel
theorem dX11_missing_29 : decode cX11_missing 29 = .ok (.ifCond .lt 14, 3) := by decide +kernel
theorem dX11_missing_32 : decode cX11_missing 32 = .ok (.iload_n 3, 1) := by decide +kernel
theorem dX11_missing_33 : decode cX11_missing 33 = .ok (.bipush 16, 2) := by decide +kernel
theorem dX11_missing_35 : decode cX11_missing 35 = .ok (.if_icmp .gt 8, 3) := by decide +kernel
theorem dX11_missing_38 : decode cX11_missing 38 = .ok (.iload 4, 2) := by decide +kernel
theorem dX11_missing_40 : decode cX11_missing 40 = .ok (.ifCond .ge 9, 3) := by decide +kernel
theorem dX11_missing_43 : decode cX11_missing 43 = .ok (.aload_n 0, 1) := by decide +kernel
theorem dX11_missing_44 : decode cX11_missing 44 = .ok (.iconst 5, 1) := by decide +kernel
theorem dX11_missing_45 : decode cX11_missing 45 = .ok (.invokevirtual 126, 3) := by decide +kernel
theorem dX11_missing_48 : decode cX11_missing 48 = .ok (.ireturn, 1) := by decide +kernel
theorem dX11_missing_49 : decode cX11_missing 49 = .ok (.aload_n 0, 1) := by decide +kernel
theorem dX11_missing_50 : decode cX11_missing 50 = .ok (.getfield 36, 3) := by decide +kernel
theorem dX11_missing_53 : decode cX11_missing 53 = .ok (.iload_n 1, 1) := by decide +kernel
theorem dX11_missing_54 : decode cX11_missing 54 = .ok (.invokevirtual 259, 3) := by decide +kernel
theorem dX11_missing_57 : decode cX11_missing 57 = .ok (.istore 5, 2) := by decide +kernel
theorem dX11_missing_59 : decode cX11_missing 59 = .ok (.iload 5, 2) := by decide +kernel
theorem dX11_missing_61 : decode cX11_missing 61 = .ok (.iconst (-1), 1) := by decide +kernel
theorem dX11_missing_62 : decode cX11_missing 62 = .ok (.if_icmp .ne 10, 3) := by decide +kernel
theorem dX11_missing_65 : decode cX11_missing 65 = .ok (.aload_n 0, 1) := by decide +kernel
theorem dX11_missing_66 : decode cX11_missing 66 = .ok (.bipush 9, 2) := by decide +kernel
theorem dX11_missing_68 : decode cX11_missing 68 = .ok (.invokevirtual 126, 3) := by decide +kernel
theorem dX11_missing_71 : decode cX11_missing 71 = .ok (.ireturn, 1) := by decide +kernel
theorem dX11_missing_72 : decode cX11_missing 72 = .ok (.aload_n 0, 1) := by decide +kernel
theorem dX11_missing_73 : decode cX11_missing 73 = .ok (.getfield 36, 3) := by decide +kernel
theorem dX11_missing_76 : decode cX11_missing 76 = .ok (.iload 5, 2) := by decide +kernel
theorem dX11_missing_78 : decode cX11_missing 78 = .ok (.invokevirtual 269, 3) := by decide +kernel
theorem dX11_missing_81 : decode cX11_missing 81 = .ok (.istore 6, 2) := by decide +kernel
theorem dX11_missing_83 : decode cX11_missing 83 = .ok (.iload 4, 2) := by decide +kernel
theorem dX11_missing_85 : decode cX11_missing 85 = .ok (.iload 6, 2) := by decide +kernel
theorem dX11_missing_87 : decode cX11_missing 87 = .ok (.if_icmp .le 9, 3) := by decide +kernel
theorem dX11_missing_90 : decode cX11_missing 90 = .ok (.aload_n 0, 1) := by decide +kernel
theorem dX11_missing_91 : decode cX11_missing 91 = .ok (.iconst 5, 1) := by decide +kernel
theorem dX11_missing_92 : decode cX11_missing 92 = .ok (.invokevirtual 126, 3) := by decide +kernel
theorem dX11_missing_95 : decode cX11_missing 95 = .ok (.ireturn, 1) := by decide +kernel
theorem dX11_missing_96 : decode cX11_missing 96 = .ok (.aload_n 0, 1) := by decide +kernel
theorem dX11_missing_97 : decode cX11_missing 97 = .ok (.getfield 36, 3) := by decide +kernel
theorem dX11_missing_100 : decode cX11_missing 100 = .ok (.iload_n 1, 1) := by decide +kernel
theorem dX11_missing_101 : decode cX11_missing 101 = .ok (.iload_n 2, 1) := by decide +kernel
theorem dX11_missing_102 : decode cX11_missing 102 = .ok (.invokevirtual 426, 3) := by decide +kernel
theorem dX11_missing_105 : decode cX11_missing 105 = .ok (.ifCond .eq 14, 3) := by decide +kernel
theorem dX11_missing_108 : decode cX11_missing 108 = .ok (.iload_n 3, 1) := by decide +kernel
theorem dX11_missing_109 : decode cX11_missing 109 = .ok (.ifCond .ne 17, 3) := by decide +kernel
theorem dX11_missing_112 : decode cX11_missing 112 = .ok (.iload 4, 2) := by decide +kernel
theorem dX11_missing_114 : decode cX11_missing 114 = .ok (.iload 6, 2) := by decide +kernel
theorem dX11_missing_116 : decode cX11_missing 116 = .ok (.if_icmp .ne 10, 3) := by decide +kernel
theorem dX11_missing_119 : decode cX11_missing 119 = .ok (.aload_n 0, 1) := by decide +kernel
theorem dX11_missing_120 : decode cX11_missing 120 = .ok (.bipush 9, 2) := by decide +kernel
theorem dX11_missing_122 : decode cX11_missing 122 = .ok (.invokevirtual 126, 3) := by decide +kernel
theorem dX11_missing_125 : decode cX11_missing 125 = .ok (.ireturn, 1) := by decide +kernel
theorem dX11_missing_126 : decode cX11_missing 126 = .ok (.aload_n 0, 1) := by decide +kernel
theorem dX11_missing_127 : decode cX11_missing 127 = .ok (.iload_n 3, 1) := by decide +kernel
theorem dX11_missing_128 : decode cX11_missing 128 = .ok (.iload 6, 2) := by decide +kernel
theorem dX11_missing_130 : decode cX11_missing 130 = .ok (.imul, 1) := by decide +kernel
theorem dX11_missing_131 : decode cX11_missing 131 = .ok (.i2l, 1) := by decide +kernel
theorem dX11_missing_132 : decode cX11_missing 132 = .ok (.iload_n 3, 1) := by decide +kernel
theorem dX11_missing_133 : decode cX11_missing 133 = .ok (.iload 6, 2) := by decide +kernel
theorem dX11_missing_135 : decode cX11_missing 135 = .ok (.imul, 1) := by decide +kernel
theorem dX11_missing_136 : decode cX11_missing 136 = .ok (.bipush 16, 2) := by decide +kernel
theorem dX11_missing_138 : decode cX11_missing 138 = .ok (.iload_n 3, 1) := by decide +kernel
theorem dX11_missing_139 : decode cX11_missing 139 = .ok (.isub, 1) := by decide +kernel
theorem dX11_missing_140 : decode cX11_missing 140 = .ok (.iload 6, 2) := by decide +kernel
theorem dX11_missing_142 : decode cX11_missing 142 = .ok (.iload 4, 2) := by decide +kernel
theorem dX11_missing_144 : decode cX11_missing 144 = .ok (.isub, 1) := by decide +kernel
theorem dX11_missing_145 : decode cX11_missing 145 = .ok (.imul, 1) := by decide +kernel
theorem dX11_missing_146 : decode cX11_missing 146 = .ok (.iadd, 1) := by decide +kernel
theorem dX11_missing_147 : decode cX11_missing 147 = .ok (.i2l, 1) := by decide +kernel
theorem dX11_missing_148 : decode cX11_missing 148 = .ok (.invokevirtual 351, 3) := by decide +kernel
theorem dX11_missing_151 : decode cX11_missing 151 = .ok (.ireturn, 1) := by decide +kernel
theorem dX11_newly_0 : decode cX11_newly 0 = .ok (.aload_n 0, 1) := by decide +kernel
theorem dX11_newly_1 : decode cX11_newly 1 = .ok (.getfield 36, 3) := by decide +kernel
theorem dX11_newly_4 : decode cX11_newly 4 = .ok (.iload_n 1, 1) := by decide +kernel
theorem dX11_newly_5 : decode cX11_newly 5 = .ok (.invokevirtual 250, 3) := by decide +kernel
theorem dX11_newly_8 : decode cX11_newly 8 = .ok (.ifCond .eq 25, 3) := by decide +kernel
theorem dX11_newly_11 : decode cX11_newly 11 = .ok (.aload_n 0, 1) := by decide +kernel
theorem dX11_newly_12 : decode cX11_newly 12 = .ok (.getfield 36, 3) := by decide +kernel
theorem dX11_newly_15 : decode cX11_newly 15 = .ok (.iload_n 2, 1) := by decide +kernel
theorem dX11_newly_16 : decode cX11_newly 16 = .ok (.invokevirtual 266, 3) := by decide +kernel
theorem dX11_newly_19 : decode cX11_newly 19 = .ok (.ifCond .eq 14, 3) := by decide +kernel
theorem dX11_newly_22 : decode cX11_newly 22 = .ok (.aload_n 0, 1) := by decide +kernel
theorem dX11_newly_23 : decode cX11_newly 23 = .ok (.getfield 36, 3) := by decide +kernel
theorem dX11_newly_26 : decode cX11_newly 26 = .ok (.iload_n 3, 1) := by decide +kernel
theorem dX11_newly_27 : decode cX11_newly 27 = .ok (.invokevirtual 275, 3) := by decide +kernel
theorem dX11_newly_30 : decode cX11_newly 30 = .ok (.ifCond .ne 9, 3) := by decide +kernel
theorem dX11_newly_33 : decode cX11_newly 33 = .ok (.aload_n 0, 1) := by decide +kernel
theorem dX11_newly_34 : decode cX11_newly 34 = .ok (.iconst 2, 1) := by decide +kernel
theorem dX11_newly_35 : decode cX11_newly 35 = .ok (.invokevirtual 148, 3) := by decide +kernel
theorem dX11_newly_38 : decode cX11_newly 38 = .ok (.ireturn, 1) := by decide +kernel
theorem dX11_newly_39 : decode cX11_newly 39 = .ok (.aload_n 0, 1) := by decide +kernel
theorem dX11_newly_40 : decode cX11_newly 40 = .ok (.getfield 36, 3) := by decide +kernel
theorem dX11_newly_43 : decode cX11_newly 43 = .ok (.iload_n 1, 1) := by decide +kernel
theorem dX11_newly_44 : decode cX11_newly 44 = .ok (.invokevirtual 259, 3) := by decide +kernel
theorem dX11_newly_47 : decode cX11_newly 47 = .ok (.iconst (-1), 1) := by decide +kernel
theorem dX11_newly_48 : decode cX11_newly 48 = .ok (.if_icmp .ne 14, 3) := by decide +kernel
theorem dX11_newly_51 : decode cX11_newly 51 = .ok (.aload_n 0, 1) := by decide +kernel
theorem dX11_newly_52 : decode cX11_newly 52 = .ok (.getfield 36, 3) := by decide +kernel
theorem dX11_newly_55 : decode cX11_newly 55 = .ok (.iload_n 1, 1) := by decide +kernel
theorem dX11_newly_56 : decode cX11_newly 56 = .ok (.invokevirtual 256, 3) := by decide +kernel
theorem dX11_newly_59 : decode cX11_newly 59 = .ok (.ifCond .eq 10, 3) := by decide +kernel
theorem dX11_newly_62 : decode cX11_newly 62 = .ok (.aload_n 0, 1) := by decide +kernel
theorem dX11_newly_63 : decode cX11_newly 63 = .ok (.bipush 9, 2) := by decide +kernel
theorem dX11_newly_65 : decode cX11_newly 65 = .ok (.invokevirtual 148, 3) := by decide +kernel
theorem dX11_newly_68 : decode cX11_newly 68 = .ok (.ireturn, 1) := by decide +kernel
theorem dX11_newly_69 : decode cX11_newly 69 = .ok (.aload_n 0, 1) := by decide +kernel
theorem dX11_newly_70 : decode cX11_newly 70 = .ok (.getfield 77, 3) := by decide +kernel
theorem dX11_newly_73 : decode cX11_newly 73 = .ok (.iload_n 1, 1) := by decide +kernel
theorem dX11_newly_74 : decode cX11_newly 74 = .ok (.iload_n 2, 1) := by decide +kernel
theorem dX11_newly_75 : decode cX11_newly 75 = .ok (.iload_n 3, 1) := by decide +kernel
theorem dX11_newly_76 : decode cX11_newly 76 = .ok (.invokevirtual 429, 3) := by decide +kernel
theorem dX11_newly_79 : decode cX11_newly 79 = .ok (.istore 4, 2) := by decide +kernel
theorem dX11_newly_81 : decode cX11_newly 81 = .ok (.iload 4, 2) := by decide +kernel
theorem dX11_newly_83 : decode cX11_newly 83 = .ok (.iconst (-1), 1) := by decide +kernel
theorem dX11_newly_84 : decode cX11_newly 84 = .ok (.if_icmp .ne 10, 3) := by decide +kernel
theorem dX11_newly_87 : decode cX11_newly 87 = .ok (.aload_n 0, 1) := by decide +kernel
theorem dX11_newly_88 : decode cX11_newly 88 = .ok (.bipush 8, 2) := by decide +kernel
theorem dX11_newly_90 : decode cX11_newly 90 = .ok (.invokevirtual 148, 3) := by decide +kernel
theorem dX11_newly_93 : decode cX11_newly 93 = .ok (.ireturn, 1) := by decide +kernel
theorem dX11_newly_94 : decode cX11_newly 94 = .ok (.aload_n 0, 1) := by decide +kernel
theorem dX11_newly_95 : decode cX11_newly 95 = .ok (.aload_n 0, 1) := by decide +kernel
theorem dX11_newly_96 : decode cX11_newly 96 = .ok (.getfield 77, 3) := by decide +kernel
theorem dX11_newly_99 : decode cX11_newly 99 = .ok (.getfield 397, 3) := by decide +kernel
theorem dX11_newly_102 : decode cX11_newly 102 = .ok (.aload_n 0, 1) := by decide +kernel
theorem dX11_newly_103 : decode cX11_newly 103 = .ok (.getfield 77, 3) := by decide +kernel
theorem dX11_newly_106 : decode cX11_newly 106 = .ok (.getfield 400, 3) := by decide +kernel
theorem dX11_newly_109 : decode cX11_newly 109 = .ok (.invokevirtual 351, 3) := by decide +kernel
theorem dX11_newly_112 : decode cX11_newly 112 = .ok (.pop, 1) := by decide +kernel
theorem dX11_newly_113 : decode cX11_newly 113 = .ok (.aload_n 0, 1) := by decide +kernel
theorem dX11_newly_114 : decode cX11_newly 114 = .ok (.iload 4, 2) := by decide +kernel
theorem dX11_newly_116 : decode cX11_newly 116 = .ok (.invokevirtual 195, 3) := by decide +kernel
theorem dX11_newly_119 : decode cX11_newly 119 = .ok (.ireturn, 1) := by decide +kernel
theorem dX11_next_0 : decode cX11_next 0 = .ok (.aload_n 0, 1) := by decide +kernel
theorem dX11_next_1 : decode cX11_next 1 = .ok (.getfield 36, 3) := by decide +kernel
theorem dX11_next_4 : decode cX11_next 4 = .ok (.iload_n 1, 1) := by decide +kernel
theorem dX11_next_5 : decode cX11_next 5 = .ok (.invokevirtual 275, 3) := by decide +kernel
theorem dX11_next_8 : decode cX11_next 8 = .ok (.ifCond .ne 9, 3) := by decide +kernel
theorem dX11_next_11 : decode cX11_next 11 = .ok (.aload_n 0, 1) := by decide +kernel
theorem dX11_next_12 : decode cX11_next 12 = .ok (.iconst 2, 1) := by decide +kernel
theorem dX11_next_13 : decode cX11_next 13 = .ok (.invokevirtual 148, 3) := by decide +kernel
theorem dX11_next_16 : decode cX11_next 16 = .ok (.ireturn, 1) := by decide +kernel
theorem dX11_next_17 : decode cX11_next 17 = .ok (.iload_n 2, 1) := by decide +kernel
theorem dX11_next_18 : decode cX11_next 18 = .ok (.iconst 1, 1) := by decide +kernel
theorem dX11_next_19 : decode cX11_next 19 = .ok (.if_icmp .lt 8, 3) := by decide +kernel
theorem dX11_next_22 : decode cX11_next 22 = .ok (.iload_n 2, 1) := by decide +kernel
theorem dX11_next_23 : decode cX11_next 23 = .ok (.iconst 4, 1) := by decide +kernel
theorem dX11_next_24 : decode cX11_next 24 = .ok (.if_icmp .le 9, 3) := by decide +kernel
theorem dX11_next_27 : decode cX11_next 27 = .ok (.aload_n 0, 1) := by decide +kernel
theorem dX11_next_28 : decode cX11_next 28 = .ok (.iconst 5, 1) := by decide +kernel
theorem dX11_next_29 : decode cX11_next 29 = .ok (.invokevirtual 148, 3) := by decide +kernel
theorem dX11_next_32 : decode cX11_next 32 = .ok (.ireturn, 1) := by decide +kernel
theorem dX11_next_33 : decode cX11_next 33 = .ok (.aload_n 0, 1) := by decide +kernel
theorem dX11_next_34 : decode cX11_next 34 = .ok (.getfield 45, 3) := by decide +kernel
theorem dX11_next_37 : decode cX11_next 37 = .ok (.invokevirtual 320, 3) := by decide +kernel
theorem dX11_next_40 : decode cX11_next 40 = .ok (.ifCond .ne 10, 3) := by decide +kernel
theorem dX11_next_43 : decode cX11_next 43 = .ok (.aload_n 0, 1) := by decide +kernel
theorem dX11_next_44 : decode cX11_next 44 = .ok (.bipush 8, 2) := by decide +kernel
theorem dX11_next_46 : decode cX11_next 46 = .ok (.invokevirtual 148, 3) := by decide +kernel
theorem dX11_next_49 : decode cX11_next 49 = .ok (.ireturn, 1) := by decide +kernel
theorem dX11_next_50 : decode cX11_next 50 = .ok (.aload_n 0, 1) := by decide +kernel
theorem dX11_next_51 : decode cX11_next 51 = .ok (.getfield 93, 3) := by decide +kernel
theorem dX11_next_54 : decode cX11_next 54 = .ok (.iload_n 1, 1) := by decide +kernel
theorem dX11_next_55 : decode cX11_next 55 = .ok (.iload_n 2, 1) := by decide +kernel
theorem dX11_next_56 : decode cX11_next 56 = .ok (.invokevirtual 358, 3) := by decide +kernel
theorem dX11_next_59 : decode cX11_next 59 = .ok (.aload_n 0, 1) := by decide +kernel
theorem dX11_next_60 : decode cX11_next 60 = .ok (.aload_n 0, 1) := by decide +kernel
theorem dX11_next_61 : decode cX11_next 61 = .ok (.getfield 93, 3) := by decide +kernel
theorem dX11_next_64 : decode cX11_next 64 = .ok (.getfield 364, 3) := by decide +kernel
theorem dX11_next_67 : decode cX11_next 67 = .ok (.invokevirtual 195, 3) := by decide +kernel
theorem dX11_next_70 : decode cX11_next 70 = .ok (.ireturn, 1) := by decide +kernel
theorem dX11_none_0 : decode cX11_none 0 = .ok (.aload_n 0, 1) := by decide +kernel
theorem dX11_none_1 : decode cX11_none 1 = .ok (.iload_n 1, 1) := by decide +kernel
theorem dX11_none_2 : decode cX11_none 2 = .ok (.putfield 9, 3) := by decide +kernel
theorem dX11_none_5 : decode cX11_none 5 = .ok (.iconst (-1), 1) := by decide +kernel
theorem dX11_none_6 : decode cX11_none 6 = .ok (.ireturn, 1) := by decide +kernel
theorem dX11_off_0 : decode cX11_off 0 = .ok (.aload_n 0, 1) := by decide +kernel
theorem dX11_off_1 : decode cX11_off 1 = .ok (.getfield 36, 3) := by decide +kernel
theorem dX11_off_4 : decode cX11_off 4 = .ok (.iload_n 1, 1) := by decide +kernel
theorem dX11_off_5 : decode cX11_off 5 = .ok (.invokevirtual 250, 3) := by decide +kernel
theorem dX11_off_8 : decode cX11_off 8 = .ok (.ifCond .ne 9, 3) := by decide +kernel
theorem dX11_off_11 : decode cX11_off 11 = .ok (.aload_n 0, 1) := by decide +kernel
theorem dX11_off_12 : decode cX11_off 12 = .ok (.iconst 2, 1) := by decide +kernel
theorem dX11_off_13 : decode cX11_off 13 = .ok (.invokevirtual 126, 3) := by decide +kernel
theorem dX11_off_16 : decode cX11_off 16 = .ok (.ireturn, 1) := by decide +kernel
theorem dX11_off_17 : decode cX11_off 17 = .ok (.aload_n 0, 1) := by decide +kernel
theorem dX11_off_18 : decode cX11_off 18 = .ok (.getfield 36, 3) := by decide +kernel
theorem dX11_off_21 : decode cX11_off 21 = .ok (.iload_n 1, 1) := by decide +kernel
theorem dX11_off_22 : decode cX11_off 22 = .ok (.invokevirtual 259, 3) := by decide +kernel
theorem dX11_off_25 : decode cX11_off 25 = .ok (.istore_n 2, 1) := by decide +kernel
theorem dX11_off_26 : decode cX11_off 26 = .ok (.iload_n 2, 1) := by decide +kernel
theorem dX11_off_27 : decode cX11_off 27 = .ok (.iconst (-1), 1) := by decide +kernel
theorem dX11_off_28 : decode cX11_off 28 = .ok (.if_icmp .ne 10, 3) := by decide +kernel
theorem dX11_off_31 : decode cX11_off 31 = .ok (.aload_n 0, 1) := by decide +kernel
theorem dX11_off_32 : decode cX11_off 32 = .ok (.bipush 8, 2) := by decide +kernel
theorem dX11_off_34 : decode cX11_off 34 = .ok (.invokevirtual 126, 3) := by decide +kernel
theorem dX11_off_37 : decode cX11_off 37 = .ok (.ireturn, 1) := by decide +kernel
theorem dX11_off_38 : decode cX11_off 38 = .ok (.aload_n 0, 1) := by decide +kernel
theorem dX11_off_39 : decode cX11_off 39 = .ok (.getfield 36, 3) := by decide +kernel
theorem dX11_off_42 : decode cX11_off 42 = .ok (.iload_n 1, 1) := by decide +kernel
theorem dX11_off_43 : decode cX11_off 43 = .ok (.iload_n 2, 1) := by decide +kernel
theorem dX11_off_44 : decode cX11_off 44 = .ok (.invokevirtual 316, 3) := by decide +kernel
theorem dX11_off_47 : decode cX11_off 47 = .ok (.aload_n 0, 1) := by decide +kernel
theorem dX11_off_48 : decode cX11_off 48 = .ok (.getfield 45, 3) := by decide +kernel
theorem dX11_off_51 : decode cX11_off 51 = .ok (.iload_n 2, 1) := by decide +kernel
theorem dX11_off_52 : decode cX11_off 52 = .ok (.invokevirtual 306, 3) := by decide +kernel
theorem dX11_off_55 : decode cX11_off 55 = .ok (.aload_n 0, 1) := by decide +kernel
theorem dX11_off_56 : decode cX11_off 56 = .ok (.invokevirtual 134, 3) := by decide +kernel
theorem dX11_off_59 : decode cX11_off 59 = .ok (.ireturn, 1) := by decide +kernel
theorem dX11_opens_0 : decode cX11_opens 0 = .ok (.aload_n 0, 1) := by decide +kernel
theorem dX11_opens_1 : decode cX11_opens 1 = .ok (.getfield 36, 3) := by decide +kernel
theorem dX11_opens_4 : decode cX11_opens 4 = .ok (.iload_n 1, 1) := by decide +kernel
theorem dX11_opens_5 : decode cX11_opens 5 = .ok (.invokevirtual 275, 3) := by decide +kernel
theorem dX11_opens_8 : decode cX11_opens 8 = .ok (.ifCond .ne 9, 3) := by decide +kernel
theorem dX11_opens_11 : decode cX11_opens 11 = .ok (.aload_n 0, 1) := by decide +kernel
theorem dX11_opens_12 : decode cX11_opens 12 = .ok (.iconst 2, 1) := by decide +kernel
theorem dX11_opens_13 : decode cX11_opens 13 = .ok (.invokevirtual 126, 3) := by decide +kernel
theorem dX11_opens_16 : decode cX11_opens 16 = .ok (.ireturn, 1) := by decide +kernel
theorem dX11_opens_17 : decode cX11_opens 17 = .ok (.aload_n 0, 1) := by decide +kernel
theorem dX11_opens_18 : decode cX11_opens 18 = .ok (.getfield 45, 3) := by decide +kernel
theorem dX11_opens_21 : decode cX11_opens 21 = .ok (.invokevirtual 320, 3) := by decide +kernel
theorem dX11_opens_24 : decode cX11_opens 24 = .ok (.ifCond .ne 10, 3) := by decide +kernel
theorem dX11_opens_27 : decode cX11_opens 27 = .ok (.aload_n 0, 1) := by decide +kernel
theorem dX11_opens_28 : decode cX11_opens 28 = .ok (.bipush 8, 2) := by decide +kernel
theorem dX11_opens_30 : decode cX11_opens 30 = .ok (.invokevirtual 126, 3) := by decide +kernel
theorem dX11_opens_33 : decode cX11_opens 33 = .ok (.ireturn, 1) := by decide +kernel
theorem dX11_opens_34 : decode cX11_opens 34 = .ok (.aload_n 0, 1) := by decide +kernel
theorem dX11_opens_35 : decode cX11_opens 35 = .ok (.aload_n 0, 1) := by decide +kernel
theorem dX11_opens_36 : decode cX11_opens 36 = .ok (.getfield 45, 3) := by decide +kernel
theorem dX11_opens_39 : decode cX11_opens 39 = .ok (.iload_n 1, 1) := by decide +kernel
theorem dX11_opens_40 : decode cX11_opens 40 = .ok (.invokevirtual 355, 3) := by decide +kernel
theorem dX11_opens_43 : decode cX11_opens 43 = .ok (.ldc2_w 349, 3) := by decide +kernel
theorem dX11_opens_46 : decode cX11_opens 46 = .ok (.invokevirtual 351, 3) := by decide +kernel
theorem dX11_opens_49 : decode cX11_opens 49 = .ok (.ireturn, 1) := by decide +kernel
theorem dX11_part_0 : decode cX11_part 0 = .ok (.aload_n 0, 1) := by decide +kernel
theorem dX11_part_1 : decode cX11_part 1 = .ok (.getfield 45, 3) := by decide +kernel
theorem dX11_part_4 : decode cX11_part 4 = .ok (.invokevirtual 320, 3) := by decide +kernel
theorem dX11_part_7 : decode cX11_part 7 = .ok (.ifCond .ne 10, 3) := by decide +kernel
theorem dX11_part_10 : decode cX11_part 10 = .ok (.aload_n 0, 1) := by decide +kernel
theorem dX11_part_11 : decode cX11_part 11 = .ok (.bipush 8, 2) := by decide +kernel
theorem dX11_part_13 : decode cX11_part 13 = .ok (.invokevirtual 148, 3) := by decide +kernel
theorem dX11_part_16 : decode cX11_part 16 = .ok (.ireturn, 1) := by decide +kernel
theorem dX11_part_17 : decode cX11_part 17 = .ok (.iload_n 1, 1) := by decide +kernel
theorem dX11_part_18 : decode cX11_part 18 = .ok (.ifCond .lt 21, 3) := by decide +kernel
theorem dX11_part_21 : decode cX11_part 21 = .ok (.iload_n 1, 1) := by decide +kernel
theorem dX11_part_22 : decode cX11_part 22 = .ok (.aload_n 0, 1) := by decide +kernel
theorem dX11_part_23 : decode cX11_part 23 = .ok (.getfield 45, 3) := by decide +kernel
theorem dX11_part_26 : decode cX11_part 26 = .ok (.getfield 323, 3) := by decide +kernel
theorem dX11_part_29 : decode cX11_part 29 = .ok (.if_icmp .ge 10, 3) := by decide +kernel
theorem dX11_part_32 : decode cX11_part 32 = .ok (.iload_n 2, 1) := by decide +kernel
theorem dX11_part_33 : decode cX11_part 33 = .ok (.invokestatic 326, 3) := by decide +kernel
theorem dX11_part_36 : decode cX11_part 36 = .ok (.ifCond .ne 9, 3) := by decide +kernel
theorem dX11_part_39 : decode cX11_part 39 = .ok (.aload_n 0, 1) := by decide +kernel
theorem dX11_part_40 : decode cX11_part 40 = .ok (.iconst 5, 1) := by decide +kernel
theorem dX11_part_41 : decode cX11_part 41 = .ok (.invokevirtual 148, 3) := by decide +kernel
theorem dX11_part_44 : decode cX11_part 44 = .ok (.ireturn, 1) := by decide +kernel
theorem dX11_part_45 : decode cX11_part 45 = .ok (.aload_n 0, 1) := by decide +kernel
theorem dX11_part_46 : decode cX11_part 46 = .ok (.aload_n 0, 1) := by decide +kernel
theorem dX11_part_47 : decode cX11_part 47 = .ok (.getfield 45, 3) := by decide +kernel
theorem dX11_part_50 : decode cX11_part 50 = .ok (.iload_n 1, 1) := by decide +kernel
theorem dX11_part_51 : decode cX11_part 51 = .ok (.iload_n 2, 1) := by decide +kernel
theorem dX11_part_52 : decode cX11_part 52 = .ok (.invokevirtual 329, 3) := by decide +kernel
theorem dX11_part_55 : decode cX11_part 55 = .ok (.l2i, 1) := by decide +kernel
theorem dX11_part_56 : decode cX11_part 56 = .ok (.invokevirtual 195, 3) := by decide +kernel
theorem dX11_part_59 : decode cX11_part 59 = .ok (.ireturn, 1) := by decide +kernel
theorem dX11_play_0 : decode cX11_play 0 = .ok (.aload_n 0, 1) := by decide +kernel
theorem dX11_play_1 : decode cX11_play 1 = .ok (.getfield 36, 3) := by decide +kernel
theorem dX11_play_4 : decode cX11_play 4 = .ok (.iload_n 1, 1) := by decide +kernel
theorem dX11_play_5 : decode cX11_play 5 = .ok (.invokevirtual 266, 3) := by decide +kernel
theorem dX11_play_8 : decode cX11_play 8 = .ok (.ifCond .eq 14, 3) := by decide +kernel
theorem dX11_play_11 : decode cX11_play 11 = .ok (.aload_n 0, 1) := by decide +kernel
theorem dX11_play_12 : decode cX11_play 12 = .ok (.getfield 36, 3) := by decide +kernel
theorem dX11_play_15 : decode cX11_play 15 = .ok (.iload_n 2, 1) := by decide +kernel
theorem dX11_play_16 : decode cX11_play 16 = .ok (.invokevirtual 275, 3) := by decide +kernel
theorem dX11_play_19 : decode cX11_play 19 = .ok (.ifCond .ne 9, 3) := by decide +kernel
theorem dX11_play_22 : decode cX11_play 22 = .ok (.aload_n 0, 1) := by decide +kernel
theorem dX11_play_23 : decode cX11_play 23 = .ok (.iconst 2, 1) := by decide +kernel
theorem dX11_play_24 : decode cX11_play 24 = .ok (.invokevirtual 148, 3) := by decide +kernel
theorem dX11_play_27 : decode cX11_play 27 = .ok (.ireturn, 1) := by decide +kernel
theorem dX11_play_28 : decode cX11_play 28 = .ok (.iload_n 3, 1) := by decide +kernel
theorem dX11_play_29 : decode cX11_play 29 = .ok (.ifCond .lt 10, 3) := by decide +kernel
theorem dX11_play_32 : decode cX11_play 32 = .ok (.iload_n 3, 1) := by decide +kernel
theorem dX11_play_33 : decode cX11_play 33 = .ok (.sipush 9999, 3) := by decide +kernel
theorem dX11_play_36 : decode cX11_play 36 = .ok (.if_icmp .le 9, 3) := by decide +kernel
theorem dX11_play_39 : decode cX11_play 39 = .ok (.aload_n 0, 1) := by decide +kernel
theorem dX11_play_40 : decode cX11_play 40 = .ok (.iconst 5, 1) := by decide +kernel
theorem dX11_play_41 : decode cX11_play 41 = .ok (.invokevirtual 148, 3) := by decide +kernel
theorem dX11_play_44 : decode cX11_play 44 = .ok (.ireturn, 1) := by decide +kernel
theorem dX11_play_45 : decode cX11_play 45 = .ok (.aload_n 0, 1) := by decide +kernel
theorem dX11_play_46 : decode cX11_play 46 = .ok (.getfield 36, 3) := by decide +kernel
theorem dX11_play_49 : decode cX11_play 49 = .ok (.iload_n 1, 1) := by decide +kernel
theorem dX11_play_50 : decode cX11_play 50 = .ok (.invokevirtual 269, 3) := by decide +kernel
theorem dX11_play_53 : decode cX11_play 53 = .ok (.ifCond .ne 10, 3) := by decide +kernel
theorem dX11_play_56 : decode cX11_play 56 = .ok (.aload_n 0, 1) := by decide +kernel
theorem dX11_play_57 : decode cX11_play 57 = .ok (.bipush 8, 2) := by decide +kernel
theorem dX11_play_59 : decode cX11_play 59 = .ok (.invokevirtual 148, 3) := by decide +kernel
theorem dX11_play_62 : decode cX11_play 62 = .ok (.ireturn, 1) := by decide +kernel
theorem dX11_play_63 : decode cX11_play 63 = .ok (.aload_n 0, 1) := by decide +kernel
theorem dX11_play_64 : decode cX11_play 64 = .ok (.getfield 102, 3) := by decide +kernel
theorem dX11_play_67 : decode cX11_play 67 = .ok (.iload_n 1, 1) := by decide +kernel
theorem dX11_play_68 : decode cX11_play 68 = .ok (.iload_n 2, 1) := by decide +kernel
theorem dX11_play_69 : decode cX11_play 69 = .ok (.iload_n 3, 1) := by decide +kernel
theorem dX11_play_70 : decode cX11_play 70 = .ok (.invokevirtual 432, 3) := by decide +kernel
theorem dX11_play_73 : decode cX11_play 73 = .ok (.aload_n 0, 1) := by decide +kernel
theorem dX11_play_74 : decode cX11_play 74 = .ok (.getfield 102, 3) := by decide +kernel
theorem dX11_play_77 : decode cX11_play 77 = .ok (.invokevirtual 435, 3) := by decide +kernel
theorem dX11_play_80 : decode cX11_play 80 = .ok (.aload_n 0, 1) := by decide +kernel
theorem dX11_play_81 : decode cX11_play 81 = .ok (.aload_n 0, 1) := by decide +kernel
theorem dX11_play_82 : decode cX11_play 82 = .ok (.getfield 102, 3) := by decide +kernel
theorem dX11_play_85 : decode cX11_play 85 = .ok (.getfield 437, 3) := by decide +kernel
theorem dX11_play_88 : decode cX11_play 88 = .ok (.ifCond .eq 7, 3) := by decide +kernel
theorem dX11_play_91 : decode cX11_play 91 = .ok (.iconst 1, 1) := by decide +kernel
theorem dX11_play_92 : decode cX11_play 92 = .ok (.goto 4, 3) := by decide +kernel
theorem dX11_play_95 : decode cX11_play 95 = .ok (.iconst 0, 1) := by decide +kernel
theorem dX11_play_96 : decode cX11_play 96 = .ok (.invokevirtual 195, 3) := by decide +kernel
theorem dX11_play_99 : decode cX11_play 99 = .ok (.ireturn, 1) := by decide +kernel
theorem dX11_played_0 : decode cX11_played 0 = .ok (.aload_n 0, 1) := by decide +kernel
theorem dX11_played_1 : decode cX11_played 1 = .ok (.getfield 102, 3) := by decide +kernel
theorem dX11_played_4 : decode cX11_played 4 = .ok (.iload_n 1, 1) := by decide +kernel
theorem dX11_played_5 : decode cX11_played 5 = .ok (.invokevirtual 441, 3) := by decide +kernel
theorem dX11_played_8 : decode cX11_played 8 = .ok (.ifCond .ne 9, 3) := by decide +kernel
theorem dX11_played_11 : decode cX11_played 11 = .ok (.aload_n 0, 1) := by decide +kernel
theorem dX11_played_12 : decode cX11_played 12 = .ok (.iconst 5, 1) := by decide +kernel
theorem dX11_played_13 : decode cX11_played 13 = .ok (.invokevirtual 148, 3) := by decide +kernel
theorem dX11_played_16 : decode cX11_played 16 = .ok (.ireturn, 1) := by decide +kernel
theorem dX11_played_17 : decode cX11_played 17 = .ok (.aload_n 0, 1) := by decide +kernel
theorem dX11_played_18 : decode cX11_played 18 = .ok (.getfield 102, 3) := by decide +kernel
theorem dX11_played_21 : decode cX11_played 21 = .ok (.getfield 444, 3) := by decide +kernel
theorem dX11_played_24 : decode cX11_played 24 = .ok (.ifCond .ne 10, 3) := by decide +kernel
theorem dX11_played_27 : decode cX11_played 27 = .ok (.aload_n 0, 1) := by decide +kernel
theorem dX11_played_28 : decode cX11_played 28 = .ok (.bipush 8, 2) := by decide +kernel
theorem dX11_played_30 : decode cX11_played 30 = .ok (.invokevirtual 148, 3) := by decide +kernel
theorem dX11_played_33 : decode cX11_played 33 = .ok (.ireturn, 1) := by decide +kernel
theorem dX11_played_34 : decode cX11_played 34 = .ok (.aload_n 0, 1) := by decide +kernel
theorem dX11_played_35 : decode cX11_played 35 = .ok (.aload_n 0, 1) := by decide +kernel
theorem dX11_played_36 : decode cX11_played 36 = .ok (.getfield 102, 3) := by decide +kernel
theorem dX11_played_39 : decode cX11_played 39 = .ok (.iload_n 1, 1) := by decide +kernel
theorem dX11_played_40 : decode cX11_played 40 = .ok (.invokevirtual 447, 3) := by decide +kernel
theorem dX11_played_43 : decode cX11_played 43 = .ok (.invokevirtual 195, 3) := by decide +kernel
theorem dX11_played_46 : decode cX11_played 46 = .ok (.ireturn, 1) := by decide +kernel
theorem dX11_pour_0 : decode cX11_pour 0 = .ok (.aload_n 0, 1) := by decide +kernel
theorem dX11_pour_1 : decode cX11_pour 1 = .ok (.iload_n 1, 1) := by decide +kernel
theorem dX11_pour_2 : decode cX11_pour 2 = .ok (.invokevirtual 122, 3) := by decide +kernel
theorem dX11_pour_5 : decode cX11_pour 5 = .ok (.astore 6, 2) := by decide +kernel
theorem dX11_pour_7 : decode cX11_pour 7 = .ok (.aload_n 0, 1) := by decide +kernel
theorem dX11_pour_8 : decode cX11_pour 8 = .ok (.iload_n 3, 1) := by decide +kernel
theorem dX11_pour_9 : decode cX11_pour 9 = .ok (.invokevirtual 122, 3) := by decide +kernel
theorem dX11_pour_12 : decode cX11_pour 12 = .ok (.astore 7, 2) := by decide +kernel
theorem dX11_pour_14 : decode cX11_pour 14 = .ok (.aload 6, 2) := by decide +kernel
theorem dX11_pour_16 : decode cX11_pour 16 = .ok (.ifnull 8, 3) := by decide +kernel
theorem dX11_pour_19 : decode cX11_pour 19 = .ok (.aload 7, 2) := by decide +kernel
theorem dX11_pour_21 : decode cX11_pour 21 = .ok (.ifnonnull 9, 3) := by decide +kernel
theorem dX11_pour_24 : decode cX11_pour 24 = .ok (.aload_n 0, 1) := by decide +kernel
theorem dX11_pour_25 : decode cX11_pour 25 = .ok (.iconst 1, 1) := by decide +kernel
theorem dX11_pour_26 : decode cX11_pour 26 = .ok (.invokevirtual 126, 3) := by decide +kernel
theorem dX11_pour_29 : decode cX11_pour 29 = .ok (.ireturn, 1) := by decide +kernel
theorem dX11_pour_30 : decode cX11_pour 30 = .ok (.aload 6, 2) := by decide +kernel
theorem dX11_pour_32 : decode cX11_pour 32 = .ok (.invokevirtual 138, 3) := by decide +kernel
theorem dX11_pour_35 : decode cX11_pour 35 = .ok (.ifCond .ne 11, 3) := by decide +kernel
theorem dX11_pour_38 : decode cX11_pour 38 = .ok (.aload 7, 2) := by decide +kernel
theorem dX11_pour_40 : decode cX11_pour 40 = .ok (.invokevirtual 138, 3) := by decide +kernel
theorem dX11_pour_43 : decode cX11_pour 43 = .ok (.ifCond .eq 9, 3) := by decide +kernel
theorem dX11_pour_46 : decode cX11_pour 46 = .ok (.aload_n 0, 1) := by decide +kernel
theorem dX11_pour_47 : decode cX11_pour 47 = .ok (.iconst 3, 1) := by decide +kernel
theorem dX11_pour_48 : decode cX11_pour 48 = .ok (.invokevirtual 126, 3) := by decide +kernel
theorem dX11_pour_51 : decode cX11_pour 51 = .ok (.ireturn, 1) := by decide +kernel
theorem dX11_pour_52 : decode cX11_pour 52 = .ok (.aload 6, 2) := by decide +kernel
theorem dX11_pour_54 : decode cX11_pour 54 = .ok (.getfield 156, 3) := by decide +kernel
theorem dX11_pour_57 : decode cX11_pour 57 = .ok (.aload 7, 2) := by decide +kernel
theorem dX11_pour_59 : decode cX11_pour 59 = .ok (.getfield 156, 3) := by decide +kernel
theorem dX11_pour_62 : decode cX11_pour 62 = .ok (.if_icmp .eq 10, 3) := by decide +kernel
theorem dX11_pour_65 : decode cX11_pour 65 = .ok (.aload_n 0, 1) := by decide +kernel
theorem dX11_pour_66 : decode cX11_pour 66 = .ok (.bipush 11, 2) := by decide +kernel
theorem dX11_pour_68 : decode cX11_pour 68 = .ok (.invokevirtual 126, 3) := by decide +kernel
theorem dX11_pour_71 : decode cX11_pour 71 = .ok (.ireturn, 1) := by decide +kernel
theorem dX11_pour_72 : decode cX11_pour 72 = .ok (.iload 5, 2) := by decide +kernel
theorem dX11_pour_74 : decode cX11_pour 74 = .ok (.ifCond .ge 10, 3) := by decide +kernel
theorem dX11_pour_77 : decode cX11_pour 77 = .ok (.aload_n 0, 1) := by decide +kernel
theorem dX11_pour_78 : decode cX11_pour 78 = .ok (.bipush 6, 2) := by decide +kernel
theorem dX11_pour_80 : decode cX11_pour 80 = .ok (.invokevirtual 126, 3) := by decide +kernel
theorem dX11_pour_83 : decode cX11_pour 83 = .ok (.ireturn, 1) := by decide +kernel
theorem dX11_pour_84 : decode cX11_pour 84 = .ok (.aload 6, 2) := by decide +kernel
theorem dX11_pour_86 : decode cX11_pour 86 = .ok (.iload_n 2, 1) := by decide +kernel
theorem dX11_pour_87 : decode cX11_pour 87 = .ok (.iload 5, 2) := by decide +kernel
theorem dX11_pour_89 : decode cX11_pour 89 = .ok (.invokevirtual 159, 3) := by decide +kernel
theorem dX11_pour_92 : decode cX11_pour 92 = .ok (.ifCond .eq 15, 3) := by decide +kernel
theorem dX11_pour_95 : decode cX11_pour 95 = .ok (.aload 7, 2) := by decide +kernel
theorem dX11_pour_97 : decode cX11_pour 97 = .ok (.iload 4, 2) := by decide +kernel
theorem dX11_pour_99 : decode cX11_pour 99 = .ok (.iload 5, 2) := by decide +kernel
theorem dX11_pour_101 : decode cX11_pour 101 = .ok (.invokevirtual 159, 3) := by decide +kernel
theorem dX11_pour_104 : decode cX11_pour 104 = .ok (.ifCond .ne 9, 3) := by decide +kernel
theorem dX11_pour_107 : decode cX11_pour 107 = .ok (.aload_n 0, 1) := by decide +kernel
theorem dX11_pour_108 : decode cX11_pour 108 = .ok (.iconst 4, 1) := by decide +kernel
theorem dX11_pour_109 : decode cX11_pour 109 = .ok (.invokevirtual 126, 3) := by decide +kernel
theorem dX11_pour_112 : decode cX11_pour 112 = .ok (.ireturn, 1) := by decide +kernel
theorem dX11_pour_113 : decode cX11_pour 113 = .ok (.aload 7, 2) := by decide +kernel
theorem dX11_pour_115 : decode cX11_pour 115 = .ok (.aload 6, 2) := by decide +kernel
theorem dX11_pour_117 : decode cX11_pour 117 = .ok (.iload_n 2, 1) := by decide +kernel
theorem dX11_pour_118 : decode cX11_pour 118 = .ok (.iload 4, 2) := by decide +kernel
theorem dX11_pour_120 : decode cX11_pour 120 = .ok (.iload 5, 2) := by decide +kernel
theorem dX11_pour_122 : decode cX11_pour 122 = .ok (.invokevirtual 163, 3) := by decide +kernel
theorem dX11_pour_125 : decode cX11_pour 125 = .ok (.aload_n 0, 1) := by decide +kernel
theorem dX11_pour_126 : decode cX11_pour 126 = .ok (.invokevirtual 134, 3) := by decide +kernel
theorem dX11_pour_129 : decode cX11_pour 129 = .ok (.ireturn, 1) := by decide +kernel
theorem dX11_put_0 : decode cX11_put 0 = .ok (.aload_n 0, 1) := by decide +kernel
theorem dX11_put_1 : decode cX11_put 1 = .ok (.getfield 36, 3) := by decide +kernel
theorem dX11_put_4 : decode cX11_put 4 = .ok (.iload_n 1, 1) := by decide +kernel
theorem dX11_put_5 : decode cX11_put 5 = .ok (.invokevirtual 250, 3) := by decide +kernel
theorem dX11_put_8 : decode cX11_put 8 = .ok (.ifCond .eq 14, 3) := by decide +kernel
theorem dX11_put_11 : decode cX11_put 11 = .ok (.aload_n 0, 1) := by decide +kernel
theorem dX11_put_12 : decode cX11_put 12 = .ok (.getfield 36, 3) := by decide +kernel
theorem dX11_put_15 : decode cX11_put 15 = .ok (.iload_n 2, 1) := by decide +kernel
theorem dX11_put_16 : decode cX11_put 16 = .ok (.invokevirtual 266, 3) := by decide +kernel
theorem dX11_put_19 : decode cX11_put 19 = .ok (.ifCond .ne 9, 3) := by decide +kernel
theorem dX11_put_22 : decode cX11_put 22 = .ok (.aload_n 0, 1) := by decide +kernel
theorem dX11_put_23 : decode cX11_put 23 = .ok (.iconst 2, 1) := by decide +kernel
theorem dX11_put_24 : decode cX11_put 24 = .ok (.invokevirtual 126, 3) := by decide +kernel
theorem dX11_put_27 : decode cX11_put 27 = .ok (.ireturn, 1) := by decide +kernel
theorem dX11_put_28 : decode cX11_put 28 = .ok (.iload_n 3, 1) := by decide +kernel
theorem dX11_put_29 : decode cX11_put 29 = .ok (.ifCond .lt 15, 3) := by decide +kernel
theorem dX11_put_32 : decode cX11_put 32 = .ok (.iload_n 3, 1) := by decide +kernel
theorem dX11_put_33 : decode cX11_put 33 = .ok (.aload_n 0, 1) := by decide +kernel
theorem dX11_put_34 : decode cX11_put 34 = .ok (.getfield 36, 3) := by decide +kernel
theorem dX11_put_37 : decode cX11_put 37 = .ok (.iload_n 2, 1) := by decide +kernel
theorem dX11_put_38 : decode cX11_put 38 = .ok (.invokevirtual 295, 3) := by decide +kernel
theorem dX11_put_41 : decode cX11_put 41 = .ok (.if_icmp .le 9, 3) := by decide +kernel
theorem dX11_put_44 : decode cX11_put 44 = .ok (.aload_n 0, 1) := by decide +kernel
theorem dX11_put_45 : decode cX11_put 45 = .ok (.iconst 5, 1) := by decide +kernel
theorem dX11_put_46 : decode cX11_put 46 = .ok (.invokevirtual 126, 3) := by decide +kernel
theorem dX11_put_49 : decode cX11_put 49 = .ok (.ireturn, 1) := by decide +kernel
theorem dX11_put_50 : decode cX11_put 50 = .ok (.aload_n 0, 1) := by decide +kernel
theorem dX11_put_51 : decode cX11_put 51 = .ok (.getfield 36, 3) := by decide +kernel
theorem dX11_put_54 : decode cX11_put 54 = .ok (.iload_n 1, 1) := by decide +kernel
theorem dX11_put_55 : decode cX11_put 55 = .ok (.invokevirtual 259, 3) := by decide +kernel
theorem dX11_put_58 : decode cX11_put 58 = .ok (.iconst (-1), 1) := by decide +kernel
theorem dX11_put_59 : decode cX11_put 59 = .ok (.if_icmp .eq 10, 3) := by decide +kernel
theorem dX11_put_62 : decode cX11_put 62 = .ok (.aload_n 0, 1) := by decide +kernel
theorem dX11_put_63 : decode cX11_put 63 = .ok (.bipush 9, 2) := by decide +kernel
theorem dX11_put_65 : decode cX11_put 65 = .ok (.invokevirtual 126, 3) := by decide +kernel
theorem dX11_put_68 : decode cX11_put 68 = .ok (.ireturn, 1) := by decide +kernel
theorem dX11_put_69 : decode cX11_put 69 = .ok (.aload_n 0, 1) := by decide +kernel
theorem dX11_put_70 : decode cX11_put 70 = .ok (.getfield 36, 3) := by decide +kernel
theorem dX11_put_73 : decode cX11_put 73 = .ok (.iload_n 1, 1) := by decide +kernel
theorem dX11_put_74 : decode cX11_put 74 = .ok (.iload_n 2, 1) := by decide +kernel
theorem dX11_put_75 : decode cX11_put 75 = .ok (.iload_n 3, 1) := by decide +kernel
theorem dX11_put_76 : decode cX11_put 76 = .ok (.invokevirtual 313, 3) := by decide +kernel
theorem dX11_put_79 : decode cX11_put 79 = .ok (.aload_n 0, 1) := by decide +kernel
theorem dX11_put_80 : decode cX11_put 80 = .ok (.getfield 45, 3) := by decide +kernel
theorem dX11_put_83 : decode cX11_put 83 = .ok (.iload_n 2, 1) := by decide +kernel
theorem dX11_put_84 : decode cX11_put 84 = .ok (.invokevirtual 306, 3) := by decide +kernel
theorem dX11_put_87 : decode cX11_put 87 = .ok (.aload_n 0, 1) := by decide +kernel
theorem dX11_put_88 : decode cX11_put 88 = .ok (.invokevirtual 134, 3) := by decide +kernel
theorem dX11_put_91 : decode cX11_put 91 = .ok (.ireturn, 1) := by decide +kernel
theorem dX11_read_0 : decode cX11_read 0 = .ok (.aload_n 0, 1) := by decide +kernel
theorem dX11_read_1 : decode cX11_read 1 = .ok (.iload_n 1, 1) := by decide +kernel
theorem dX11_read_2 : decode cX11_read 2 = .ok (.invokevirtual 122, 3) := by decide +kernel
theorem dX11_read_5 : decode cX11_read 5 = .ok (.astore_n 3, 1) := by decide +kernel
theorem dX11_read_6 : decode cX11_read 6 = .ok (.aload_n 3, 1) := by decide +kernel
theorem dX11_read_7 : decode cX11_read 7 = .ok (.ifnonnull 10, 3) := by decide +kernel
theorem dX11_read_10 : decode cX11_read 10 = .ok (.aload_n 0, 1) := by decide +kernel
theorem dX11_read_11 : decode cX11_read 11 = .ok (.iconst 1, 1) := by decide +kernel
theorem dX11_read_12 : decode cX11_read 12 = .ok (.invokevirtual 148, 3) := by decide +kernel
theorem dX11_read_15 : decode cX11_read 15 = .ok (.i2l, 1) := by decide +kernel
theorem dX11_read_16 : decode cX11_read 16 = .ok (.lreturn, 1) := by decide +kernel
theorem dX11_read_17 : decode cX11_read 17 = .ok (.aload_n 3, 1) := by decide +kernel
theorem dX11_read_18 : decode cX11_read 18 = .ok (.invokevirtual 138, 3) := by decide +kernel
theorem dX11_read_21 : decode cX11_read 21 = .ok (.ifCond .eq 10, 3) := by decide +kernel
theorem dX11_read_24 : decode cX11_read 24 = .ok (.aload_n 0, 1) := by decide +kernel
theorem dX11_read_25 : decode cX11_read 25 = .ok (.iconst 3, 1) := by decide +kernel
theorem dX11_read_26 : decode cX11_read 26 = .ok (.invokevirtual 148, 3) := by decide +kernel
theorem dX11_read_29 : decode cX11_read 29 = .ok (.i2l, 1) := by decide +kernel
theorem dX11_read_30 : decode cX11_read 30 = .ok (.lreturn, 1) := by decide +kernel
theorem dX11_read_31 : decode cX11_read 31 = .ok (.aload_n 3, 1) := by decide +kernel
theorem dX11_read_32 : decode cX11_read 32 = .ok (.iload_n 2, 1) := by decide +kernel
theorem dX11_read_33 : decode cX11_read 33 = .ok (.invokevirtual 141, 3) := by decide +kernel
theorem dX11_read_36 : decode cX11_read 36 = .ok (.ifCond .ne 10, 3) := by decide +kernel
theorem dX11_read_39 : decode cX11_read 39 = .ok (.aload_n 0, 1) := by decide +kernel
theorem dX11_read_40 : decode cX11_read 40 = .ok (.iconst 4, 1) := by decide +kernel
theorem dX11_read_41 : decode cX11_read 41 = .ok (.invokevirtual 148, 3) := by decide +kernel
theorem dX11_read_44 : decode cX11_read 44 = .ok (.i2l, 1) := by decide +kernel
theorem dX11_read_45 : decode cX11_read 45 = .ok (.lreturn, 1) := by decide +kernel
theorem dX11_read_46 : decode cX11_read 46 = .ok (.aload_n 0, 1) := by decide +kernel
theorem dX11_read_47 : decode cX11_read 47 = .ok (.iconst 0, 1) := by decide +kernel
theorem dX11_read_48 : decode cX11_read 48 = .ok (.putfield 9, 3) := by decide +kernel
theorem dX11_read_51 : decode cX11_read 51 = .ok (.aload_n 3, 1) := by decide +kernel
theorem dX11_read_52 : decode cX11_read 52 = .ok (.iload_n 2, 1) := by decide +kernel
theorem dX11_read_53 : decode cX11_read 53 = .ok (.invokevirtual 152, 3) := by decide +kernel
theorem dX11_read_56 : decode cX11_read 56 = .ok (.lreturn, 1) := by decide +kernel
theorem dX11_refused_0 : decode cX11_refused 0 = .ok (.aload_n 0, 1) := by decide +kernel
theorem dX11_refused_1 : decode cX11_refused 1 = .ok (.iload_n 1, 1) := by decide +kernel
theorem dX11_refused_2 : decode cX11_refused 2 = .ok (.putfield 9, 3) := by decide +kernel
theorem dX11_refused_5 : decode cX11_refused 5 = .ok (.iconst 0, 1) := by decide +kernel
theorem dX11_refused_6 : decode cX11_refused 6 = .ok (.ireturn, 1) := by decide +kernel
theorem dX11_ring_0 : decode cX11_ring 0 = .ok (.aload_n 0, 1) := by decide +kernel
theorem dX11_ring_1 : decode cX11_ring 1 = .ok (.getfield 36, 3) := by decide +kernel
theorem dX11_ring_4 : decode cX11_ring 4 = .ok (.iload_n 1, 1) := by decide +kernel
theorem dX11_ring_5 : decode cX11_ring 5 = .ok (.invokevirtual 266, 3) := by decide +kernel
theorem dX11_ring_8 : decode cX11_ring 8 = .ok (.ifCond .ne 9, 3) := by decide +kernel
theorem dX11_ring_11 : decode cX11_ring 11 = .ok (.aload_n 0, 1) := by decide +kernel
theorem dX11_ring_12 : decode cX11_ring 12 = .ok (.iconst 2, 1) := by decide +kernel
theorem dX11_ring_13 : decode cX11_ring 13 = .ok (.invokevirtual 148, 3) := by decide +kernel
theorem dX11_ring_16 : decode cX11_ring 16 = .ok (.ireturn, 1) := by decide +kernel
theorem dX11_ring_17 : decode cX11_ring 17 = .ok (.iload_n 2, 1) := by decide +kernel
theorem dX11_ring_18 : decode cX11_ring 18 = .ok (.iconst (-1), 1) := by decide +kernel
theorem dX11_ring_19 : decode cX11_ring 19 = .ok (.if_icmp .ne 16, 3) := by decide +kernel
theorem dX11_ring_22 : decode cX11_ring 22 = .ok (.aload_n 0, 1) := by decide +kernel
theorem dX11_ring_23 : decode cX11_ring 23 = .ok (.aload_n 0, 1) := by decide +kernel
theorem dX11_ring_24 : decode cX11_ring 24 = .ok (.getfield 36, 3) := by decide +kernel
theorem dX11_ring_27 : decode cX11_ring 27 = .ok (.iload_n 1, 1) := by decide +kernel
theorem dX11_ring_28 : decode cX11_ring 28 = .ok (.invokevirtual 269, 3) := by decide +kernel
theorem dX11_ring_31 : decode cX11_ring 31 = .ok (.invokevirtual 195, 3) := by decide +kernel
theorem dX11_ring_34 : decode cX11_ring 34 = .ok (.ireturn, 1) := by decide +kernel
theorem dX11_ring_35 : decode cX11_ring 35 = .ok (.aload_n 0, 1) := by decide +kernel
theorem dX11_ring_36 : decode cX11_ring 36 = .ok (.getfield 36, 3) := by decide +kernel
theorem dX11_ring_39 : decode cX11_ring 39 = .ok (.iload_n 1, 1) := by decide +kernel
theorem dX11_ring_40 : decode cX11_ring 40 = .ok (.iload_n 2, 1) := by decide +kernel
theorem dX11_ring_41 : decode cX11_ring 41 = .ok (.invokevirtual 272, 3) := by decide +kernel
theorem dX11_ring_44 : decode cX11_ring 44 = .ok (.istore_n 3, 1) := by decide +kernel
theorem dX11_ring_45 : decode cX11_ring 45 = .ok (.iload_n 3, 1) := by decide +kernel
theorem dX11_ring_46 : decode cX11_ring 46 = .ok (.iconst (-1), 1) := by decide +kernel
theorem dX11_ring_47 : decode cX11_ring 47 = .ok (.if_icmp .ne 10, 3) := by decide +kernel
theorem dX11_ring_50 : decode cX11_ring 50 = .ok (.aload_n 0, 1) := by decide +kernel
theorem dX11_ring_51 : decode cX11_ring 51 = .ok (.bipush 8, 2) := by decide +kernel
theorem dX11_ring_53 : decode cX11_ring 53 = .ok (.invokevirtual 148, 3) := by decide +kernel
theorem dX11_ring_56 : decode cX11_ring 56 = .ok (.ireturn, 1) := by decide +kernel
theorem dX11_ring_57 : decode cX11_ring 57 = .ok (.aload_n 0, 1) := by decide +kernel
theorem dX11_ring_58 : decode cX11_ring 58 = .ok (.iload_n 3, 1) := by decide +kernel
theorem dX11_ring_59 : decode cX11_ring 59 = .ok (.invokevirtual 195, 3) := by decide +kernel
theorem dX11_ring_62 : decode cX11_ring 62 = .ok (.ireturn, 1) := by decide +kernel
theorem dX11_round_0 : decode cX11_round 0 = .ok (.iload_n 1, 1) := by decide +kernel
theorem dX11_round_1 : decode cX11_round 1 = .ok (.ifCond .lt 14, 3) := by decide +kernel
theorem dX11_round_4 : decode cX11_round 4 = .ok (.iload_n 1, 1) := by decide +kernel
theorem dX11_round_5 : decode cX11_round 5 = .ok (.aload_n 0, 1) := by decide +kernel
theorem dX11_round_6 : decode cX11_round 6 = .ok (.getfield 36, 3) := by decide +kernel
theorem dX11_round_9 : decode cX11_round 9 = .ok (.getfield 222, 3) := by decide +kernel
theorem dX11_round_12 : decode cX11_round 12 = .ok (.if_icmp .lt 10, 3) := by decide +kernel
theorem dX11_round_15 : decode cX11_round 15 = .ok (.aload_n 0, 1) := by decide +kernel
theorem dX11_round_16 : decode cX11_round 16 = .ok (.bipush 8, 2) := by decide +kernel
theorem dX11_round_18 : decode cX11_round 18 = .ok (.invokevirtual 148, 3) := by decide +kernel
theorem dX11_round_21 : decode cX11_round 21 = .ok (.ireturn, 1) := by decide +kernel
theorem dX11_round_22 : decode cX11_round 22 = .ok (.aload_n 0, 1) := by decide +kernel
theorem dX11_round_23 : decode cX11_round 23 = .ok (.aload_n 0, 1) := by decide +kernel
theorem dX11_round_24 : decode cX11_round 24 = .ok (.getfield 36, 3) := by decide +kernel
theorem dX11_round_27 : decode cX11_round 27 = .ok (.getfield 284, 3) := by decide +kernel
theorem dX11_round_30 : decode cX11_round 30 = .ok (.iload_n 1, 1) := by decide +kernel
theorem dX11_round_31 : decode cX11_round 31 = .ok (.invokestatic 288, 3) := by decide +kernel
theorem dX11_round_34 : decode cX11_round 34 = .ok (.invokevirtual 195, 3) := by decide +kernel
theorem dX11_round_37 : decode cX11_round 37 = .ok (.ireturn, 1) := by decide +kernel
theorem dX11_rule_0 : decode cX11_rule 0 = .ok (.iload_n 1, 1) := by decide +kernel
theorem dX11_rule_1 : decode cX11_rule 1 = .ok (.ifCond .lt 21, 3) := by decide +kernel
theorem dX11_rule_4 : decode cX11_rule 4 = .ok (.iload_n 1, 1) := by decide +kernel
theorem dX11_rule_5 : decode cX11_rule 5 = .ok (.aload_n 0, 1) := by decide +kernel
theorem dX11_rule_6 : decode cX11_rule 6 = .ok (.getfield 29, 3) := by decide +kernel
theorem dX11_rule_9 : decode cX11_rule 9 = .ok (.getfield 174, 3) := by decide +kernel
theorem dX11_rule_12 : decode cX11_rule 12 = .ok (.if_icmp .gt 10, 3) := by decide +kernel
theorem dX11_rule_15 : decode cX11_rule 15 = .ok (.iload_n 1, 1) := by decide +kernel
theorem dX11_rule_16 : decode cX11_rule 16 = .ok (.sipush 300, 3) := by decide +kernel
theorem dX11_rule_19 : decode cX11_rule 19 = .ok (.if_icmp .le 9, 3) := by decide +kernel
theorem dX11_rule_22 : decode cX11_rule 22 = .ok (.aload_n 0, 1) := by decide +kernel
theorem dX11_rule_23 : decode cX11_rule 23 = .ok (.iconst 5, 1) := by decide +kernel
theorem dX11_rule_24 : decode cX11_rule 24 = .ok (.invokevirtual 148, 3) := by decide +kernel
theorem dX11_rule_27 : decode cX11_rule 27 = .ok (.ireturn, 1) := by decide +kernel
theorem dX11_rule_28 : decode cX11_rule 28 = .ok (.aload_n 0, 1) := by decide +kernel
theorem dX11_rule_29 : decode cX11_rule 29 = .ok (.getfield 29, 3) := by decide +kernel
theorem dX11_rule_32 : decode cX11_rule 32 = .ok (.iload_n 1, 1) := by decide +kernel
theorem dX11_rule_33 : decode cX11_rule 33 = .ok (.invokevirtual 177, 3) := by decide +kernel
theorem dX11_rule_36 : decode cX11_rule 36 = .ok (.aload_n 0, 1) := by decide +kernel
theorem dX11_rule_37 : decode cX11_rule 37 = .ok (.getfield 70, 3) := by decide +kernel
theorem dX11_rule_40 : decode cX11_rule 40 = .ok (.invokevirtual 198, 3) := by decide +kernel
theorem dX11_rule_43 : decode cX11_rule 43 = .ok (.ifCond .ne 10, 3) := by decide +kernel
theorem dX11_rule_46 : decode cX11_rule 46 = .ok (.aload_n 0, 1) := by decide +kernel
theorem dX11_rule_47 : decode cX11_rule 47 = .ok (.bipush 10, 2) := by decide +kernel
theorem dX11_rule_49 : decode cX11_rule 49 = .ok (.invokevirtual 148, 3) := by decide +kernel
theorem dX11_rule_52 : decode cX11_rule 52 = .ok (.ireturn, 1) := by decide +kernel
theorem dX11_rule_53 : decode cX11_rule 53 = .ok (.aload_n 0, 1) := by decide +kernel
theorem dX11_rule_54 : decode cX11_rule 54 = .ok (.getfield 70, 3) := by decide +kernel
theorem dX11_rule_57 : decode cX11_rule 57 = .ok (.getfield 199, 3) := by decide +kernel
theorem dX11_rule_60 : decode cX11_rule 60 = .ok (.aload_n 0, 1) := by decide +kernel
theorem dX11_rule_61 : decode cX11_rule 61 = .ok (.getfield 52, 3) := by decide +kernel
theorem dX11_rule_64 : decode cX11_rule 64 = .ok (.invokestatic 201, 3) := by decide +kernel
theorem dX11_rule_67 : decode cX11_rule 67 = .ok (.aload_n 0, 1) := by decide +kernel
theorem dX11_rule_68 : decode cX11_rule 68 = .ok (.aload_n 0, 1) := by decide +kernel
theorem dX11_rule_69 : decode cX11_rule 69 = .ok (.getfield 52, 3) := by decide +kernel
theorem dX11_rule_72 : decode cX11_rule 72 = .ok (.getfield 204, 3) := by decide +kernel
theorem dX11_rule_75 : decode cX11_rule 75 = .ok (.invokevirtual 195, 3) := by decide +kernel
theorem dX11_rule_78 : decode cX11_rule 78 = .ok (.ireturn, 1) := by decide +kernel
theorem dX11_searched_0 : decode cX11_searched 0 = .ok (.aload_n 0, 1) := by decide +kernel
theorem dX11_searched_1 : decode cX11_searched 1 = .ok (.getfield 36, 3) := by decide +kernel
theorem dX11_searched_4 : decode cX11_searched 4 = .ok (.iload_n 1, 1) := by decide +kernel
theorem dX11_searched_5 : decode cX11_searched 5 = .ok (.invokevirtual 266, 3) := by decide +kernel
theorem dX11_searched_8 : decode cX11_searched 8 = .ok (.ifCond .eq 14, 3) := by decide +kernel
theorem dX11_searched_11 : decode cX11_searched 11 = .ok (.aload_n 0, 1) := by decide +kernel
theorem dX11_searched_12 : decode cX11_searched 12 = .ok (.getfield 36, 3) := by decide +kernel
theorem dX11_searched_15 : decode cX11_searched 15 = .ok (.iload_n 2, 1) := by decide +kernel
theorem dX11_searched_16 : decode cX11_searched 16 = .ok (.invokevirtual 275, 3) := by decide +kernel
theorem dX11_searched_19 : decode cX11_searched 19 = .ok (.ifCond .ne 9, 3) := by decide +kernel
theorem dX11_searched_22 : decode cX11_searched 22 = .ok (.aload_n 0, 1) := by decide +kernel
theorem dX11_searched_23 : decode cX11_searched 23 = .ok (.iconst 2, 1) := by decide +kernel
theorem dX11_searched_24 : decode cX11_searched 24 = .ok (.invokevirtual 148, 3) := by decide +kernel
theorem dX11_searched_27 : decode cX11_searched 27 = .ok (.ireturn, 1) := by decide +kernel
theorem dX11_searched_28 : decode cX11_searched 28 = .ok (.aload_n 0, 1) := by decide +kernel
theorem dX11_searched_29 : decode cX11_searched 29 = .ok (.getfield 77, 3) := by decide +kernel
theorem dX11_searched_32 : decode cX11_searched 32 = .ok (.iload_n 1, 1) := by decide +kernel
theorem dX11_searched_33 : decode cX11_searched 33 = .ok (.invokevirtual 367, 3) := by decide +kernel
theorem dX11_searched_36 : decode cX11_searched 36 = .ok (.aload_n 0, 1) := by decide +kernel
theorem dX11_searched_37 : decode cX11_searched 37 = .ok (.getfield 77, 3) := by decide +kernel
theorem dX11_searched_40 : decode cX11_searched 40 = .ok (.iload_n 3, 1) := by decide +kernel
theorem dX11_searched_41 : decode cX11_searched 41 = .ok (.invokevirtual 370, 3) := by decide +kernel
theorem dX11_searched_44 : decode cX11_searched 44 = .ok (.ifCond .eq 11, 3) := by decide +kernel
theorem dX11_searched_47 : decode cX11_searched 47 = .ok (.iload 4, 2) := by decide +kernel
theorem dX11_searched_49 : decode cX11_searched 49 = .ok (.invokestatic 326, 3) := by decide +kernel
theorem dX11_searched_52 : decode cX11_searched 52 = .ok (.ifCond .ne 9, 3) := by decide +kernel
theorem dX11_searched_55 : decode cX11_searched 55 = .ok (.aload_n 0, 1) := by decide +kernel
theorem dX11_searched_56 : decode cX11_searched 56 = .ok (.iconst 5, 1) := by decide +kernel
theorem dX11_searched_57 : decode cX11_searched 57 = .ok (.invokevirtual 148, 3) := by decide +kernel
theorem dX11_searched_60 : decode cX11_searched 60 = .ok (.ireturn, 1) := by decide +kernel
theorem dX11_searched_61 : decode cX11_searched 61 = .ok (.aload_n 0, 1) := by decide +kernel
theorem dX11_searched_62 : decode cX11_searched 62 = .ok (.getfield 77, 3) := by decide +kernel
theorem dX11_searched_65 : decode cX11_searched 65 = .ok (.iload_n 2, 1) := by decide +kernel
theorem dX11_searched_66 : decode cX11_searched 66 = .ok (.invokevirtual 371, 3) := by decide +kernel
theorem dX11_searched_69 : decode cX11_searched 69 = .ok (.ifCond .ne 10, 3) := by decide +kernel
theorem dX11_searched_72 : decode cX11_searched 72 = .ok (.aload_n 0, 1) := by decide +kernel
theorem dX11_searched_73 : decode cX11_searched 73 = .ok (.bipush 8, 2) := by decide +kernel
theorem dX11_searched_75 : decode cX11_searched 75 = .ok (.invokevirtual 148, 3) := by decide +kernel
theorem dX11_searched_78 : decode cX11_searched 78 = .ok (.ireturn, 1) := by decide +kernel
theorem dX11_searched_79 : decode cX11_searched 79 = .ok (.aload_n 0, 1) := by decide +kernel
theorem dX11_searched_80 : decode cX11_searched 80 = .ok (.aload_n 0, 1) := by decide +kernel
theorem dX11_searched_81 : decode cX11_searched 81 = .ok (.getfield 77, 3) := by decide +kernel
theorem dX11_searched_84 : decode cX11_searched 84 = .ok (.iload_n 2, 1) := by decide +kernel
theorem dX11_searched_85 : decode cX11_searched 85 = .ok (.iload_n 3, 1) := by decide +kernel
theorem dX11_searched_86 : decode cX11_searched 86 = .ok (.iload 4, 2) := by decide +kernel
theorem dX11_searched_88 : decode cX11_searched 88 = .ok (.invokevirtual 374, 3) := by decide +kernel
theorem dX11_searched_91 : decode cX11_searched 91 = .ok (.invokevirtual 195, 3) := by decide +kernel
theorem dX11_searched_94 : decode cX11_searched 94 = .ok (.ireturn, 1) := by decide +kernel
theorem dX11_soon_0 : decode cX11_soon 0 = .ok (.aload_n 0, 1) := by decide +kernel
theorem dX11_soon_1 : decode cX11_soon 1 = .ok (.getfield 36, 3) := by decide +kernel
theorem dX11_soon_4 : decode cX11_soon 4 = .ok (.iload_n 1, 1) := by decide +kernel
theorem dX11_soon_5 : decode cX11_soon 5 = .ok (.invokevirtual 250, 3) := by decide +kernel
theorem dX11_soon_8 : decode cX11_soon 8 = .ok (.ifCond .eq 14, 3) := by decide +kernel
theorem dX11_soon_11 : decode cX11_soon 11 = .ok (.aload_n 0, 1) := by decide +kernel
theorem dX11_soon_12 : decode cX11_soon 12 = .ok (.getfield 36, 3) := by decide +kernel
theorem dX11_soon_15 : decode cX11_soon 15 = .ok (.iload_n 2, 1) := by decide +kernel
theorem dX11_soon_16 : decode cX11_soon 16 = .ok (.invokevirtual 275, 3) := by decide +kernel
theorem dX11_soon_19 : decode cX11_soon 19 = .ok (.ifCond .ne 9, 3) := by decide +kernel
theorem dX11_soon_22 : decode cX11_soon 22 = .ok (.aload_n 0, 1) := by decide +kernel
theorem dX11_soon_23 : decode cX11_soon 23 = .ok (.iconst 2, 1) := by decide +kernel
theorem dX11_soon_24 : decode cX11_soon 24 = .ok (.invokevirtual 148, 3) := by decide +kernel
theorem dX11_soon_27 : decode cX11_soon 27 = .ok (.ireturn, 1) := by decide +kernel
theorem dX11_soon_28 : decode cX11_soon 28 = .ok (.iload_n 3, 1) := by decide +kernel
theorem dX11_soon_29 : decode cX11_soon 29 = .ok (.ifCond .lt 22, 3) := by decide +kernel
theorem dX11_soon_32 : decode cX11_soon 32 = .ok (.iload_n 3, 1) := by decide +kernel
theorem dX11_soon_33 : decode cX11_soon 33 = .ok (.bipush 16, 2) := by decide +kernel
theorem dX11_soon_35 : decode cX11_soon 35 = .ok (.if_icmp .gt 16, 3) := by decide +kernel
theorem dX11_soon_38 : decode cX11_soon 38 = .ok (.iload 4, 2) := by decide +kernel
theorem dX11_soon_40 : decode cX11_soon 40 = .ok (.iconst 1, 1) := by decide +kernel
theorem dX11_soon_41 : decode cX11_soon 41 = .ok (.if_icmp .lt 10, 3) := by decide +kernel
theorem dX11_soon_44 : decode cX11_soon 44 = .ok (.iload 4, 2) := by decide +kernel
theorem dX11_soon_46 : decode cX11_soon 46 = .ok (.bipush 16, 2) := by decide +kernel
theorem dX11_soon_48 : decode cX11_soon 48 = .ok (.if_icmp .le 9, 3) := by decide +kernel
theorem dX11_soon_51 : decode cX11_soon 51 = .ok (.aload_n 0, 1) := by decide +kernel
theorem dX11_soon_52 : decode cX11_soon 52 = .ok (.iconst 5, 1) := by decide +kernel
theorem dX11_soon_53 : decode cX11_soon 53 = .ok (.invokevirtual 148, 3) := by decide +kernel
theorem dX11_soon_56 : decode cX11_soon 56 = .ok (.ireturn, 1) := by decide +kernel
theorem dX11_soon_57 : decode cX11_soon 57 = .ok (.aload_n 0, 1) := by decide +kernel
theorem dX11_soon_58 : decode cX11_soon 58 = .ok (.getfield 36, 3) := by decide +kernel
theorem dX11_soon_61 : decode cX11_soon 61 = .ok (.iload_n 1, 1) := by decide +kernel
theorem dX11_soon_62 : decode cX11_soon 62 = .ok (.iload_n 2, 1) := by decide +kernel
theorem dX11_soon_63 : decode cX11_soon 63 = .ok (.invokevirtual 426, 3) := by decide +kernel
theorem dX11_soon_66 : decode cX11_soon 66 = .ok (.ifCond .ne 10, 3) := by decide +kernel
theorem dX11_soon_69 : decode cX11_soon 69 = .ok (.aload_n 0, 1) := by decide +kernel
theorem dX11_soon_70 : decode cX11_soon 70 = .ok (.bipush 9, 2) := by decide +kernel
theorem dX11_soon_72 : decode cX11_soon 72 = .ok (.invokevirtual 148, 3) := by decide +kernel
theorem dX11_soon_75 : decode cX11_soon 75 = .ok (.ireturn, 1) := by decide +kernel
theorem dX11_soon_76 : decode cX11_soon 76 = .ok (.iload_n 3, 1) := by decide +kernel
theorem dX11_soon_77 : decode cX11_soon 77 = .ok (.ifCond .ne 10, 3) := by decide +kernel
theorem dX11_soon_80 : decode cX11_soon 80 = .ok (.aload_n 0, 1) := by decide +kernel
theorem dX11_soon_81 : decode cX11_soon 81 = .ok (.bipush 8, 2) := by decide +kernel
theorem dX11_soon_83 : decode cX11_soon 83 = .ok (.invokevirtual 148, 3) := by decide +kernel
theorem dX11_soon_86 : decode cX11_soon 86 = .ok (.ireturn, 1) := by decide +kernel
theorem dX11_soon_87 : decode cX11_soon 87 = .ok (.aload_n 0, 1) := by decide +kernel
theorem dX11_soon_88 : decode cX11_soon 88 = .ok (.getfield 36, 3) := by decide +kernel
theorem dX11_soon_91 : decode cX11_soon 91 = .ok (.aload_n 0, 1) := by decide +kernel
theorem dX11_soon_92 : decode cX11_soon 92 = .ok (.getfield 36, 3) := by decide +kernel
theorem dX11_soon_95 : decode cX11_soon 95 = .ok (.iload_n 1, 1) := by decide +kernel
theorem dX11_soon_96 : decode cX11_soon 96 = .ok (.invokevirtual 259, 3) := by decide +kernel
theorem dX11_soon_99 : decode cX11_soon 99 = .ok (.invokevirtual 269, 3) := by decide +kernel
theorem dX11_soon_102 : decode cX11_soon 102 = .ok (.istore 5, 2) := by decide +kernel
theorem dX11_soon_104 : decode cX11_soon 104 = .ok (.iconst 0, 1) := by decide +kernel
theorem dX11_soon_105 : decode cX11_soon 105 = .ok (.istore 6, 2) := by decide +kernel
theorem dX11_soon_107 : decode cX11_soon 107 = .ok (.iload 6, 2) := by decide +kernel
theorem dX11_soon_109 : decode cX11_soon 109 = .ok (.iload 5, 2) := by decide +kernel
theorem dX11_soon_111 : decode cX11_soon 111 = .ok (.if_icmp .gt 48, 3) := by decide +kernel
theorem dX11_soon_114 : decode cX11_soon 114 = .ok (.iload_n 3, 1) := by decide +kernel
theorem dX11_soon_115 : decode cX11_soon 115 = .ok (.iload 5, 2) := by decide +kernel
theorem dX11_soon_117 : decode cX11_soon 117 = .ok (.imul, 1) := by decide +kernel
theorem dX11_soon_118 : decode cX11_soon 118 = .ok (.bipush 16, 2) := by decide +kernel
theorem dX11_soon_120 : decode cX11_soon 120 = .ok (.iload_n 3, 1) := by decide +kernel
theorem dX11_soon_121 : decode cX11_soon 121 = .ok (.isub, 1) := by decide +kernel
theorem dX11_soon_122 : decode cX11_soon 122 = .ok (.iload 5, 2) := by decide +kernel
theorem dX11_soon_124 : decode cX11_soon 124 = .ok (.iload 6, 2) := by decide +kernel
theorem dX11_soon_126 : decode cX11_soon 126 = .ok (.isub, 1) := by decide +kernel
theorem dX11_soon_127 : decode cX11_soon 127 = .ok (.imul, 1) := by decide +kernel
theorem dX11_soon_128 : decode cX11_soon 128 = .ok (.iadd, 1) := by decide +kernel
theorem dX11_soon_129 : decode cX11_soon 129 = .ok (.istore 7, 2) := by decide +kernel
theorem dX11_soon_131 : decode cX11_soon 131 = .ok (.bipush 16, 2) := by decide +kernel
theorem dX11_soon_133 : decode cX11_soon 133 = .ok (.iload_n 3, 1) := by decide +kernel
theorem dX11_soon_134 : decode cX11_soon 134 = .ok (.imul, 1) := by decide +kernel
theorem dX11_soon_135 : decode cX11_soon 135 = .ok (.iload 5, 2) := by decide +kernel
theorem dX11_soon_137 : decode cX11_soon 137 = .ok (.imul, 1) := by decide +kernel
theorem dX11_soon_138 : decode cX11_soon 138 = .ok (.iload 4, 2) := by decide +kernel
theorem dX11_soon_140 : decode cX11_soon 140 = .ok (.iload 7, 2) := by decide +kernel
theorem dX11_soon_142 : decode cX11_soon 142 = .ok (.imul, 1) := by decide +kernel
theorem dX11_soon_143 : decode cX11_soon 143 = .ok (.if_icmp .lt 10, 3) := by decide +kernel
theorem dX11_soon_146 : decode cX11_soon 146 = .ok (.aload_n 0, 1) := by decide +kernel
theorem dX11_soon_147 : decode cX11_soon 147 = .ok (.iload 6, 2) := by decide +kernel
theorem dX11_soon_149 : decode cX11_soon 149 = .ok (.invokevirtual 195, 3) := by decide +kernel
theorem dX11_soon_152 : decode cX11_soon 152 = .ok (.ireturn, 1) := by decide +kernel
theorem dX11_soon_153 : decode cX11_soon 153 = .ok (.iinc 6 1, 3) := by decide +kernel
theorem dX11_soon_156 : decode cX11_soon 156 = .ok (.goto (-49), 3) := by decide +kernel
theorem dX11_soon_159 : decode cX11_soon 159 = .ok (.aload_n 0, 1) := by decide +kernel
theorem dX11_soon_160 : decode cX11_soon 160 = .ok (.bipush 8, 2) := by decide +kernel
theorem dX11_soon_162 : decode cX11_soon 162 = .ok (.invokevirtual 148, 3) := by decide +kernel
theorem dX11_soon_165 : decode cX11_soon 165 = .ok (.ireturn, 1) := by decide +kernel
theorem dX11_status_0 : decode cX11_status 0 = .ok (.aload_n 0, 1) := by decide +kernel
theorem dX11_status_1 : decode cX11_status 1 = .ok (.getfield 9, 3) := by decide +kernel
theorem dX11_status_4 : decode cX11_status 4 = .ok (.ireturn, 1) := by decide +kernel
theorem dX11_stepOf_0 : decode cX11_stepOf 0 = .ok (.aload_n 0, 1) := by decide +kernel
theorem dX11_stepOf_1 : decode cX11_stepOf 1 = .ok (.getfield 36, 3) := by decide +kernel
theorem dX11_stepOf_4 : decode cX11_stepOf 4 = .ok (.iload_n 1, 1) := by decide +kernel
theorem dX11_stepOf_5 : decode cX11_stepOf 5 = .ok (.invokevirtual 250, 3) := by decide +kernel
theorem dX11_stepOf_8 : decode cX11_stepOf 8 = .ok (.ifCond .eq 14, 3) := by decide +kernel
theorem dX11_stepOf_11 : decode cX11_stepOf 11 = .ok (.aload_n 0, 1) := by decide +kernel
theorem dX11_stepOf_12 : decode cX11_stepOf 12 = .ok (.getfield 36, 3) := by decide +kernel
theorem dX11_stepOf_15 : decode cX11_stepOf 15 = .ok (.iload_n 2, 1) := by decide +kernel
theorem dX11_stepOf_16 : decode cX11_stepOf 16 = .ok (.invokevirtual 234, 3) := by decide +kernel
theorem dX11_stepOf_19 : decode cX11_stepOf 19 = .ok (.ifCond .ne 9, 3) := by decide +kernel
theorem dX11_stepOf_22 : decode cX11_stepOf 22 = .ok (.aload_n 0, 1) := by decide +kernel
theorem dX11_stepOf_23 : decode cX11_stepOf 23 = .ok (.iconst 2, 1) := by decide +kernel
theorem dX11_stepOf_24 : decode cX11_stepOf 24 = .ok (.invokevirtual 148, 3) := by decide +kernel
theorem dX11_stepOf_27 : decode cX11_stepOf 27 = .ok (.ireturn, 1) := by decide +kernel
theorem dX11_stepOf_28 : decode cX11_stepOf 28 = .ok (.aload_n 0, 1) := by decide +kernel
theorem dX11_stepOf_29 : decode cX11_stepOf 29 = .ok (.aload_n 0, 1) := by decide +kernel
theorem dX11_stepOf_30 : decode cX11_stepOf 30 = .ok (.getfield 36, 3) := by decide +kernel
theorem dX11_stepOf_33 : decode cX11_stepOf 33 = .ok (.iload_n 1, 1) := by decide +kernel
theorem dX11_stepOf_34 : decode cX11_stepOf 34 = .ok (.iload_n 2, 1) := by decide +kernel
theorem dX11_stepOf_35 : decode cX11_stepOf 35 = .ok (.iconst 0, 1) := by decide +kernel
theorem dX11_stepOf_36 : decode cX11_stepOf 36 = .ok (.invokevirtual 253, 3) := by decide +kernel
theorem dX11_stepOf_39 : decode cX11_stepOf 39 = .ok (.invokevirtual 195, 3) := by decide +kernel
theorem dX11_stepOf_42 : decode cX11_stepOf 42 = .ok (.ireturn, 1) := by decide +kernel
theorem dX11_take_0 : decode cX11_take 0 = .ok (.aload_n 0, 1) := by decide +kernel
theorem dX11_take_1 : decode cX11_take 1 = .ok (.getfield 36, 3) := by decide +kernel
theorem dX11_take_4 : decode cX11_take 4 = .ok (.iload_n 1, 1) := by decide +kernel
theorem dX11_take_5 : decode cX11_take 5 = .ok (.invokevirtual 266, 3) := by decide +kernel
theorem dX11_take_8 : decode cX11_take 8 = .ok (.ifCond .ne 9, 3) := by decide +kernel
theorem dX11_take_11 : decode cX11_take 11 = .ok (.aload_n 0, 1) := by decide +kernel
theorem dX11_take_12 : decode cX11_take 12 = .ok (.iconst 2, 1) := by decide +kernel
theorem dX11_take_13 : decode cX11_take 13 = .ok (.invokevirtual 126, 3) := by decide +kernel
theorem dX11_take_16 : decode cX11_take 16 = .ok (.ireturn, 1) := by decide +kernel
theorem dX11_take_17 : decode cX11_take 17 = .ok (.aload_n 0, 1) := by decide +kernel
theorem dX11_take_18 : decode cX11_take 18 = .ok (.getfield 36, 3) := by decide +kernel
theorem dX11_take_21 : decode cX11_take 21 = .ok (.iload_n 1, 1) := by decide +kernel
theorem dX11_take_22 : decode cX11_take 22 = .ok (.invokevirtual 269, 3) := by decide +kernel
theorem dX11_take_25 : decode cX11_take 25 = .ok (.ifCond .ne 10, 3) := by decide +kernel
theorem dX11_take_28 : decode cX11_take 28 = .ok (.aload_n 0, 1) := by decide +kernel
theorem dX11_take_29 : decode cX11_take 29 = .ok (.bipush 8, 2) := by decide +kernel
theorem dX11_take_31 : decode cX11_take 31 = .ok (.invokevirtual 126, 3) := by decide +kernel
theorem dX11_take_34 : decode cX11_take 34 = .ok (.ireturn, 1) := by decide +kernel
theorem dX11_take_35 : decode cX11_take 35 = .ok (.aload_n 0, 1) := by decide +kernel
theorem dX11_take_36 : decode cX11_take 36 = .ok (.getfield 45, 3) := by decide +kernel
theorem dX11_take_39 : decode cX11_take 39 = .ok (.iload_n 1, 1) := by decide +kernel
theorem dX11_take_40 : decode cX11_take 40 = .ok (.invokevirtual 319, 3) := by decide +kernel
theorem dX11_take_43 : decode cX11_take 43 = .ok (.aload_n 0, 1) := by decide +kernel
theorem dX11_take_44 : decode cX11_take 44 = .ok (.invokevirtual 134, 3) := by decide +kernel
theorem dX11_take_47 : decode cX11_take 47 = .ok (.ireturn, 1) := by decide +kernel
theorem dX11_tally_0 : decode cX11_tally 0 = .ok (.aload_n 0, 1) := by decide +kernel
theorem dX11_tally_1 : decode cX11_tally 1 = .ok (.getfield 36, 3) := by decide +kernel
theorem dX11_tally_4 : decode cX11_tally 4 = .ok (.iload_n 1, 1) := by decide +kernel
theorem dX11_tally_5 : decode cX11_tally 5 = .ok (.invokevirtual 266, 3) := by decide +kernel
theorem dX11_tally_8 : decode cX11_tally 8 = .ok (.ifCond .eq 14, 3) := by decide +kernel
theorem dX11_tally_11 : decode cX11_tally 11 = .ok (.aload_n 0, 1) := by decide +kernel
theorem dX11_tally_12 : decode cX11_tally 12 = .ok (.getfield 36, 3) := by decide +kernel
theorem dX11_tally_15 : decode cX11_tally 15 = .ok (.iload_n 2, 1) := by decide +kernel
theorem dX11_tally_16 : decode cX11_tally 16 = .ok (.invokevirtual 275, 3) := by decide +kernel
theorem dX11_tally_19 : decode cX11_tally 19 = .ok (.ifCond .ne 9, 3) := by decide +kernel
theorem dX11_tally_22 : decode cX11_tally 22 = .ok (.aload_n 0, 1) := by decide +kernel
theorem dX11_tally_23 : decode cX11_tally 23 = .ok (.iconst 2, 1) := by decide +kernel
theorem dX11_tally_24 : decode cX11_tally 24 = .ok (.invokevirtual 148, 3) := by decide +kernel
theorem dX11_tally_27 : decode cX11_tally 27 = .ok (.ireturn, 1) := by decide +kernel
theorem dX11_tally_28 : decode cX11_tally 28 = .ok (.iload_n 3, 1) := by decide +kernel
theorem dX11_tally_29 : decode cX11_tally 29 = .ok (.ifCond .lt 23, 3) := by decide +kernel
theorem dX11_tally_32 : decode cX11_tally 32 = .ok (.iload_n 3, 1) := by decide +kernel
theorem dX11_tally_33 : decode cX11_tally 33 = .ok (.sipush 9999, 3) := by decide +kernel
theorem dX11_tally_36 : decode cX11_tally 36 = .ok (.if_icmp .gt 16, 3) := by decide +kernel
theorem dX11_tally_39 : decode cX11_tally 39 = .ok (.iload 4, 2) := by decide +kernel
theorem dX11_tally_41 : decode cX11_tally 41 = .ok (.iconst 1, 1) := by decide +kernel
theorem dX11_tally_42 : decode cX11_tally 42 = .ok (.if_icmp .lt 10, 3) := by decide +kernel
theorem dX11_tally_45 : decode cX11_tally 45 = .ok (.iload 4, 2) := by decide +kernel
theorem dX11_tally_47 : decode cX11_tally 47 = .ok (.bipush 30, 2) := by decide +kernel
theorem dX11_tally_49 : decode cX11_tally 49 = .ok (.if_icmp .le 9, 3) := by decide +kernel
theorem dX11_tally_52 : decode cX11_tally 52 = .ok (.aload_n 0, 1) := by decide +kernel
theorem dX11_tally_53 : decode cX11_tally 53 = .ok (.iconst 5, 1) := by decide +kernel
theorem dX11_tally_54 : decode cX11_tally 54 = .ok (.invokevirtual 148, 3) := by decide +kernel
theorem dX11_tally_57 : decode cX11_tally 57 = .ok (.ireturn, 1) := by decide +kernel
theorem dX11_tally_58 : decode cX11_tally 58 = .ok (.iload_n 3, 1) := by decide +kernel
theorem dX11_tally_59 : decode cX11_tally 59 = .ok (.iload 4, 2) := by decide +kernel
theorem dX11_tally_61 : decode cX11_tally 61 = .ok (.iadd, 1) := by decide +kernel
theorem dX11_tally_62 : decode cX11_tally 62 = .ok (.iconst 1, 1) := by decide +kernel
theorem dX11_tally_63 : decode cX11_tally 63 = .ok (.isub, 1) := by decide +kernel
theorem dX11_tally_64 : decode cX11_tally 64 = .ok (.sipush 9999, 3) := by decide +kernel
theorem dX11_tally_67 : decode cX11_tally 67 = .ok (.if_icmp .le 9, 3) := by decide +kernel
theorem dX11_tally_70 : decode cX11_tally 70 = .ok (.aload_n 0, 1) := by decide +kernel
theorem dX11_tally_71 : decode cX11_tally 71 = .ok (.iconst 5, 1) := by decide +kernel
theorem dX11_tally_72 : decode cX11_tally 72 = .ok (.invokevirtual 148, 3) := by decide +kernel
theorem dX11_tally_75 : decode cX11_tally 75 = .ok (.ireturn, 1) := by decide +kernel
theorem dX11_tally_76 : decode cX11_tally 76 = .ok (.aload_n 0, 1) := by decide +kernel
theorem dX11_tally_77 : decode cX11_tally 77 = .ok (.getfield 36, 3) := by decide +kernel
theorem dX11_tally_80 : decode cX11_tally 80 = .ok (.iload_n 1, 1) := by decide +kernel
theorem dX11_tally_81 : decode cX11_tally 81 = .ok (.invokevirtual 269, 3) := by decide +kernel
theorem dX11_tally_84 : decode cX11_tally 84 = .ok (.ifCond .ne 10, 3) := by decide +kernel
theorem dX11_tally_87 : decode cX11_tally 87 = .ok (.aload_n 0, 1) := by decide +kernel
theorem dX11_tally_88 : decode cX11_tally 88 = .ok (.bipush 8, 2) := by decide +kernel
theorem dX11_tally_90 : decode cX11_tally 90 = .ok (.invokevirtual 148, 3) := by decide +kernel
theorem dX11_tally_93 : decode cX11_tally 93 = .ok (.ireturn, 1) := by decide +kernel
theorem dX11_tally_94 : decode cX11_tally 94 = .ok (.iconst 0, 1) := by decide +kernel
theorem dX11_tally_95 : decode cX11_tally 95 = .ok (.istore 5, 2) := by decide +kernel
theorem dX11_tally_97 : decode cX11_tally 97 = .ok (.lconst 0, 1) := by decide +kernel
theorem dX11_tally_98 : decode cX11_tally 98 = .ok (.lstore 6, 2) := by decide +kernel
theorem dX11_tally_100 : decode cX11_tally 100 = .ok (.iconst 0, 1) := by decide +kernel
theorem dX11_tally_101 : decode cX11_tally 101 = .ok (.istore 8, 2) := by decide +kernel
theorem dX11_tally_103 : decode cX11_tally 103 = .ok (.iload 8, 2) := by decide +kernel
theorem dX11_tally_105 : decode cX11_tally 105 = .ok (.iload 4, 2) := by decide +kernel
theorem dX11_tally_107 : decode cX11_tally 107 = .ok (.if_icmp .ge 47, 3) := by decide +kernel
theorem dX11_tally_110 : decode cX11_tally 110 = .ok (.aload_n 0, 1) := by decide +kernel
theorem dX11_tally_111 : decode cX11_tally 111 = .ok (.getfield 102, 3) := by decide +kernel
theorem dX11_tally_114 : decode cX11_tally 114 = .ok (.iload_n 1, 1) := by decide +kernel
theorem dX11_tally_115 : decode cX11_tally 115 = .ok (.iload_n 2, 1) := by decide +kernel
theorem dX11_tally_116 : decode cX11_tally 116 = .ok (.iload_n 3, 1) := by decide +kernel
theorem dX11_tally_117 : decode cX11_tally 117 = .ok (.iload 8, 2) := by decide +kernel
theorem dX11_tally_119 : decode cX11_tally 119 = .ok (.iadd, 1) := by decide +kernel
theorem dX11_tally_120 : decode cX11_tally 120 = .ok (.invokevirtual 432, 3) := by decide +kernel
theorem dX11_tally_123 : decode cX11_tally 123 = .ok (.aload_n 0, 1) := by decide +kernel
theorem dX11_tally_124 : decode cX11_tally 124 = .ok (.getfield 102, 3) := by decide +kernel
theorem dX11_tally_127 : decode cX11_tally 127 = .ok (.getfield 437, 3) := by decide +kernel
theorem dX11_tally_130 : decode cX11_tally 130 = .ok (.ifCond .eq 6, 3) := by decide +kernel
theorem dX11_tally_133 : decode cX11_tally 133 = .ok (.iinc 5 1, 3) := by decide +kernel
theorem dX11_tally_136 : decode cX11_tally 136 = .ok (.lload 6, 2) := by decide +kernel
theorem dX11_tally_138 : decode cX11_tally 138 = .ok (.aload_n 0, 1) := by decide +kernel
theorem dX11_tally_139 : decode cX11_tally 139 = .ok (.getfield 102, 3) := by decide +kernel
theorem dX11_tally_142 : decode cX11_tally 142 = .ok (.getfield 450, 3) := by decide +kernel
theorem dX11_tally_145 : decode cX11_tally 145 = .ok (.ladd, 1) := by decide +kernel
theorem dX11_tally_146 : decode cX11_tally 146 = .ok (.lstore 6, 2) := by decide +kernel
theorem dX11_tally_148 : decode cX11_tally 148 = .ok (.iinc 8 1, 3) := by decide +kernel
theorem dX11_tally_151 : decode cX11_tally 151 = .ok (.goto (-48), 3) := by decide +kernel
theorem dX11_tally_154 : decode cX11_tally 154 = .ok (.aload_n 0, 1) := by decide +kernel
theorem dX11_tally_155 : decode cX11_tally 155 = .ok (.lload 6, 2) := by decide +kernel
theorem dX11_tally_157 : decode cX11_tally 157 = .ok (.iload 4, 2) := by decide +kernel
theorem dX11_tally_159 : decode cX11_tally 159 = .ok (.i2l, 1) := by decide +kernel
theorem dX11_tally_160 : decode cX11_tally 160 = .ok (.invokevirtual 351, 3) := by decide +kernel
theorem dX11_tally_163 : decode cX11_tally 163 = .ok (.pop, 1) := by decide +kernel
theorem dX11_tally_164 : decode cX11_tally 164 = .ok (.aload_n 0, 1) := by decide +kernel
theorem dX11_tally_165 : decode cX11_tally 165 = .ok (.iload 5, 2) := by decide +kernel
theorem dX11_tally_167 : decode cX11_tally 167 = .ok (.invokevirtual 195, 3) := by decide +kernel
theorem dX11_tally_170 : decode cX11_tally 170 = .ok (.ireturn, 1) := by decide +kernel
theorem dX11_told_0 : decode cX11_told 0 = .ok (.aload_n 0, 1) := by decide +kernel
theorem dX11_told_1 : decode cX11_told 1 = .ok (.iconst 0, 1) := by decide +kernel
theorem dX11_told_2 : decode cX11_told 2 = .ok (.putfield 9, 3) := by decide +kernel
theorem dX11_told_5 : decode cX11_told 5 = .ok (.iload_n 1, 1) := by decide +kernel
theorem dX11_told_6 : decode cX11_told 6 = .ok (.ireturn, 1) := by decide +kernel
theorem dX11_toldFraction_0 : decode cX11_toldFraction 0 = .ok (.lload_n 1, 1) := by decide +kernel
theorem dX11_toldFraction_1 : decode cX11_toldFraction 1 = .ok (.lload_n 3, 1) := by decide +kernel
theorem dX11_toldFraction_2 : decode cX11_toldFraction 2 = .ok (.invokestatic 456, 3) := by decide +kernel
theorem dX11_toldFraction_5 : decode cX11_toldFraction 5 = .ok (.lstore 5, 2) := by decide +kernel
theorem dX11_toldFraction_7 : decode cX11_toldFraction 7 = .ok (.lload 5, 2) := by decide +kernel
theorem dX11_toldFraction_9 : decode cX11_toldFraction 9 = .ok (.lconst 0, 1) := by decide +kernel
theorem dX11_toldFraction_10 : decode cX11_toldFraction 10 = .ok (.lcmp, 1) := by decide +kernel
theorem dX11_toldFraction_11 : decode cX11_toldFraction 11 = .ok (.ifCond .le 19, 3) := by decide +kernel
theorem dX11_toldFraction_14 : decode cX11_toldFraction 14 = .ok (.aload_n 0, 1) := by decide +kernel
theorem dX11_toldFraction_15 : decode cX11_toldFraction 15 = .ok (.lload_n 1, 1) := by decide +kernel
theorem dX11_toldFraction_16 : decode cX11_toldFraction 16 = .ok (.lload 5, 2) := by decide +kernel
theorem dX11_toldFraction_18 : decode cX11_toldFraction 18 = .ok (.ldiv, 1) := by decide +kernel
theorem dX11_toldFraction_19 : decode cX11_toldFraction 19 = .ok (.putfield 13, 3) := by decide +kernel
theorem dX11_toldFraction_22 : decode cX11_toldFraction 22 = .ok (.aload_n 0, 1) := by decide +kernel
theorem dX11_toldFraction_23 : decode cX11_toldFraction 23 = .ok (.lload_n 3, 1) := by decide +kernel
theorem dX11_toldFraction_24 : decode cX11_toldFraction 24 = .ok (.lload 5, 2) := by decide +kernel
theorem dX11_toldFraction_26 : decode cX11_toldFraction 26 = .ok (.ldiv, 1) := by decide +kernel
theorem dX11_toldFraction_27 : decode cX11_toldFraction 27 = .ok (.putfield 17, 3) := by decide +kernel
theorem dX11_toldFraction_30 : decode cX11_toldFraction 30 = .ok (.aload_n 0, 1) := by decide +kernel
theorem dX11_toldFraction_31 : decode cX11_toldFraction 31 = .ok (.invokevirtual 134, 3) := by decide +kernel
theorem dX11_toldFraction_34 : decode cX11_toldFraction 34 = .ok (.ireturn, 1) := by decide +kernel
theorem dX11_top_0 : decode cX11_top 0 = .ok (.aload_n 0, 1) := by decide +kernel
theorem dX11_top_1 : decode cX11_top 1 = .ok (.getfield 13, 3) := by decide +kernel
theorem dX11_top_4 : decode cX11_top 4 = .ok (.lreturn, 1) := by decide +kernel
theorem dX11_tray_0 : decode cX11_tray 0 = .ok (.aload_n 0, 1) := by decide +kernel
theorem dX11_tray_1 : decode cX11_tray 1 = .ok (.iload_n 1, 1) := by decide +kernel
theorem dX11_tray_2 : decode cX11_tray 2 = .ok (.invokevirtual 122, 3) := by decide +kernel
theorem dX11_tray_5 : decode cX11_tray 5 = .ok (.astore 4, 2) := by decide +kernel
theorem dX11_tray_7 : decode cX11_tray 7 = .ok (.aload 4, 2) := by decide +kernel
theorem dX11_tray_9 : decode cX11_tray 9 = .ok (.ifnull 12, 3) := by decide +kernel
theorem dX11_tray_12 : decode cX11_tray 12 = .ok (.iload_n 2, 1) := by decide +kernel
theorem dX11_tray_13 : decode cX11_tray 13 = .ok (.ifCond .lt 8, 3) := by decide +kernel
theorem dX11_tray_16 : decode cX11_tray 16 = .ok (.iload_n 2, 1) := by decide +kernel
theorem dX11_tray_17 : decode cX11_tray 17 = .ok (.iconst 3, 1) := by decide +kernel
theorem dX11_tray_18 : decode cX11_tray 18 = .ok (.if_icmp .le 9, 3) := by decide +kernel
theorem dX11_tray_21 : decode cX11_tray 21 = .ok (.aload_n 0, 1) := by decide +kernel
theorem dX11_tray_22 : decode cX11_tray 22 = .ok (.iconst 1, 1) := by decide +kernel
theorem dX11_tray_23 : decode cX11_tray 23 = .ok (.invokevirtual 126, 3) := by decide +kernel
theorem dX11_tray_26 : decode cX11_tray 26 = .ok (.ireturn, 1) := by decide +kernel
theorem dX11_tray_27 : decode cX11_tray 27 = .ok (.iload_n 3, 1) := by decide +kernel
theorem dX11_tray_28 : decode cX11_tray 28 = .ok (.bipush 60, 2) := by decide +kernel
theorem dX11_tray_30 : decode cX11_tray 30 = .ok (.if_icmp .le 9, 3) := by decide +kernel
theorem dX11_tray_33 : decode cX11_tray 33 = .ok (.aload_n 0, 1) := by decide +kernel
theorem dX11_tray_34 : decode cX11_tray 34 = .ok (.iconst 5, 1) := by decide +kernel
theorem dX11_tray_35 : decode cX11_tray 35 = .ok (.invokevirtual 126, 3) := by decide +kernel
theorem dX11_tray_38 : decode cX11_tray 38 = .ok (.ireturn, 1) := by decide +kernel
theorem dX11_tray_39 : decode cX11_tray 39 = .ok (.iload_n 3, 1) := by decide +kernel
theorem dX11_tray_40 : decode cX11_tray 40 = .ok (.ifCond .ge 10, 3) := by decide +kernel
theorem dX11_tray_43 : decode cX11_tray 43 = .ok (.aload_n 0, 1) := by decide +kernel
theorem dX11_tray_44 : decode cX11_tray 44 = .ok (.bipush 6, 2) := by decide +kernel
theorem dX11_tray_46 : decode cX11_tray 46 = .ok (.invokevirtual 126, 3) := by decide +kernel
theorem dX11_tray_49 : decode cX11_tray 49 = .ok (.ireturn, 1) := by decide +kernel
theorem dX11_tray_50 : decode cX11_tray 50 = .ok (.aload 4, 2) := by decide +kernel
theorem dX11_tray_52 : decode cX11_tray 52 = .ok (.iload_n 2, 1) := by decide +kernel
theorem dX11_tray_53 : decode cX11_tray 53 = .ok (.iload_n 3, 1) := by decide +kernel
theorem dX11_tray_54 : decode cX11_tray 54 = .ok (.invokevirtual 130, 3) := by decide +kernel
theorem dX11_tray_57 : decode cX11_tray 57 = .ok (.aload_n 0, 1) := by decide +kernel
theorem dX11_tray_58 : decode cX11_tray 58 = .ok (.invokevirtual 134, 3) := by decide +kernel
theorem dX11_tray_61 : decode cX11_tray 61 = .ok (.ireturn, 1) := by decide +kernel
theorem dX11_trayAt_0 : decode cX11_trayAt 0 = .ok (.iload_n 1, 1) := by decide +kernel
theorem dX11_trayAt_1 : decode cX11_trayAt 1 = .ok (.ifCond .lt 21, 3) := by decide +kernel
theorem dX11_trayAt_4 : decode cX11_trayAt 4 = .ok (.iload_n 1, 1) := by decide +kernel
theorem dX11_trayAt_5 : decode cX11_trayAt 5 = .ok (.aload_n 0, 1) := by decide +kernel
theorem dX11_trayAt_6 : decode cX11_trayAt 6 = .ok (.getfield 22, 3) := by decide +kernel
theorem dX11_trayAt_9 : decode cX11_trayAt 9 = .ok (.arraylength, 1) := by decide +kernel
theorem dX11_trayAt_10 : decode cX11_trayAt 10 = .ok (.if_icmp .ge 12, 3) := by decide +kernel
theorem dX11_trayAt_13 : decode cX11_trayAt 13 = .ok (.aload_n 0, 1) := by decide +kernel
theorem dX11_trayAt_14 : decode cX11_trayAt 14 = .ok (.getfield 22, 3) := by decide +kernel
theorem dX11_trayAt_17 : decode cX11_trayAt 17 = .ok (.iload_n 1, 1) := by decide +kernel
theorem dX11_trayAt_18 : decode cX11_trayAt 18 = .ok (.aaload, 1) := by decide +kernel
theorem dX11_trayAt_19 : decode cX11_trayAt 19 = .ok (.goto 4, 3) := by decide +kernel
theorem dX11_trayAt_22 : decode cX11_trayAt 22 = .ok (.aconst_null, 1) := by decide +kernel
theorem dX11_trayAt_23 : decode cX11_trayAt 23 = .ok (.areturn, 1) := by decide +kernel
theorem dX11_tried_0 : decode cX11_tried 0 = .ok (.aload_n 0, 1) := by decide +kernel
theorem dX11_tried_1 : decode cX11_tried 1 = .ok (.getfield 36, 3) := by decide +kernel
theorem dX11_tried_4 : decode cX11_tried 4 = .ok (.iload_n 1, 1) := by decide +kernel
theorem dX11_tried_5 : decode cX11_tried 5 = .ok (.invokevirtual 275, 3) := by decide +kernel
theorem dX11_tried_8 : decode cX11_tried 8 = .ok (.ifCond .ne 9, 3) := by decide +kernel
theorem dX11_tried_11 : decode cX11_tried 11 = .ok (.aload_n 0, 1) := by decide +kernel
theorem dX11_tried_12 : decode cX11_tried 12 = .ok (.iconst 2, 1) := by decide +kernel
theorem dX11_tried_13 : decode cX11_tried 13 = .ok (.invokevirtual 126, 3) := by decide +kernel
theorem dX11_tried_16 : decode cX11_tried 16 = .ok (.ireturn, 1) := by decide +kernel
theorem dX11_tried_17 : decode cX11_tried 17 = .ok (.aload_n 0, 1) := by decide +kernel
theorem dX11_tried_18 : decode cX11_tried 18 = .ok (.getfield 45, 3) := by decide +kernel
theorem dX11_tried_21 : decode cX11_tried 21 = .ok (.invokevirtual 320, 3) := by decide +kernel
theorem dX11_tried_24 : decode cX11_tried 24 = .ok (.ifCond .ne 10, 3) := by decide +kernel
theorem dX11_tried_27 : decode cX11_tried 27 = .ok (.aload_n 0, 1) := by decide +kernel
theorem dX11_tried_28 : decode cX11_tried 28 = .ok (.bipush 8, 2) := by decide +kernel
theorem dX11_tried_30 : decode cX11_tried 30 = .ok (.invokevirtual 126, 3) := by decide +kernel
theorem dX11_tried_33 : decode cX11_tried 33 = .ok (.ireturn, 1) := by decide +kernel
theorem dX11_tried_34 : decode cX11_tried 34 = .ok (.aload_n 0, 1) := by decide +kernel
theorem dX11_tried_35 : decode cX11_tried 35 = .ok (.getfield 45, 3) := by decide +kernel
theorem dX11_tried_38 : decode cX11_tried 38 = .ok (.iload_n 1, 1) := by decide +kernel
theorem dX11_tried_39 : decode cX11_tried 39 = .ok (.iload_n 2, 1) := by decide +kernel
theorem dX11_tried_40 : decode cX11_tried 40 = .ok (.invokevirtual 342, 3) := by decide +kernel
theorem dX11_tried_43 : decode cX11_tried 43 = .ok (.ifCond .ne 10, 3) := by decide +kernel
theorem dX11_tried_46 : decode cX11_tried 46 = .ok (.aload_n 0, 1) := by decide +kernel
theorem dX11_tried_47 : decode cX11_tried 47 = .ok (.bipush 9, 2) := by decide +kernel
theorem dX11_tried_49 : decode cX11_tried 49 = .ok (.invokevirtual 126, 3) := by decide +kernel
theorem dX11_tried_52 : decode cX11_tried 52 = .ok (.ireturn, 1) := by decide +kernel
theorem dX11_tried_53 : decode cX11_tried 53 = .ok (.aload_n 0, 1) := by decide +kernel
theorem dX11_tried_54 : decode cX11_tried 54 = .ok (.invokevirtual 134, 3) := by decide +kernel
theorem dX11_tried_57 : decode cX11_tried 57 = .ok (.ireturn, 1) := by decide +kernel
theorem dX11_turn_0 : decode cX11_turn 0 = .ok (.aload_n 0, 1) := by decide +kernel
theorem dX11_turn_1 : decode cX11_turn 1 = .ok (.getfield 45, 3) := by decide +kernel
theorem dX11_turn_4 : decode cX11_turn 4 = .ok (.invokevirtual 320, 3) := by decide +kernel
theorem dX11_turn_7 : decode cX11_turn 7 = .ok (.ifCond .ne 10, 3) := by decide +kernel
theorem dX11_turn_10 : decode cX11_turn 10 = .ok (.aload_n 0, 1) := by decide +kernel
theorem dX11_turn_11 : decode cX11_turn 11 = .ok (.bipush 8, 2) := by decide +kernel
theorem dX11_turn_13 : decode cX11_turn 13 = .ok (.invokevirtual 126, 3) := by decide +kernel
theorem dX11_turn_16 : decode cX11_turn 16 = .ok (.ireturn, 1) := by decide +kernel
theorem dX11_turn_17 : decode cX11_turn 17 = .ok (.aload_n 0, 1) := by decide +kernel
theorem dX11_turn_18 : decode cX11_turn 18 = .ok (.getfield 45, 3) := by decide +kernel
theorem dX11_turn_21 : decode cX11_turn 21 = .ok (.invokevirtual 339, 3) := by decide +kernel
theorem dX11_turn_24 : decode cX11_turn 24 = .ok (.aload_n 0, 1) := by decide +kernel
theorem dX11_turn_25 : decode cX11_turn 25 = .ok (.invokevirtual 134, 3) := by decide +kernel
theorem dX11_turn_28 : decode cX11_turn 28 = .ok (.ireturn, 1) := by decide +kernel
theorem dX11_walked_0 : decode cX11_walked 0 = .ok (.aload_n 0, 1) := by decide +kernel
theorem dX11_walked_1 : decode cX11_walked 1 = .ok (.getfield 36, 3) := by decide +kernel
theorem dX11_walked_4 : decode cX11_walked 4 = .ok (.iload_n 1, 1) := by decide +kernel
theorem dX11_walked_5 : decode cX11_walked 5 = .ok (.invokevirtual 266, 3) := by decide +kernel
theorem dX11_walked_8 : decode cX11_walked 8 = .ok (.ifCond .ne 9, 3) := by decide +kernel
theorem dX11_walked_11 : decode cX11_walked 11 = .ok (.aload_n 0, 1) := by decide +kernel
theorem dX11_walked_12 : decode cX11_walked 12 = .ok (.iconst 2, 1) := by decide +kernel
theorem dX11_walked_13 : decode cX11_walked 13 = .ok (.invokevirtual 148, 3) := by decide +kernel
theorem dX11_walked_16 : decode cX11_walked 16 = .ok (.ireturn, 1) := by decide +kernel
theorem dX11_walked_17 : decode cX11_walked 17 = .ok (.aload_n 0, 1) := by decide +kernel
theorem dX11_walked_18 : decode cX11_walked 18 = .ok (.getfield 77, 3) := by decide +kernel
theorem dX11_walked_21 : decode cX11_walked 21 = .ok (.iload_n 1, 1) := by decide +kernel
theorem dX11_walked_22 : decode cX11_walked 22 = .ok (.invokevirtual 367, 3) := by decide +kernel
theorem dX11_walked_25 : decode cX11_walked 25 = .ok (.aload_n 0, 1) := by decide +kernel
theorem dX11_walked_26 : decode cX11_walked 26 = .ok (.getfield 77, 3) := by decide +kernel
theorem dX11_walked_29 : decode cX11_walked 29 = .ok (.invokevirtual 406, 3) := by decide +kernel
theorem dX11_walked_32 : decode cX11_walked 32 = .ok (.ifCond .ne 10, 3) := by decide +kernel
theorem dX11_walked_35 : decode cX11_walked 35 = .ok (.aload_n 0, 1) := by decide +kernel
theorem dX11_walked_36 : decode cX11_walked 36 = .ok (.bipush 8, 2) := by decide +kernel
theorem dX11_walked_38 : decode cX11_walked 38 = .ok (.invokevirtual 148, 3) := by decide +kernel
theorem dX11_walked_41 : decode cX11_walked 41 = .ok (.ireturn, 1) := by decide +kernel
theorem dX11_walked_42 : decode cX11_walked 42 = .ok (.aload_n 0, 1) := by decide +kernel
theorem dX11_walked_43 : decode cX11_walked 43 = .ok (.aload_n 0, 1) := by decide +kernel
theorem dX11_walked_44 : decode cX11_walked 44 = .ok (.getfield 77, 3) := by decide +kernel
theorem dX11_walked_47 : decode cX11_walked 47 = .ok (.invokevirtual 409, 3) := by decide +kernel
theorem dX11_walked_50 : decode cX11_walked 50 = .ok (.invokevirtual 195, 3) := by decide +kernel
theorem dX11_walked_53 : decode cX11_walked 53 = .ok (.ireturn, 1) := by decide +kernel
theorem dX11_worth_0 : decode cX11_worth 0 = .ok (.aload_n 0, 1) := by decide +kernel
theorem dX11_worth_1 : decode cX11_worth 1 = .ok (.getfield 36, 3) := by decide +kernel
theorem dX11_worth_4 : decode cX11_worth 4 = .ok (.iload_n 1, 1) := by decide +kernel
theorem dX11_worth_5 : decode cX11_worth 5 = .ok (.invokevirtual 275, 3) := by decide +kernel
theorem dX11_worth_8 : decode cX11_worth 8 = .ok (.ifCond .ne 9, 3) := by decide +kernel
theorem dX11_worth_11 : decode cX11_worth 11 = .ok (.aload_n 0, 1) := by decide +kernel
theorem dX11_worth_12 : decode cX11_worth 12 = .ok (.iconst 2, 1) := by decide +kernel
theorem dX11_worth_13 : decode cX11_worth 13 = .ok (.invokevirtual 126, 3) := by decide +kernel
theorem dX11_worth_16 : decode cX11_worth 16 = .ok (.ireturn, 1) := by decide +kernel
theorem dX11_worth_17 : decode cX11_worth 17 = .ok (.iload_n 2, 1) := by decide +kernel
theorem dX11_worth_18 : decode cX11_worth 18 = .ok (.ifCond .lt 8, 3) := by decide +kernel
theorem dX11_worth_21 : decode cX11_worth 21 = .ok (.iload_n 2, 1) := by decide +kernel
theorem dX11_worth_22 : decode cX11_worth 22 = .ok (.iconst 4, 1) := by decide +kernel
theorem dX11_worth_23 : decode cX11_worth 23 = .ok (.if_icmp .le 9, 3) := by decide +kernel
theorem dX11_worth_26 : decode cX11_worth 26 = .ok (.aload_n 0, 1) := by decide +kernel
theorem dX11_worth_27 : decode cX11_worth 27 = .ok (.iconst 5, 1) := by decide +kernel
theorem dX11_worth_28 : decode cX11_worth 28 = .ok (.invokevirtual 126, 3) := by decide +kernel
theorem dX11_worth_31 : decode cX11_worth 31 = .ok (.ireturn, 1) := by decide +kernel
theorem dX11_worth_32 : decode cX11_worth 32 = .ok (.aload_n 0, 1) := by decide +kernel
theorem dX11_worth_33 : decode cX11_worth 33 = .ok (.getfield 45, 3) := by decide +kernel
theorem dX11_worth_36 : decode cX11_worth 36 = .ok (.invokevirtual 320, 3) := by decide +kernel
theorem dX11_worth_39 : decode cX11_worth 39 = .ok (.ifCond .ne 10, 3) := by decide +kernel
theorem dX11_worth_42 : decode cX11_worth 42 = .ok (.aload_n 0, 1) := by decide +kernel
theorem dX11_worth_43 : decode cX11_worth 43 = .ok (.bipush 8, 2) := by decide +kernel
theorem dX11_worth_45 : decode cX11_worth 45 = .ok (.invokevirtual 126, 3) := by decide +kernel
theorem dX11_worth_48 : decode cX11_worth 48 = .ok (.ireturn, 1) := by decide +kernel
theorem dX11_worth_49 : decode cX11_worth 49 = .ok (.aload_n 0, 1) := by decide +kernel
theorem dX11_worth_50 : decode cX11_worth 50 = .ok (.getfield 93, 3) := by decide +kernel
theorem dX11_worth_53 : decode cX11_worth 53 = .ok (.iload_n 1, 1) := by decide +kernel
theorem dX11_worth_54 : decode cX11_worth 54 = .ok (.iload_n 2, 1) := by decide +kernel
theorem dX11_worth_55 : decode cX11_worth 55 = .ok (.invokevirtual 358, 3) := by decide +kernel
theorem dX11_worth_58 : decode cX11_worth 58 = .ok (.aload_n 0, 1) := by decide +kernel
theorem dX11_worth_59 : decode cX11_worth 59 = .ok (.aload_n 0, 1) := by decide +kernel
theorem dX11_worth_60 : decode cX11_worth 60 = .ok (.getfield 93, 3) := by decide +kernel
theorem dX11_worth_63 : decode cX11_worth 63 = .ok (.getfield 361, 3) := by decide +kernel
theorem dX11_worth_66 : decode cX11_worth 66 = .ok (.ldc2_w 349, 3) := by decide +kernel
theorem dX11_worth_69 : decode cX11_worth 69 = .ok (.iconst 4, 1) := by decide +kernel
theorem dX11_worth_70 : decode cX11_worth 70 = .ok (.iload_n 2, 1) := by decide +kernel
theorem dX11_worth_71 : decode cX11_worth 71 = .ok (.imul, 1) := by decide +kernel
theorem dX11_worth_72 : decode cX11_worth 72 = .ok (.lshl, 1) := by decide +kernel
theorem dX11_worth_73 : decode cX11_worth 73 = .ok (.invokevirtual 351, 3) := by decide +kernel
theorem dX11_worth_76 : decode cX11_worth 76 = .ok (.ireturn, 1) := by decide +kernel
theorem dX11_write_0 : decode cX11_write 0 = .ok (.aload_n 0, 1) := by decide +kernel
theorem dX11_write_1 : decode cX11_write 1 = .ok (.iload_n 1, 1) := by decide +kernel
theorem dX11_write_2 : decode cX11_write 2 = .ok (.invokevirtual 122, 3) := by decide +kernel
theorem dX11_write_5 : decode cX11_write 5 = .ok (.astore 5, 2) := by decide +kernel
theorem dX11_write_7 : decode cX11_write 7 = .ok (.aload 5, 2) := by decide +kernel
theorem dX11_write_9 : decode cX11_write 9 = .ok (.ifnonnull 9, 3) := by decide +kernel
theorem dX11_write_12 : decode cX11_write 12 = .ok (.aload_n 0, 1) := by decide +kernel
theorem dX11_write_13 : decode cX11_write 13 = .ok (.iconst 1, 1) := by decide +kernel
theorem dX11_write_14 : decode cX11_write 14 = .ok (.invokevirtual 126, 3) := by decide +kernel
theorem dX11_write_17 : decode cX11_write 17 = .ok (.ireturn, 1) := by decide +kernel
theorem dX11_write_18 : decode cX11_write 18 = .ok (.aload 5, 2) := by decide +kernel
theorem dX11_write_20 : decode cX11_write 20 = .ok (.invokevirtual 138, 3) := by decide +kernel
theorem dX11_write_23 : decode cX11_write 23 = .ok (.ifCond .eq 9, 3) := by decide +kernel
theorem dX11_write_26 : decode cX11_write 26 = .ok (.aload_n 0, 1) := by decide +kernel
theorem dX11_write_27 : decode cX11_write 27 = .ok (.iconst 3, 1) := by decide +kernel
theorem dX11_write_28 : decode cX11_write 28 = .ok (.invokevirtual 126, 3) := by decide +kernel
theorem dX11_write_31 : decode cX11_write 31 = .ok (.ireturn, 1) := by decide +kernel
theorem dX11_write_32 : decode cX11_write 32 = .ok (.aload 5, 2) := by decide +kernel
theorem dX11_write_34 : decode cX11_write 34 = .ok (.iload_n 2, 1) := by decide +kernel
theorem dX11_write_35 : decode cX11_write 35 = .ok (.invokevirtual 141, 3) := by decide +kernel
theorem dX11_write_38 : decode cX11_write 38 = .ok (.ifCond .ne 9, 3) := by decide +kernel
theorem dX11_write_41 : decode cX11_write 41 = .ok (.aload_n 0, 1) := by decide +kernel
theorem dX11_write_42 : decode cX11_write 42 = .ok (.iconst 4, 1) := by decide +kernel
theorem dX11_write_43 : decode cX11_write 43 = .ok (.invokevirtual 126, 3) := by decide +kernel
theorem dX11_write_46 : decode cX11_write 46 = .ok (.ireturn, 1) := by decide +kernel
theorem dX11_write_47 : decode cX11_write 47 = .ok (.aload 5, 2) := by decide +kernel
theorem dX11_write_49 : decode cX11_write 49 = .ok (.iload_n 2, 1) := by decide +kernel
theorem dX11_write_50 : decode cX11_write 50 = .ok (.lload_n 3, 1) := by decide +kernel
theorem dX11_write_51 : decode cX11_write 51 = .ok (.invokevirtual 144, 3) := by decide +kernel
theorem dX11_write_54 : decode cX11_write 54 = .ok (.aload_n 0, 1) := by decide +kernel
theorem dX11_write_55 : decode cX11_write 55 = .ok (.invokevirtual 134, 3) := by decide +kernel
theorem dX11_write_58 : decode cX11_write 58 = .ok (.ireturn, 1) := by decide +kernel
theorem dX1_drawBy_0 : decode cX1_drawBy 0 = .ok (.aload_n 0, 1) := by decide +kernel
theorem dX1_drawBy_1 : decode cX1_drawBy 1 = .ok (.aload_n 0, 1) := by decide +kernel
theorem dX1_drawBy_2 : decode cX1_drawBy 2 = .ok (.getfield 48, 3) := by decide +kernel
theorem dX1_drawBy_5 : decode cX1_drawBy 5 = .ok (.sipush 2749, 3) := by decide +kernel
theorem dX1_drawBy_8 : decode cX1_drawBy 8 = .ok (.imul, 1) := by decide +kernel
theorem dX1_drawBy_9 : decode cX1_drawBy 9 = .ok (.sipush 15013, 3) := by decide +kernel
theorem dX1_drawBy_12 : decode cX1_drawBy 12 = .ok (.iadd, 1) := by decide +kernel
theorem dX1_drawBy_13 : decode cX1_drawBy 13 = .ok (.ldc 110, 2) := by decide +kernel
theorem dX1_drawBy_15 : decode cX1_drawBy 15 = .ok (.irem, 1) := by decide +kernel
theorem dX1_drawBy_16 : decode cX1_drawBy 16 = .ok (.putfield 48, 3) := by decide +kernel
theorem dX1_drawBy_19 : decode cX1_drawBy 19 = .ok (.iload_n 1, 1) := by decide +kernel
theorem dX1_drawBy_20 : decode cX1_drawBy 20 = .ok (.ifCond .le 15, 3) := by decide +kernel
theorem dX1_drawBy_23 : decode cX1_drawBy 23 = .ok (.aload_n 0, 1) := by decide +kernel
theorem dX1_drawBy_24 : decode cX1_drawBy 24 = .ok (.getfield 48, 3) := by decide +kernel
theorem dX1_drawBy_27 : decode cX1_drawBy 27 = .ok (.bipush 8, 2) := by decide +kernel
theorem dX1_drawBy_29 : decode cX1_drawBy 29 = .ok (.idiv, 1) := by decide +kernel
theorem dX1_drawBy_30 : decode cX1_drawBy 30 = .ok (.iload_n 1, 1) := by decide +kernel
theorem dX1_drawBy_31 : decode cX1_drawBy 31 = .ok (.irem, 1) := by decide +kernel
theorem dX1_drawBy_32 : decode cX1_drawBy 32 = .ok (.goto 4, 3) := by decide +kernel
theorem dX1_drawBy_35 : decode cX1_drawBy 35 = .ok (.iconst 0, 1) := by decide +kernel
theorem dX1_drawBy_36 : decode cX1_drawBy 36 = .ok (.ireturn, 1) := by decide +kernel
theorem dX1_dropped_0 : decode cX1_dropped 0 = .ok (.aload_n 0, 1) := by decide +kernel
theorem dX1_dropped_1 : decode cX1_dropped 1 = .ok (.aload_n 0, 1) := by decide +kernel
theorem dX1_dropped_2 : decode cX1_dropped 2 = .ok (.aload_n 0, 1) := by decide +kernel
theorem dX1_dropped_3 : decode cX1_dropped 3 = .ok (.getfield 40, 3) := by decide +kernel
theorem dX1_dropped_6 : decode cX1_dropped 6 = .ok (.getfield 111, 3) := by decide +kernel
theorem dX1_dropped_9 : decode cX1_dropped 9 = .ok (.invokevirtual 114, 3) := by decide +kernel
theorem dX1_dropped_12 : decode cX1_dropped 12 = .ok (.putfield 100, 3) := by decide +kernel
theorem dX1_dropped_15 : decode cX1_dropped 15 = .ok (.aload_n 0, 1) := by decide +kernel
theorem dX1_dropped_16 : decode cX1_dropped 16 = .ok (.aload_n 0, 1) := by decide +kernel
theorem dX1_dropped_17 : decode cX1_dropped 17 = .ok (.bipush 16, 2) := by decide +kernel
theorem dX1_dropped_19 : decode cX1_dropped 19 = .ok (.invokevirtual 114, 3) := by decide +kernel
theorem dX1_dropped_22 : decode cX1_dropped 22 = .ok (.aload_n 0, 1) := by decide +kernel
theorem dX1_dropped_23 : decode cX1_dropped 23 = .ok (.getfield 27, 3) := by decide +kernel
theorem dX1_dropped_26 : decode cX1_dropped 26 = .ok (.getfield 117, 3) := by decide +kernel
theorem dX1_dropped_29 : decode cX1_dropped 29 = .ok (.if_icmp .ge 7, 3) := by decide +kernel
theorem dX1_dropped_32 : decode cX1_dropped 32 = .ok (.iconst 1, 1) := by decide +kernel
theorem dX1_dropped_33 : decode cX1_dropped 33 = .ok (.goto 4, 3) := by decide +kernel
theorem dX1_dropped_36 : decode cX1_dropped 36 = .ok (.iconst 0, 1) := by decide +kernel
theorem dX1_dropped_37 : decode cX1_dropped 37 = .ok (.putfield 103, 3) := by decide +kernel
theorem dX1_dropped_40 : decode cX1_dropped 40 = .ok (.aload_n 0, 1) := by decide +kernel
theorem dX1_dropped_41 : decode cX1_dropped 41 = .ok (.getfield 40, 3) := by decide +kernel
theorem dX1_dropped_44 : decode cX1_dropped 44 = .ok (.invokevirtual 122, 3) := by decide +kernel
theorem dX1_dropped_47 : decode cX1_dropped 47 = .ok (.aload_n 0, 1) := by decide +kernel
theorem dX1_dropped_48 : decode cX1_dropped 48 = .ok (.invokevirtual 125, 3) := by decide +kernel
theorem dX1_dropped_51 : decode cX1_dropped 51 = .ok (.return_, 1) := by decide +kernel
theorem dX1_forgetHere_0 : decode cX1_forgetHere 0 = .ok (.aload_n 0, 1) := by decide +kernel
theorem dX1_forgetHere_1 : decode cX1_forgetHere 1 = .ok (.getfield 17, 3) := by decide +kernel
theorem dX1_forgetHere_4 : decode cX1_forgetHere 4 = .ok (.iconst (-1), 1) := by decide +kernel
theorem dX1_forgetHere_5 : decode cX1_forgetHere 5 = .ok (.invokestatic 128, 3) := by decide +kernel
theorem dX1_forgetHere_8 : decode cX1_forgetHere 8 = .ok (.aload_n 0, 1) := by decide +kernel
theorem dX1_forgetHere_9 : decode cX1_forgetHere 9 = .ok (.iconst 0, 1) := by decide +kernel
theorem dX1_forgetHere_10 : decode cX1_forgetHere 10 = .ok (.putfield 134, 3) := by decide +kernel
theorem dX1_forgetHere_13 : decode cX1_forgetHere 13 = .ok (.return_, 1) := by decide +kernel
theorem dX1_hasKept_0 : decode cX1_hasKept 0 = .ok (.iload_n 1, 1) := by decide +kernel
theorem dX1_hasKept_1 : decode cX1_hasKept 1 = .ok (.ifCond .lt 16, 3) := by decide +kernel
theorem dX1_hasKept_4 : decode cX1_hasKept 4 = .ok (.iload_n 1, 1) := by decide +kernel
theorem dX1_hasKept_5 : decode cX1_hasKept 5 = .ok (.aload_n 0, 1) := by decide +kernel
theorem dX1_hasKept_6 : decode cX1_hasKept 6 = .ok (.getfield 20, 3) := by decide +kernel
theorem dX1_hasKept_9 : decode cX1_hasKept 9 = .ok (.arraylength, 1) := by decide +kernel
theorem dX1_hasKept_10 : decode cX1_hasKept 10 = .ok (.if_icmp .ge 7, 3) := by decide +kernel
theorem dX1_hasKept_13 : decode cX1_hasKept 13 = .ok (.iconst 1, 1) := by decide +kernel
theorem dX1_hasKept_14 : decode cX1_hasKept 14 = .ok (.goto 4, 3) := by decide +kernel
theorem dX1_hasKept_17 : decode cX1_hasKept 17 = .ok (.iconst 0, 1) := by decide +kernel
theorem dX1_hasKept_18 : decode cX1_hasKept 18 = .ok (.ireturn, 1) := by decide +kernel
theorem dX1_isSo_0 : decode cX1_isSo 0 = .ok (.iload_n 1, 1) := by decide +kernel
theorem dX1_isSo_1 : decode cX1_isSo 1 = .ok (.bipush 8, 2) := by decide +kernel
theorem dX1_isSo_3 : decode cX1_isSo 3 = .ok (.if_icmp .ne 8, 3) := by decide +kernel
theorem dX1_isSo_6 : decode cX1_isSo 6 = .ok (.aload_n 0, 1) := by decide +kernel
theorem dX1_isSo_7 : decode cX1_isSo 7 = .ok (.getfield 134, 3) := by decide +kernel
theorem dX1_isSo_10 : decode cX1_isSo 10 = .ok (.ireturn, 1) := by decide +kernel
theorem dX1_isSo_11 : decode cX1_isSo 11 = .ok (.iload_n 1, 1) := by decide +kernel
theorem dX1_isSo_12 : decode cX1_isSo 12 = .ok (.bipush 7, 2) := by decide +kernel
theorem dX1_isSo_14 : decode cX1_isSo 14 = .ok (.if_icmp .ne 41, 3) := by decide +kernel
theorem dX1_isSo_17 : decode cX1_isSo 17 = .ok (.aload_n 0, 1) := by decide +kernel
theorem dX1_isSo_18 : decode cX1_isSo 18 = .ok (.getfield 40, 3) := by decide +kernel
theorem dX1_isSo_21 : decode cX1_isSo 21 = .ok (.aload_n 0, 1) := by decide +kernel
theorem dX1_isSo_22 : decode cX1_isSo 22 = .ok (.getfield 44, 3) := by decide +kernel
theorem dX1_isSo_25 : decode cX1_isSo 25 = .ok (.invokevirtual 199, 3) := by decide +kernel
theorem dX1_isSo_28 : decode cX1_isSo 28 = .ok (.ldc2_w 203, 3) := by decide +kernel
theorem dX1_isSo_31 : decode cX1_isSo 31 = .ok (.lmul, 1) := by decide +kernel
theorem dX1_isSo_32 : decode cX1_isSo 32 = .ok (.aload_n 0, 1) := by decide +kernel
theorem dX1_isSo_33 : decode cX1_isSo 33 = .ok (.getfield 31, 3) := by decide +kernel
theorem dX1_isSo_36 : decode cX1_isSo 36 = .ok (.iload_n 2, 1) := by decide +kernel
theorem dX1_isSo_37 : decode cX1_isSo 37 = .ok (.invokevirtual 158, 3) := by decide +kernel
theorem dX1_isSo_40 : decode cX1_isSo 40 = .ok (.i2l, 1) := by decide +kernel
theorem dX1_isSo_41 : decode cX1_isSo 41 = .ok (.ldc2_w 205, 3) := by decide +kernel
theorem dX1_isSo_44 : decode cX1_isSo 44 = .ok (.lmul, 1) := by decide +kernel
theorem dX1_isSo_45 : decode cX1_isSo 45 = .ok (.lcmp, 1) := by decide +kernel
theorem dX1_isSo_46 : decode cX1_isSo 46 = .ok (.ifCond .lt 7, 3) := by decide +kernel
theorem dX1_isSo_49 : decode cX1_isSo 49 = .ok (.iconst 1, 1) := by decide +kernel
theorem dX1_isSo_50 : decode cX1_isSo 50 = .ok (.goto 4, 3) := by decide +kernel
theorem dX1_isSo_53 : decode cX1_isSo 53 = .ok (.iconst 0, 1) := by decide +kernel
theorem dX1_isSo_54 : decode cX1_isSo 54 = .ok (.ireturn, 1) := by decide +kernel
theorem dX1_isSo_55 : decode cX1_isSo 55 = .ok (.aload_n 0, 1) := by decide +kernel
theorem dX1_isSo_56 : decode cX1_isSo 56 = .ok (.getfield 31, 3) := by decide +kernel
theorem dX1_isSo_59 : decode cX1_isSo 59 = .ok (.iload_n 2, 1) := by decide +kernel
theorem dX1_isSo_60 : decode cX1_isSo 60 = .ok (.invokevirtual 140, 3) := by decide +kernel
theorem dX1_isSo_63 : decode cX1_isSo 63 = .ok (.istore_n 3, 1) := by decide +kernel
theorem dX1_isSo_64 : decode cX1_isSo 64 = .ok (.aload_n 0, 1) := by decide +kernel
theorem dX1_isSo_65 : decode cX1_isSo 65 = .ok (.getfield 27, 3) := by decide +kernel
theorem dX1_isSo_68 : decode cX1_isSo 68 = .ok (.iload_n 3, 1) := by decide +kernel
theorem dX1_isSo_69 : decode cX1_isSo 69 = .ok (.invokevirtual 165, 3) := by decide +kernel
theorem dX1_isSo_72 : decode cX1_isSo 72 = .ok (.ifCond .ne 5, 3) := by decide +kernel
theorem dX1_isSo_75 : decode cX1_isSo 75 = .ok (.iconst 0, 1) := by decide +kernel
theorem dX1_isSo_76 : decode cX1_isSo 76 = .ok (.ireturn, 1) := by decide +kernel
theorem dX1_isSo_77 : decode cX1_isSo 77 = .ok (.aload_n 0, 1) := by decide +kernel
theorem dX1_isSo_78 : decode cX1_isSo 78 = .ok (.getfield 17, 3) := by decide +kernel
theorem dX1_isSo_81 : decode cX1_isSo 81 = .ok (.iload_n 3, 1) := by decide +kernel
theorem dX1_isSo_82 : decode cX1_isSo 82 = .ok (.invokestatic 106, 3) := by decide +kernel
theorem dX1_isSo_85 : decode cX1_isSo 85 = .ok (.istore 4, 2) := by decide +kernel
theorem dX1_isSo_87 : decode cX1_isSo 87 = .ok (.iload 4, 2) := by decide +kernel
theorem dX1_isSo_89 : decode cX1_isSo 89 = .ok (.iconst (-1), 1) := by decide +kernel
theorem dX1_isSo_90 : decode cX1_isSo 90 = .ok (.if_icmp .ne 5, 3) := by decide +kernel
theorem dX1_isSo_93 : decode cX1_isSo 93 = .ok (.iconst 0, 1) := by decide +kernel
theorem dX1_isSo_94 : decode cX1_isSo 94 = .ok (.ireturn, 1) := by decide +kernel
theorem dX1_isSo_95 : decode cX1_isSo 95 = .ok (.aload_n 0, 1) := by decide +kernel
theorem dX1_isSo_96 : decode cX1_isSo 96 = .ok (.getfield 31, 3) := by decide +kernel
theorem dX1_isSo_99 : decode cX1_isSo 99 = .ok (.iload_n 2, 1) := by decide +kernel
theorem dX1_isSo_100 : decode cX1_isSo 100 = .ok (.invokevirtual 158, 3) := by decide +kernel
theorem dX1_isSo_103 : decode cX1_isSo 103 = .ok (.istore 5, 2) := by decide +kernel
theorem dX1_isSo_105 : decode cX1_isSo 105 = .ok (.aload_n 0, 1) := by decide +kernel
theorem dX1_isSo_106 : decode cX1_isSo 106 = .ok (.getfield 31, 3) := by decide +kernel
theorem dX1_isSo_109 : decode cX1_isSo 109 = .ok (.iload_n 2, 1) := by decide +kernel
theorem dX1_isSo_110 : decode cX1_isSo 110 = .ok (.invokevirtual 207, 3) := by decide +kernel
theorem dX1_isSo_113 : decode cX1_isSo 113 = .ok (.bipush 60, 2) := by decide +kernel
theorem dX1_isSo_115 : decode cX1_isSo 115 = .ok (.if_icmp .ne 16, 3) := by decide +kernel
theorem dX1_isSo_118 : decode cX1_isSo 118 = .ok (.iload 4, 2) := by decide +kernel
theorem dX1_isSo_120 : decode cX1_isSo 120 = .ok (.iload 5, 2) := by decide +kernel
theorem dX1_isSo_122 : decode cX1_isSo 122 = .ok (.if_icmp .ge 7, 3) := by decide +kernel
theorem dX1_isSo_125 : decode cX1_isSo 125 = .ok (.iconst 1, 1) := by decide +kernel
theorem dX1_isSo_126 : decode cX1_isSo 126 = .ok (.goto 4, 3) := by decide +kernel
theorem dX1_isSo_129 : decode cX1_isSo 129 = .ok (.iconst 0, 1) := by decide +kernel
theorem dX1_isSo_130 : decode cX1_isSo 130 = .ok (.ireturn, 1) := by decide +kernel
theorem dX1_isSo_131 : decode cX1_isSo 131 = .ok (.aload_n 0, 1) := by decide +kernel
theorem dX1_isSo_132 : decode cX1_isSo 132 = .ok (.getfield 31, 3) := by decide +kernel
theorem dX1_isSo_135 : decode cX1_isSo 135 = .ok (.iload_n 2, 1) := by decide +kernel
theorem dX1_isSo_136 : decode cX1_isSo 136 = .ok (.invokevirtual 207, 3) := by decide +kernel
theorem dX1_isSo_139 : decode cX1_isSo 139 = .ok (.bipush 62, 2) := by decide +kernel
theorem dX1_isSo_141 : decode cX1_isSo 141 = .ok (.if_icmp .ne 18, 3) := by decide +kernel
theorem dX1_isSo_144 : decode cX1_isSo 144 = .ok (.iload 4, 2) := by decide +kernel
theorem dX1_isSo_146 : decode cX1_isSo 146 = .ok (.iload 5, 2) := by decide +kernel
theorem dX1_isSo_148 : decode cX1_isSo 148 = .ok (.if_icmp .le 7, 3) := by decide +kernel
theorem dX1_isSo_151 : decode cX1_isSo 151 = .ok (.iconst 1, 1) := by decide +kernel
theorem dX1_isSo_152 : decode cX1_isSo 152 = .ok (.goto 19, 3) := by decide +kernel
theorem dX1_isSo_155 : decode cX1_isSo 155 = .ok (.iconst 0, 1) := by decide +kernel
theorem dX1_isSo_156 : decode cX1_isSo 156 = .ok (.goto 15, 3) := by decide +kernel
theorem dX1_isSo_159 : decode cX1_isSo 159 = .ok (.iload 4, 2) := by decide +kernel
theorem dX1_isSo_161 : decode cX1_isSo 161 = .ok (.iload 5, 2) := by decide +kernel
theorem dX1_isSo_163 : decode cX1_isSo 163 = .ok (.if_icmp .ne 7, 3) := by decide +kernel
theorem dX1_isSo_166 : decode cX1_isSo 166 = .ok (.iconst 1, 1) := by decide +kernel
theorem dX1_isSo_167 : decode cX1_isSo 167 = .ok (.goto 4, 3) := by decide +kernel
theorem dX1_isSo_170 : decode cX1_isSo 170 = .ok (.iconst 0, 1) := by decide +kernel
theorem dX1_isSo_171 : decode cX1_isSo 171 = .ok (.ireturn, 1) := by decide +kernel
theorem dX1_keep_0 : decode cX1_keep 0 = .ok (.aload_n 0, 1) := by decide +kernel
theorem dX1_keep_1 : decode cX1_keep 1 = .ok (.iconst 1, 1) := by decide +kernel
theorem dX1_keep_2 : decode cX1_keep 2 = .ok (.putfield 23, 3) := by decide +kernel
theorem dX1_keep_5 : decode cX1_keep 5 = .ok (.aload_n 0, 1) := by decide +kernel
theorem dX1_keep_6 : decode cX1_keep 6 = .ok (.getfield 20, 3) := by decide +kernel
theorem dX1_keep_9 : decode cX1_keep 9 = .ok (.iconst 0, 1) := by decide +kernel
theorem dX1_keep_10 : decode cX1_keep 10 = .ok (.aload_n 0, 1) := by decide +kernel
theorem dX1_keep_11 : decode cX1_keep 11 = .ok (.getfield 60, 3) := by decide +kernel
theorem dX1_keep_14 : decode cX1_keep 14 = .ok (.l2i, 1) := by decide +kernel
theorem dX1_keep_15 : decode cX1_keep 15 = .ok (.invokestatic 96, 3) := by decide +kernel
theorem dX1_keep_18 : decode cX1_keep 18 = .ok (.aload_n 0, 1) := by decide +kernel
theorem dX1_keep_19 : decode cX1_keep 19 = .ok (.getfield 20, 3) := by decide +kernel
theorem dX1_keep_22 : decode cX1_keep 22 = .ok (.iconst 1, 1) := by decide +kernel
theorem dX1_keep_23 : decode cX1_keep 23 = .ok (.aload_n 0, 1) := by decide +kernel
theorem dX1_keep_24 : decode cX1_keep 24 = .ok (.getfield 64, 3) := by decide +kernel
theorem dX1_keep_27 : decode cX1_keep 27 = .ok (.invokestatic 96, 3) := by decide +kernel
theorem dX1_keep_30 : decode cX1_keep 30 = .ok (.aload_n 0, 1) := by decide +kernel
theorem dX1_keep_31 : decode cX1_keep 31 = .ok (.getfield 20, 3) := by decide +kernel
theorem dX1_keep_34 : decode cX1_keep 34 = .ok (.iconst 2, 1) := by decide +kernel
theorem dX1_keep_35 : decode cX1_keep 35 = .ok (.aload_n 0, 1) := by decide +kernel
theorem dX1_keep_36 : decode cX1_keep 36 = .ok (.getfield 67, 3) := by decide +kernel
theorem dX1_keep_39 : decode cX1_keep 39 = .ok (.invokestatic 96, 3) := by decide +kernel
theorem dX1_keep_42 : decode cX1_keep 42 = .ok (.aload_n 0, 1) := by decide +kernel
theorem dX1_keep_43 : decode cX1_keep 43 = .ok (.getfield 20, 3) := by decide +kernel
theorem dX1_keep_46 : decode cX1_keep 46 = .ok (.iconst 3, 1) := by decide +kernel
theorem dX1_keep_47 : decode cX1_keep 47 = .ok (.aload_n 0, 1) := by decide +kernel
theorem dX1_keep_48 : decode cX1_keep 48 = .ok (.getfield 70, 3) := by decide +kernel
theorem dX1_keep_51 : decode cX1_keep 51 = .ok (.invokestatic 96, 3) := by decide +kernel
theorem dX1_keep_54 : decode cX1_keep 54 = .ok (.aload_n 0, 1) := by decide +kernel
theorem dX1_keep_55 : decode cX1_keep 55 = .ok (.getfield 20, 3) := by decide +kernel
theorem dX1_keep_58 : decode cX1_keep 58 = .ok (.iconst 4, 1) := by decide +kernel
theorem dX1_keep_59 : decode cX1_keep 59 = .ok (.aload_n 0, 1) := by decide +kernel
theorem dX1_keep_60 : decode cX1_keep 60 = .ok (.getfield 100, 3) := by decide +kernel
theorem dX1_keep_63 : decode cX1_keep 63 = .ok (.invokestatic 96, 3) := by decide +kernel
theorem dX1_keep_66 : decode cX1_keep 66 = .ok (.aload_n 0, 1) := by decide +kernel
theorem dX1_keep_67 : decode cX1_keep 67 = .ok (.getfield 20, 3) := by decide +kernel
theorem dX1_keep_70 : decode cX1_keep 70 = .ok (.iconst 5, 1) := by decide +kernel
theorem dX1_keep_71 : decode cX1_keep 71 = .ok (.aload_n 0, 1) := by decide +kernel
theorem dX1_keep_72 : decode cX1_keep 72 = .ok (.getfield 103, 3) := by decide +kernel
theorem dX1_keep_75 : decode cX1_keep 75 = .ok (.invokestatic 96, 3) := by decide +kernel
theorem dX1_keep_78 : decode cX1_keep 78 = .ok (.aload_n 0, 1) := by decide +kernel
theorem dX1_keep_79 : decode cX1_keep 79 = .ok (.getfield 20, 3) := by decide +kernel
theorem dX1_keep_82 : decode cX1_keep 82 = .ok (.bipush 6, 2) := by decide +kernel
theorem dX1_keep_84 : decode cX1_keep 84 = .ok (.aload_n 0, 1) := by decide +kernel
theorem dX1_keep_85 : decode cX1_keep 85 = .ok (.getfield 73, 3) := by decide +kernel
theorem dX1_keep_88 : decode cX1_keep 88 = .ok (.ifCond .eq 7, 3) := by decide +kernel
theorem dX1_keep_91 : decode cX1_keep 91 = .ok (.iconst 1, 1) := by decide +kernel
theorem dX1_keep_92 : decode cX1_keep 92 = .ok (.goto 4, 3) := by decide +kernel
theorem dX1_keep_95 : decode cX1_keep 95 = .ok (.iconst 0, 1) := by decide +kernel
theorem dX1_keep_96 : decode cX1_keep 96 = .ok (.invokestatic 96, 3) := by decide +kernel
theorem dX1_keep_99 : decode cX1_keep 99 = .ok (.return_, 1) := by decide +kernel
theorem dX1_keptOf_0 : decode cX1_keptOf 0 = .ok (.aload_n 0, 1) := by decide +kernel
theorem dX1_keptOf_1 : decode cX1_keptOf 1 = .ok (.getfield 20, 3) := by decide +kernel
theorem dX1_keptOf_4 : decode cX1_keptOf 4 = .ok (.iload_n 1, 1) := by decide +kernel
theorem dX1_keptOf_5 : decode cX1_keptOf 5 = .ok (.invokestatic 106, 3) := by decide +kernel
theorem dX1_keptOf_8 : decode cX1_keptOf 8 = .ok (.ireturn, 1) := by decide +kernel
theorem dX1_playEnd_0 : decode cX1_playEnd 0 = .ok (.aload_n 0, 1) := by decide +kernel
theorem dX1_playEnd_1 : decode cX1_playEnd 1 = .ok (.getfield 31, 3) := by decide +kernel
theorem dX1_playEnd_4 : decode cX1_playEnd 4 = .ok (.aload_n 0, 1) := by decide +kernel
theorem dX1_playEnd_5 : decode cX1_playEnd 5 = .ok (.getfield 51, 3) := by decide +kernel
theorem dX1_playEnd_8 : decode cX1_playEnd 8 = .ok (.invokevirtual 137, 3) := by decide +kernel
theorem dX1_playEnd_11 : decode cX1_playEnd 11 = .ok (.istore_n 1, 1) := by decide +kernel
theorem dX1_playEnd_12 : decode cX1_playEnd 12 = .ok (.aload_n 0, 1) := by decide +kernel
theorem dX1_playEnd_13 : decode cX1_playEnd 13 = .ok (.getfield 31, 3) := by decide +kernel
theorem dX1_playEnd_16 : decode cX1_playEnd 16 = .ok (.iload_n 1, 1) := by decide +kernel
theorem dX1_playEnd_17 : decode cX1_playEnd 17 = .ok (.invokevirtual 86, 3) := by decide +kernel
theorem dX1_playEnd_20 : decode cX1_playEnd 20 = .ok (.bipush 9, 2) := by decide +kernel
theorem dX1_playEnd_22 : decode cX1_playEnd 22 = .ok (.if_icmp .ne 16, 3) := by decide +kernel
theorem dX1_playEnd_25 : decode cX1_playEnd 25 = .ok (.aload_n 0, 1) := by decide +kernel
theorem dX1_playEnd_26 : decode cX1_playEnd 26 = .ok (.getfield 11, 3) := by decide +kernel
theorem dX1_playEnd_29 : decode cX1_playEnd 29 = .ok (.iload_n 1, 1) := by decide +kernel
theorem dX1_playEnd_30 : decode cX1_playEnd 30 = .ok (.invokestatic 106, 3) := by decide +kernel
theorem dX1_playEnd_33 : decode cX1_playEnd 33 = .ok (.iconst 1, 1) := by decide +kernel
theorem dX1_playEnd_34 : decode cX1_playEnd 34 = .ok (.isub, 1) := by decide +kernel
theorem dX1_playEnd_35 : decode cX1_playEnd 35 = .ok (.goto 4, 3) := by decide +kernel
theorem dX1_playEnd_38 : decode cX1_playEnd 38 = .ok (.iconst 0, 1) := by decide +kernel
theorem dX1_playEnd_39 : decode cX1_playEnd 39 = .ok (.istore_n 2, 1) := by decide +kernel
theorem dX1_playEnd_40 : decode cX1_playEnd 40 = .ok (.aload_n 0, 1) := by decide +kernel
theorem dX1_playEnd_41 : decode cX1_playEnd 41 = .ok (.getfield 11, 3) := by decide +kernel
theorem dX1_playEnd_44 : decode cX1_playEnd 44 = .ok (.iload_n 1, 1) := by decide +kernel
theorem dX1_playEnd_45 : decode cX1_playEnd 45 = .ok (.iload_n 2, 1) := by decide +kernel
theorem dX1_playEnd_46 : decode cX1_playEnd 46 = .ok (.invokestatic 96, 3) := by decide +kernel
theorem dX1_playEnd_49 : decode cX1_playEnd 49 = .ok (.aload_n 0, 1) := by decide +kernel
theorem dX1_playEnd_50 : decode cX1_playEnd 50 = .ok (.iload_n 2, 1) := by decide +kernel
theorem dX1_playEnd_51 : decode cX1_playEnd 51 = .ok (.ifCond .le 9, 3) := by decide +kernel
theorem dX1_playEnd_54 : decode cX1_playEnd 54 = .ok (.iload_n 1, 1) := by decide +kernel
theorem dX1_playEnd_55 : decode cX1_playEnd 55 = .ok (.iconst 1, 1) := by decide +kernel
theorem dX1_playEnd_56 : decode cX1_playEnd 56 = .ok (.iadd, 1) := by decide +kernel
theorem dX1_playEnd_57 : decode cX1_playEnd 57 = .ok (.goto 9, 3) := by decide +kernel
theorem dX1_playEnd_60 : decode cX1_playEnd 60 = .ok (.aload_n 0, 1) := by decide +kernel
theorem dX1_playEnd_61 : decode cX1_playEnd 61 = .ok (.getfield 51, 3) := by decide +kernel
theorem dX1_playEnd_64 : decode cX1_playEnd 64 = .ok (.iconst 1, 1) := by decide +kernel
theorem dX1_playEnd_65 : decode cX1_playEnd 65 = .ok (.iadd, 1) := by decide +kernel
theorem dX1_playEnd_66 : decode cX1_playEnd 66 = .ok (.putfield 51, 3) := by decide +kernel
theorem dX1_playEnd_69 : decode cX1_playEnd 69 = .ok (.return_, 1) := by decide +kernel
theorem dX1_playFeel_0 : decode cX1_playFeel 0 = .ok (.aload_n 0, 1) := by decide +kernel
theorem dX1_playFeel_1 : decode cX1_playFeel 1 = .ok (.getfield 27, 3) := by decide +kernel
theorem dX1_playFeel_4 : decode cX1_playFeel 4 = .ok (.iload_n 1, 1) := by decide +kernel
theorem dX1_playFeel_5 : decode cX1_playFeel 5 = .ok (.invokevirtual 165, 3) := by decide +kernel
theorem dX1_playFeel_8 : decode cX1_playFeel 8 = .ok (.ifCond .ne 4, 3) := by decide +kernel
theorem dX1_playFeel_11 : decode cX1_playFeel 11 = .ok (.return_, 1) := by decide +kernel
theorem dX1_playFeel_12 : decode cX1_playFeel 12 = .ok (.aload_n 0, 1) := by decide +kernel
theorem dX1_playFeel_13 : decode cX1_playFeel 13 = .ok (.dup, 1) := by decide +kernel
theorem dX1_playFeel_14 : decode cX1_playFeel 14 = .ok (.getfield 60, 3) := by decide +kernel
theorem dX1_playFeel_17 : decode cX1_playFeel 17 = .ok (.aload_n 0, 1) := by decide +kernel
theorem dX1_playFeel_18 : decode cX1_playFeel 18 = .ok (.getfield 27, 3) := by decide +kernel
theorem dX1_playFeel_21 : decode cX1_playFeel 21 = .ok (.iconst 0, 1) := by decide +kernel
theorem dX1_playFeel_22 : decode cX1_playFeel 22 = .ok (.invokevirtual 155, 3) := by decide +kernel
theorem dX1_playFeel_25 : decode cX1_playFeel 25 = .ok (.i2l, 1) := by decide +kernel
theorem dX1_playFeel_26 : decode cX1_playFeel 26 = .ok (.ladd, 1) := by decide +kernel
theorem dX1_playFeel_27 : decode cX1_playFeel 27 = .ok (.putfield 60, 3) := by decide +kernel
theorem dX1_playFeel_30 : decode cX1_playFeel 30 = .ok (.aload_n 0, 1) := by decide +kernel
theorem dX1_playFeel_31 : decode cX1_playFeel 31 = .ok (.dup, 1) := by decide +kernel
theorem dX1_playFeel_32 : decode cX1_playFeel 32 = .ok (.getfield 67, 3) := by decide +kernel
theorem dX1_playFeel_35 : decode cX1_playFeel 35 = .ok (.iconst 1, 1) := by decide +kernel
theorem dX1_playFeel_36 : decode cX1_playFeel 36 = .ok (.iadd, 1) := by decide +kernel
theorem dX1_playFeel_37 : decode cX1_playFeel 37 = .ok (.putfield 67, 3) := by decide +kernel
theorem dX1_playFeel_40 : decode cX1_playFeel 40 = .ok (.aload_n 0, 1) := by decide +kernel
theorem dX1_playFeel_41 : decode cX1_playFeel 41 = .ok (.bipush 16, 2) := by decide +kernel
theorem dX1_playFeel_43 : decode cX1_playFeel 43 = .ok (.invokevirtual 114, 3) := by decide +kernel
theorem dX1_playFeel_46 : decode cX1_playFeel 46 = .ok (.istore_n 2, 1) := by decide +kernel
theorem dX1_playFeel_47 : decode cX1_playFeel 47 = .ok (.iconst 0, 1) := by decide +kernel
theorem dX1_playFeel_48 : decode cX1_playFeel 48 = .ok (.istore_n 3, 1) := by decide +kernel
theorem dX1_playFeel_49 : decode cX1_playFeel 49 = .ok (.iconst 0, 1) := by decide +kernel
theorem dX1_playFeel_50 : decode cX1_playFeel 50 = .ok (.istore 4, 2) := by decide +kernel
theorem dX1_playFeel_52 : decode cX1_playFeel 52 = .ok (.iconst 0, 1) := by decide +kernel
theorem dX1_playFeel_53 : decode cX1_playFeel 53 = .ok (.istore 5, 2) := by decide +kernel
theorem dX1_playFeel_55 : decode cX1_playFeel 55 = .ok (.iload 5, 2) := by decide +kernel
theorem dX1_playFeel_57 : decode cX1_playFeel 57 = .ok (.aload_n 0, 1) := by decide +kernel
theorem dX1_playFeel_58 : decode cX1_playFeel 58 = .ok (.getfield 27, 3) := by decide +kernel
theorem dX1_playFeel_61 : decode cX1_playFeel 61 = .ok (.iload_n 1, 1) := by decide +kernel
theorem dX1_playFeel_62 : decode cX1_playFeel 62 = .ok (.invokevirtual 169, 3) := by decide +kernel
theorem dX1_playFeel_65 : decode cX1_playFeel 65 = .ok (.if_icmp .ge 48, 3) := by decide +kernel
theorem dX1_playFeel_68 : decode cX1_playFeel 68 = .ok (.iload 4, 2) := by decide +kernel
theorem dX1_playFeel_70 : decode cX1_playFeel 70 = .ok (.iload_n 2, 1) := by decide +kernel
theorem dX1_playFeel_71 : decode cX1_playFeel 71 = .ok (.if_icmp .gt 42, 3) := by decide +kernel
theorem dX1_playFeel_74 : decode cX1_playFeel 74 = .ok (.iload 5, 2) := by decide +kernel
theorem dX1_playFeel_76 : decode cX1_playFeel 76 = .ok (.istore_n 3, 1) := by decide +kernel
theorem dX1_playFeel_77 : decode cX1_playFeel 77 = .ok (.iload 4, 2) := by decide +kernel
theorem dX1_playFeel_79 : decode cX1_playFeel 79 = .ok (.aload_n 0, 1) := by decide +kernel
theorem dX1_playFeel_80 : decode cX1_playFeel 80 = .ok (.getfield 27, 3) := by decide +kernel
theorem dX1_playFeel_83 : decode cX1_playFeel 83 = .ok (.aload_n 0, 1) := by decide +kernel
theorem dX1_playFeel_84 : decode cX1_playFeel 84 = .ok (.getfield 40, 3) := by decide +kernel
