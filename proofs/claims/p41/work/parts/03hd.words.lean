theorem dX12_readFeature_55 : decode cX12_readFeature 55 = .ok (.iconst 0, 1) := by decide +kernel
theorem dX12_readFeature_56 : decode cX12_readFeature 56 = .ok (.invokevirtual 210, 3) := by decide +kernel
theorem dX12_readFeature_59 : decode cX12_readFeature 59 = .ok (.aload_n 0, 1) := by decide +kernel
theorem dX12_readFeature_60 : decode cX12_readFeature 60 = .ok (.iconst 2, 1) := by decide +kernel
theorem dX12_readFeature_61 : decode cX12_readFeature 61 = .ok (.iconst 4, 1) := by decide +kernel
theorem dX12_readFeature_62 : decode cX12_readFeature 62 = .ok (.invokevirtual 214, 3) := by decide +kernel
theorem dX12_readFeature_65 : decode cX12_readFeature 65 = .ok (.istore_n 2, 1) := by decide +kernel
theorem dX12_readFeature_66 : decode cX12_readFeature 66 = .ok (.aload_n 0, 1) := by decide +kernel
theorem dX12_readFeature_67 : decode cX12_readFeature 67 = .ok (.getfield 174, 3) := by decide +kernel
theorem dX12_readFeature_70 : decode cX12_readFeature 70 = .ok (.ifCond .ne 16, 3) := by decide +kernel
theorem dX12_readFeature_73 : decode cX12_readFeature 73 = .ok (.aload_n 0, 1) := by decide +kernel
theorem dX12_readFeature_74 : decode cX12_readFeature 74 = .ok (.invokevirtual 170, 3) := by decide +kernel
theorem dX12_readFeature_77 : decode cX12_readFeature 77 = .ok (.bipush 6, 2) := by decide +kernel
theorem dX12_readFeature_79 : decode cX12_readFeature 79 = .ok (.if_icmp .ne 7, 3) := by decide +kernel
theorem dX12_readFeature_82 : decode cX12_readFeature 82 = .ok (.iconst 1, 1) := by decide +kernel
theorem dX12_readFeature_83 : decode cX12_readFeature 83 = .ok (.goto 4, 3) := by decide +kernel
theorem dX12_readFeature_86 : decode cX12_readFeature 86 = .ok (.iconst 0, 1) := by decide +kernel
theorem dX12_readFeature_87 : decode cX12_readFeature 87 = .ok (.istore_n 3, 1) := by decide +kernel
theorem dX12_readFeature_88 : decode cX12_readFeature 88 = .ok (.iload_n 3, 1) := by decide +kernel
theorem dX12_readFeature_89 : decode cX12_readFeature 89 = .ok (.ifCond .eq 7, 3) := by decide +kernel
theorem dX12_readFeature_92 : decode cX12_readFeature 92 = .ok (.aload_n 0, 1) := by decide +kernel
theorem dX12_readFeature_93 : decode cX12_readFeature 93 = .ok (.invokevirtual 184, 3) := by decide +kernel
theorem dX12_readFeature_96 : decode cX12_readFeature 96 = .ok (.aload_n 0, 1) := by decide +kernel
theorem dX12_readFeature_97 : decode cX12_readFeature 97 = .ok (.getfield 174, 3) := by decide +kernel
theorem dX12_readFeature_100 : decode cX12_readFeature 100 = .ok (.ifCond .le 4, 3) := by decide +kernel
theorem dX12_readFeature_103 : decode cX12_readFeature 103 = .ok (.return_, 1) := by decide +kernel
theorem dX12_readFeature_104 : decode cX12_readFeature 104 = .ok (.aload_n 0, 1) := by decide +kernel
theorem dX12_readFeature_105 : decode cX12_readFeature 105 = .ok (.getfield 35, 3) := by decide +kernel
theorem dX12_readFeature_108 : decode cX12_readFeature 108 = .ok (.sipush 1471, 3) := by decide +kernel
theorem dX12_readFeature_111 : decode cX12_readFeature 111 = .ok (.iload_n 1, 1) := by decide +kernel
theorem dX12_readFeature_112 : decode cX12_readFeature 112 = .ok (.iadd, 1) := by decide +kernel
theorem dX12_readFeature_113 : decode cX12_readFeature 113 = .ok (.iload_n 2, 1) := by decide +kernel
theorem dX12_readFeature_114 : decode cX12_readFeature 114 = .ok (.iastore, 1) := by decide +kernel
theorem dX12_readFeature_115 : decode cX12_readFeature 115 = .ok (.aload_n 0, 1) := by decide +kernel
theorem dX12_readFeature_116 : decode cX12_readFeature 116 = .ok (.getfield 35, 3) := by decide +kernel
theorem dX12_readFeature_119 : decode cX12_readFeature 119 = .ok (.sipush 1474, 3) := by decide +kernel
theorem dX12_readFeature_122 : decode cX12_readFeature 122 = .ok (.iload_n 1, 1) := by decide +kernel
theorem dX12_readFeature_123 : decode cX12_readFeature 123 = .ok (.iadd, 1) := by decide +kernel
theorem dX12_readFeature_124 : decode cX12_readFeature 124 = .ok (.iload_n 3, 1) := by decide +kernel
theorem dX12_readFeature_125 : decode cX12_readFeature 125 = .ok (.ifCond .eq 7, 3) := by decide +kernel
theorem dX12_readFeature_128 : decode cX12_readFeature 128 = .ok (.iconst 1, 1) := by decide +kernel
theorem dX12_readFeature_129 : decode cX12_readFeature 129 = .ok (.goto 4, 3) := by decide +kernel
theorem dX12_readFeature_132 : decode cX12_readFeature 132 = .ok (.iconst 0, 1) := by decide +kernel
theorem dX12_readFeature_133 : decode cX12_readFeature 133 = .ok (.iastore, 1) := by decide +kernel
theorem dX12_readFeature_134 : decode cX12_readFeature 134 = .ok (.iconst 0, 1) := by decide +kernel
theorem dX12_readFeature_135 : decode cX12_readFeature 135 = .ok (.istore 4, 2) := by decide +kernel
theorem dX12_readFeature_137 : decode cX12_readFeature 137 = .ok (.iload 4, 2) := by decide +kernel
theorem dX12_readFeature_139 : decode cX12_readFeature 139 = .ok (.bipush 16, 2) := by decide +kernel
theorem dX12_readFeature_141 : decode cX12_readFeature 141 = .ok (.if_icmp .ge 38, 3) := by decide +kernel
theorem dX12_readFeature_144 : decode cX12_readFeature 144 = .ok (.aload_n 0, 1) := by decide +kernel
theorem dX12_readFeature_145 : decode cX12_readFeature 145 = .ok (.getfield 35, 3) := by decide +kernel
theorem dX12_readFeature_148 : decode cX12_readFeature 148 = .ok (.sipush 1477, 3) := by decide +kernel
theorem dX12_readFeature_151 : decode cX12_readFeature 151 = .ok (.bipush 16, 2) := by decide +kernel
theorem dX12_readFeature_153 : decode cX12_readFeature 153 = .ok (.iload_n 1, 1) := by decide +kernel
theorem dX12_readFeature_154 : decode cX12_readFeature 154 = .ok (.imul, 1) := by decide +kernel
theorem dX12_readFeature_155 : decode cX12_readFeature 155 = .ok (.iadd, 1) := by decide +kernel
theorem dX12_readFeature_156 : decode cX12_readFeature 156 = .ok (.iload 4, 2) := by decide +kernel
theorem dX12_readFeature_158 : decode cX12_readFeature 158 = .ok (.iadd, 1) := by decide +kernel
theorem dX12_readFeature_159 : decode cX12_readFeature 159 = .ok (.iload 4, 2) := by decide +kernel
theorem dX12_readFeature_161 : decode cX12_readFeature 161 = .ok (.iconst 5, 1) := by decide +kernel
theorem dX12_readFeature_162 : decode cX12_readFeature 162 = .ok (.irem, 1) := by decide +kernel
theorem dX12_readFeature_163 : decode cX12_readFeature 163 = .ok (.ifCond .ne 8, 3) := by decide +kernel
theorem dX12_readFeature_166 : decode cX12_readFeature 166 = .ok (.bipush 16, 2) := by decide +kernel
theorem dX12_readFeature_168 : decode cX12_readFeature 168 = .ok (.goto 4, 3) := by decide +kernel
theorem dX12_readFeature_171 : decode cX12_readFeature 171 = .ok (.iconst 0, 1) := by decide +kernel
theorem dX12_readFeature_172 : decode cX12_readFeature 172 = .ok (.iastore, 1) := by decide +kernel
theorem dX12_readFeature_173 : decode cX12_readFeature 173 = .ok (.iinc 4 1, 3) := by decide +kernel
theorem dX12_readFeature_176 : decode cX12_readFeature 176 = .ok (.goto (-39), 3) := by decide +kernel
theorem dX12_readFeature_179 : decode cX12_readFeature 179 = .ok (.aload_n 0, 1) := by decide +kernel
theorem dX12_readFeature_180 : decode cX12_readFeature 180 = .ok (.getfield 68, 3) := by decide +kernel
theorem dX12_readFeature_183 : decode cX12_readFeature 183 = .ok (.iload_n 1, 1) := by decide +kernel
theorem dX12_readFeature_184 : decode cX12_readFeature 184 = .ok (.iconst 0, 1) := by decide +kernel
theorem dX12_readFeature_185 : decode cX12_readFeature 185 = .ok (.bastore, 1) := by decide +kernel
theorem dX12_readFeature_186 : decode cX12_readFeature 186 = .ok (.aload_n 0, 1) := by decide +kernel
theorem dX12_readFeature_187 : decode cX12_readFeature 187 = .ok (.getfield 35, 3) := by decide +kernel
theorem dX12_readFeature_190 : decode cX12_readFeature 190 = .ok (.sipush 1460, 3) := by decide +kernel
theorem dX12_readFeature_193 : decode cX12_readFeature 193 = .ok (.dup2, 1) := by decide +kernel
theorem dX12_readFeature_194 : decode cX12_readFeature 194 = .ok (.iaload, 1) := by decide +kernel
theorem dX12_readFeature_195 : decode cX12_readFeature 195 = .ok (.iconst 1, 1) := by decide +kernel
theorem dX12_readFeature_196 : decode cX12_readFeature 196 = .ok (.iadd, 1) := by decide +kernel
theorem dX12_readFeature_197 : decode cX12_readFeature 197 = .ok (.iastore, 1) := by decide +kernel
theorem dX12_readFeature_198 : decode cX12_readFeature 198 = .ok (.return_, 1) := by decide +kernel
theorem dX12_readFeatureName_0 : decode cX12_readFeatureName 0 = .ok (.aload_n 0, 1) := by decide +kernel
theorem dX12_readFeatureName_1 : decode cX12_readFeatureName 1 = .ok (.getfield 174, 3) := by decide +kernel
theorem dX12_readFeatureName_4 : decode cX12_readFeatureName 4 = .ok (.ifCond .ne 14, 3) := by decide +kernel
theorem dX12_readFeatureName_7 : decode cX12_readFeatureName 7 = .ok (.aload_n 0, 1) := by decide +kernel
theorem dX12_readFeatureName_8 : decode cX12_readFeatureName 8 = .ok (.invokevirtual 200, 3) := by decide +kernel
theorem dX12_readFeatureName_11 : decode cX12_readFeatureName 11 = .ok (.ifCond .ne 7, 3) := by decide +kernel
theorem dX12_readFeatureName_14 : decode cX12_readFeatureName 14 = .ok (.aload_n 0, 1) := by decide +kernel
theorem dX12_readFeatureName_15 : decode cX12_readFeatureName 15 = .ok (.invokevirtual 187, 3) := by decide +kernel
theorem dX12_readFeatureName_18 : decode cX12_readFeatureName 18 = .ok (.aload_n 0, 1) := by decide +kernel
theorem dX12_readFeatureName_19 : decode cX12_readFeatureName 19 = .ok (.getfield 174, 3) := by decide +kernel
theorem dX12_readFeatureName_22 : decode cX12_readFeatureName 22 = .ok (.ifCond .ne 18, 3) := by decide +kernel
theorem dX12_readFeatureName_25 : decode cX12_readFeatureName 25 = .ok (.aload_n 0, 1) := by decide +kernel
theorem dX12_readFeatureName_26 : decode cX12_readFeatureName 26 = .ok (.iconst 0, 1) := by decide +kernel
theorem dX12_readFeatureName_27 : decode cX12_readFeatureName 27 = .ok (.iconst 0, 1) := by decide +kernel
theorem dX12_readFeatureName_28 : decode cX12_readFeatureName 28 = .ok (.aload_n 0, 1) := by decide +kernel
theorem dX12_readFeatureName_29 : decode cX12_readFeatureName 29 = .ok (.getfield 35, 3) := by decide +kernel
theorem dX12_readFeatureName_32 : decode cX12_readFeatureName 32 = .ok (.iconst 0, 1) := by decide +kernel
theorem dX12_readFeatureName_33 : decode cX12_readFeatureName 33 = .ok (.iaload, 1) := by decide +kernel
theorem dX12_readFeatureName_34 : decode cX12_readFeatureName 34 = .ok (.invokevirtual 196, 3) := by decide +kernel
theorem dX12_readFeatureName_37 : decode cX12_readFeatureName 37 = .ok (.goto 4, 3) := by decide +kernel
theorem dX12_readFeatureName_40 : decode cX12_readFeatureName 40 = .ok (.iconst 0, 1) := by decide +kernel
theorem dX12_readFeatureName_41 : decode cX12_readFeatureName 41 = .ok (.istore_n 1, 1) := by decide +kernel
theorem dX12_readFeatureName_42 : decode cX12_readFeatureName 42 = .ok (.aload_n 0, 1) := by decide +kernel
theorem dX12_readFeatureName_43 : decode cX12_readFeatureName 43 = .ok (.getfield 174, 3) := by decide +kernel
theorem dX12_readFeatureName_46 : decode cX12_readFeatureName 46 = .ok (.ifCond .ne 16, 3) := by decide +kernel
theorem dX12_readFeatureName_49 : decode cX12_readFeatureName 49 = .ok (.iload_n 1, 1) := by decide +kernel
theorem dX12_readFeatureName_50 : decode cX12_readFeatureName 50 = .ok (.ifCond .ge 12, 3) := by decide +kernel
theorem dX12_readFeatureName_53 : decode cX12_readFeatureName 53 = .ok (.aload_n 0, 1) := by decide +kernel
theorem dX12_readFeatureName_54 : decode cX12_readFeatureName 54 = .ok (.iconst 3, 1) := by decide +kernel
theorem dX12_readFeatureName_55 : decode cX12_readFeatureName 55 = .ok (.aload_n 0, 1) := by decide +kernel
theorem dX12_readFeatureName_56 : decode cX12_readFeatureName 56 = .ok (.getfield 127, 3) := by decide +kernel
theorem dX12_readFeatureName_59 : decode cX12_readFeatureName 59 = .ok (.invokevirtual 180, 3) := by decide +kernel
theorem dX12_readFeatureName_62 : decode cX12_readFeatureName 62 = .ok (.aload_n 0, 1) := by decide +kernel
theorem dX12_readFeatureName_63 : decode cX12_readFeatureName 63 = .ok (.iconst 1, 1) := by decide +kernel
theorem dX12_readFeatureName_64 : decode cX12_readFeatureName 64 = .ok (.invokevirtual 210, 3) := by decide +kernel
theorem dX12_readFeatureName_67 : decode cX12_readFeatureName 67 = .ok (.iload_n 1, 1) := by decide +kernel
theorem dX12_readFeatureName_68 : decode cX12_readFeatureName 68 = .ok (.ireturn, 1) := by decide +kernel
theorem dX12_readFeels_0 : decode cX12_readFeels 0 = .ok (.aload_n 0, 1) := by decide +kernel
theorem dX12_readFeels_1 : decode cX12_readFeels 1 = .ok (.invokevirtual 184, 3) := by decide +kernel
theorem dX12_readFeels_4 : decode cX12_readFeels 4 = .ok (.aload_n 0, 1) := by decide +kernel
theorem dX12_readFeels_5 : decode cX12_readFeels 5 = .ok (.iconst 0, 1) := by decide +kernel
theorem dX12_readFeels_6 : decode cX12_readFeels 6 = .ok (.iconst 0, 1) := by decide +kernel
theorem dX12_readFeels_7 : decode cX12_readFeels 7 = .ok (.invokevirtual 217, 3) := by decide +kernel
theorem dX12_readFeels_10 : decode cX12_readFeels 10 = .ok (.istore_n 1, 1) := by decide +kernel
theorem dX12_readFeels_11 : decode cX12_readFeels 11 = .ok (.aload_n 0, 1) := by decide +kernel
theorem dX12_readFeels_12 : decode cX12_readFeels 12 = .ok (.getfield 174, 3) := by decide +kernel
theorem dX12_readFeels_15 : decode cX12_readFeels 15 = .ok (.ifCond .ne 21, 3) := by decide +kernel
theorem dX12_readFeels_18 : decode cX12_readFeels 18 = .ok (.aload_n 0, 1) := by decide +kernel
theorem dX12_readFeels_19 : decode cX12_readFeels 19 = .ok (.getfield 68, 3) := by decide +kernel
theorem dX12_readFeels_22 : decode cX12_readFeels 22 = .ok (.iload_n 1, 1) := by decide +kernel
theorem dX12_readFeels_23 : decode cX12_readFeels 23 = .ok (.baload, 1) := by decide +kernel
theorem dX12_readFeels_24 : decode cX12_readFeels 24 = .ok (.ifCond .eq 12, 3) := by decide +kernel
theorem dX12_readFeels_27 : decode cX12_readFeels 27 = .ok (.aload_n 0, 1) := by decide +kernel
theorem dX12_readFeels_28 : decode cX12_readFeels 28 = .ok (.iconst 5, 1) := by decide +kernel
theorem dX12_readFeels_29 : decode cX12_readFeels 29 = .ok (.aload_n 0, 1) := by decide +kernel
theorem dX12_readFeels_30 : decode cX12_readFeels 30 = .ok (.getfield 127, 3) := by decide +kernel
theorem dX12_readFeels_33 : decode cX12_readFeels 33 = .ok (.invokevirtual 180, 3) := by decide +kernel
theorem dX12_readFeels_36 : decode cX12_readFeels 36 = .ok (.aload_n 0, 1) := by decide +kernel
theorem dX12_readFeels_37 : decode cX12_readFeels 37 = .ok (.getfield 174, 3) := by decide +kernel
theorem dX12_readFeels_40 : decode cX12_readFeels 40 = .ok (.ifCond .le 4, 3) := by decide +kernel
theorem dX12_readFeels_43 : decode cX12_readFeels 43 = .ok (.return_, 1) := by decide +kernel
theorem dX12_readFeels_44 : decode cX12_readFeels 44 = .ok (.aload_n 0, 1) := by decide +kernel
theorem dX12_readFeels_45 : decode cX12_readFeels 45 = .ok (.getfield 68, 3) := by decide +kernel
theorem dX12_readFeels_48 : decode cX12_readFeels 48 = .ok (.iload_n 1, 1) := by decide +kernel
theorem dX12_readFeels_49 : decode cX12_readFeels 49 = .ok (.iconst 1, 1) := by decide +kernel
theorem dX12_readFeels_50 : decode cX12_readFeels 50 = .ok (.bastore, 1) := by decide +kernel
theorem dX12_readFeels_51 : decode cX12_readFeels 51 = .ok (.aload_n 0, 1) := by decide +kernel
theorem dX12_readFeels_52 : decode cX12_readFeels 52 = .ok (.invokevirtual 184, 3) := by decide +kernel
theorem dX12_readFeels_55 : decode cX12_readFeels 55 = .ok (.aload_n 0, 1) := by decide +kernel
theorem dX12_readFeels_56 : decode cX12_readFeels 56 = .ok (.getfield 35, 3) := by decide +kernel
theorem dX12_readFeels_59 : decode cX12_readFeels 59 = .ok (.sipush 1471, 3) := by decide +kernel
theorem dX12_readFeels_62 : decode cX12_readFeels 62 = .ok (.iload_n 1, 1) := by decide +kernel
theorem dX12_readFeels_63 : decode cX12_readFeels 63 = .ok (.iadd, 1) := by decide +kernel
theorem dX12_readFeels_64 : decode cX12_readFeels 64 = .ok (.iaload, 1) := by decide +kernel
theorem dX12_readFeels_65 : decode cX12_readFeels 65 = .ok (.istore_n 2, 1) := by decide +kernel
theorem dX12_readFeels_66 : decode cX12_readFeels 66 = .ok (.iconst 0, 1) := by decide +kernel
theorem dX12_readFeels_67 : decode cX12_readFeels 67 = .ok (.istore_n 3, 1) := by decide +kernel
theorem dX12_readFeels_68 : decode cX12_readFeels 68 = .ok (.iconst 0, 1) := by decide +kernel
theorem dX12_readFeels_69 : decode cX12_readFeels 69 = .ok (.istore 4, 2) := by decide +kernel
theorem dX12_readFeels_71 : decode cX12_readFeels 71 = .ok (.iconst 1, 1) := by decide +kernel
theorem dX12_readFeels_72 : decode cX12_readFeels 72 = .ok (.istore 5, 2) := by decide +kernel
theorem dX12_readFeels_74 : decode cX12_readFeels 74 = .ok (.iload 5, 2) := by decide +kernel
theorem dX12_readFeels_76 : decode cX12_readFeels 76 = .ok (.ifCond .eq 186, 3) := by decide +kernel
theorem dX12_readFeels_79 : decode cX12_readFeels 79 = .ok (.aload_n 0, 1) := by decide +kernel
theorem dX12_readFeels_80 : decode cX12_readFeels 80 = .ok (.getfield 174, 3) := by decide +kernel
theorem dX12_readFeels_83 : decode cX12_readFeels 83 = .ok (.ifCond .ne 179, 3) := by decide +kernel
theorem dX12_readFeels_86 : decode cX12_readFeels 86 = .ok (.aload_n 0, 1) := by decide +kernel
theorem dX12_readFeels_87 : decode cX12_readFeels 87 = .ok (.getfield 133, 3) := by decide +kernel
theorem dX12_readFeels_90 : decode cX12_readFeels 90 = .ok (.iconst 2, 1) := by decide +kernel
theorem dX12_readFeels_91 : decode cX12_readFeels 91 = .ok (.if_icmp .eq 7, 3) := by decide +kernel
theorem dX12_readFeels_94 : decode cX12_readFeels 94 = .ok (.aload_n 0, 1) := by decide +kernel
theorem dX12_readFeels_95 : decode cX12_readFeels 95 = .ok (.invokevirtual 187, 3) := by decide +kernel
theorem dX12_readFeels_98 : decode cX12_readFeels 98 = .ok (.aload_n 0, 1) := by decide +kernel
theorem dX12_readFeels_99 : decode cX12_readFeels 99 = .ok (.getfield 174, 3) := by decide +kernel
theorem dX12_readFeels_102 : decode cX12_readFeels 102 = .ok (.ifCond .ne 21, 3) := by decide +kernel
theorem dX12_readFeels_105 : decode cX12_readFeels 105 = .ok (.aload_n 0, 1) := by decide +kernel
theorem dX12_readFeels_106 : decode cX12_readFeels 106 = .ok (.getfield 152, 3) := by decide +kernel
theorem dX12_readFeels_109 : decode cX12_readFeels 109 = .ok (.bipush 16, 2) := by decide +kernel
theorem dX12_readFeels_111 : decode cX12_readFeels 111 = .ok (.if_icmp .le 12, 3) := by decide +kernel
theorem dX12_readFeels_114 : decode cX12_readFeels 114 = .ok (.aload_n 0, 1) := by decide +kernel
theorem dX12_readFeels_115 : decode cX12_readFeels 115 = .ok (.iconst 4, 1) := by decide +kernel
theorem dX12_readFeels_116 : decode cX12_readFeels 116 = .ok (.aload_n 0, 1) := by decide +kernel
theorem dX12_readFeels_117 : decode cX12_readFeels 117 = .ok (.getfield 127, 3) := by decide +kernel
theorem dX12_readFeels_120 : decode cX12_readFeels 120 = .ok (.invokevirtual 180, 3) := by decide +kernel
theorem dX12_readFeels_123 : decode cX12_readFeels 123 = .ok (.aload_n 0, 1) := by decide +kernel
theorem dX12_readFeels_124 : decode cX12_readFeels 124 = .ok (.getfield 174, 3) := by decide +kernel
theorem dX12_readFeels_127 : decode cX12_readFeels 127 = .ok (.ifCond .ne 20, 3) := by decide +kernel
theorem dX12_readFeels_130 : decode cX12_readFeels 130 = .ok (.iload_n 3, 1) := by decide +kernel
theorem dX12_readFeels_131 : decode cX12_readFeels 131 = .ok (.iload_n 2, 1) := by decide +kernel
theorem dX12_readFeels_132 : decode cX12_readFeels 132 = .ok (.iload_n 2, 1) := by decide +kernel
theorem dX12_readFeels_133 : decode cX12_readFeels 133 = .ok (.imul, 1) := by decide +kernel
theorem dX12_readFeels_134 : decode cX12_readFeels 134 = .ok (.if_icmp .ne 13, 3) := by decide +kernel
theorem dX12_readFeels_137 : decode cX12_readFeels 137 = .ok (.aload_n 0, 1) := by decide +kernel
theorem dX12_readFeels_138 : decode cX12_readFeels 138 = .ok (.bipush 8, 2) := by decide +kernel
theorem dX12_readFeels_140 : decode cX12_readFeels 140 = .ok (.aload_n 0, 1) := by decide +kernel
theorem dX12_readFeels_141 : decode cX12_readFeels 141 = .ok (.getfield 127, 3) := by decide +kernel
theorem dX12_readFeels_144 : decode cX12_readFeels 144 = .ok (.invokevirtual 180, 3) := by decide +kernel
theorem dX12_readFeels_147 : decode cX12_readFeels 147 = .ok (.iload_n 3, 1) := by decide +kernel
theorem dX12_readFeels_148 : decode cX12_readFeels 148 = .ok (.iload_n 2, 1) := by decide +kernel
theorem dX12_readFeels_149 : decode cX12_readFeels 149 = .ok (.irem, 1) := by decide +kernel
theorem dX12_readFeels_150 : decode cX12_readFeels 150 = .ok (.ifCond .ne 10, 3) := by decide +kernel
theorem dX12_readFeels_153 : decode cX12_readFeels 153 = .ok (.aload_n 0, 1) := by decide +kernel
theorem dX12_readFeels_154 : decode cX12_readFeels 154 = .ok (.getfield 152, 3) := by decide +kernel
theorem dX12_readFeels_157 : decode cX12_readFeels 157 = .ok (.goto 10, 3) := by decide +kernel
theorem dX12_readFeels_160 : decode cX12_readFeels 160 = .ok (.iload 4, 2) := by decide +kernel
theorem dX12_readFeels_162 : decode cX12_readFeels 162 = .ok (.aload_n 0, 1) := by decide +kernel
theorem dX12_readFeels_163 : decode cX12_readFeels 163 = .ok (.getfield 152, 3) := by decide +kernel
theorem dX12_readFeels_166 : decode cX12_readFeels 166 = .ok (.iadd, 1) := by decide +kernel
theorem dX12_readFeels_167 : decode cX12_readFeels 167 = .ok (.istore 4, 2) := by decide +kernel
theorem dX12_readFeels_169 : decode cX12_readFeels 169 = .ok (.aload_n 0, 1) := by decide +kernel
theorem dX12_readFeels_170 : decode cX12_readFeels 170 = .ok (.getfield 174, 3) := by decide +kernel
theorem dX12_readFeels_173 : decode cX12_readFeels 173 = .ok (.ifCond .ne 29, 3) := by decide +kernel
theorem dX12_readFeels_176 : decode cX12_readFeels 176 = .ok (.iload_n 3, 1) := by decide +kernel
theorem dX12_readFeels_177 : decode cX12_readFeels 177 = .ok (.iload_n 2, 1) := by decide +kernel
theorem dX12_readFeels_178 : decode cX12_readFeels 178 = .ok (.irem, 1) := by decide +kernel
theorem dX12_readFeels_179 : decode cX12_readFeels 179 = .ok (.iload_n 2, 1) := by decide +kernel
theorem dX12_readFeels_180 : decode cX12_readFeels 180 = .ok (.iconst 1, 1) := by decide +kernel
theorem dX12_readFeels_181 : decode cX12_readFeels 181 = .ok (.isub, 1) := by decide +kernel
theorem dX12_readFeels_182 : decode cX12_readFeels 182 = .ok (.if_icmp .ne 20, 3) := by decide +kernel
theorem dX12_readFeels_185 : decode cX12_readFeels 185 = .ok (.iload 4, 2) := by decide +kernel
theorem dX12_readFeels_187 : decode cX12_readFeels 187 = .ok (.bipush 16, 2) := by decide +kernel
theorem dX12_readFeels_189 : decode cX12_readFeels 189 = .ok (.if_icmp .eq 13, 3) := by decide +kernel
theorem dX12_readFeels_192 : decode cX12_readFeels 192 = .ok (.aload_n 0, 1) := by decide +kernel
theorem dX12_readFeels_193 : decode cX12_readFeels 193 = .ok (.bipush 9, 2) := by decide +kernel
theorem dX12_readFeels_195 : decode cX12_readFeels 195 = .ok (.aload_n 0, 1) := by decide +kernel
theorem dX12_readFeels_196 : decode cX12_readFeels 196 = .ok (.getfield 127, 3) := by decide +kernel
theorem dX12_readFeels_199 : decode cX12_readFeels 199 = .ok (.invokevirtual 180, 3) := by decide +kernel
theorem dX12_readFeels_202 : decode cX12_readFeels 202 = .ok (.aload_n 0, 1) := by decide +kernel
theorem dX12_readFeels_203 : decode cX12_readFeels 203 = .ok (.getfield 174, 3) := by decide +kernel
theorem dX12_readFeels_206 : decode cX12_readFeels 206 = .ok (.ifCond .le 4, 3) := by decide +kernel
theorem dX12_readFeels_209 : decode cX12_readFeels 209 = .ok (.return_, 1) := by decide +kernel
theorem dX12_readFeels_210 : decode cX12_readFeels 210 = .ok (.aload_n 0, 1) := by decide +kernel
theorem dX12_readFeels_211 : decode cX12_readFeels 211 = .ok (.getfield 35, 3) := by decide +kernel
theorem dX12_readFeels_214 : decode cX12_readFeels 214 = .ok (.sipush 1477, 3) := by decide +kernel
theorem dX12_readFeels_217 : decode cX12_readFeels 217 = .ok (.bipush 16, 2) := by decide +kernel
theorem dX12_readFeels_219 : decode cX12_readFeels 219 = .ok (.iload_n 1, 1) := by decide +kernel
theorem dX12_readFeels_220 : decode cX12_readFeels 220 = .ok (.imul, 1) := by decide +kernel
theorem dX12_readFeels_221 : decode cX12_readFeels 221 = .ok (.iadd, 1) := by decide +kernel
theorem dX12_readFeels_222 : decode cX12_readFeels 222 = .ok (.iconst 4, 1) := by decide +kernel
theorem dX12_readFeels_223 : decode cX12_readFeels 223 = .ok (.iload_n 3, 1) := by decide +kernel
theorem dX12_readFeels_224 : decode cX12_readFeels 224 = .ok (.iload_n 2, 1) := by decide +kernel
theorem dX12_readFeels_225 : decode cX12_readFeels 225 = .ok (.idiv, 1) := by decide +kernel
theorem dX12_readFeels_226 : decode cX12_readFeels 226 = .ok (.imul, 1) := by decide +kernel
theorem dX12_readFeels_227 : decode cX12_readFeels 227 = .ok (.iadd, 1) := by decide +kernel
theorem dX12_readFeels_228 : decode cX12_readFeels 228 = .ok (.iload_n 3, 1) := by decide +kernel
theorem dX12_readFeels_229 : decode cX12_readFeels 229 = .ok (.iload_n 2, 1) := by decide +kernel
theorem dX12_readFeels_230 : decode cX12_readFeels 230 = .ok (.irem, 1) := by decide +kernel
theorem dX12_readFeels_231 : decode cX12_readFeels 231 = .ok (.iadd, 1) := by decide +kernel
theorem dX12_readFeels_232 : decode cX12_readFeels 232 = .ok (.aload_n 0, 1) := by decide +kernel
theorem dX12_readFeels_233 : decode cX12_readFeels 233 = .ok (.getfield 152, 3) := by decide +kernel
theorem dX12_readFeels_236 : decode cX12_readFeels 236 = .ok (.iastore, 1) := by decide +kernel
theorem dX12_readFeels_237 : decode cX12_readFeels 237 = .ok (.iinc 3 1, 3) := by decide +kernel
theorem dX12_readFeels_240 : decode cX12_readFeels 240 = .ok (.aload_n 0, 1) := by decide +kernel
theorem dX12_readFeels_241 : decode cX12_readFeels 241 = .ok (.invokevirtual 184, 3) := by decide +kernel
theorem dX12_readFeels_244 : decode cX12_readFeels 244 = .ok (.aload_n 0, 1) := by decide +kernel
theorem dX12_readFeels_245 : decode cX12_readFeels 245 = .ok (.getfield 133, 3) := by decide +kernel
theorem dX12_readFeels_248 : decode cX12_readFeels 248 = .ok (.iconst 2, 1) := by decide +kernel
theorem dX12_readFeels_249 : decode cX12_readFeels 249 = .ok (.if_icmp .ne 7, 3) := by decide +kernel
theorem dX12_readFeels_252 : decode cX12_readFeels 252 = .ok (.iconst 1, 1) := by decide +kernel
theorem dX12_readFeels_253 : decode cX12_readFeels 253 = .ok (.goto 4, 3) := by decide +kernel
theorem dX12_readFeels_256 : decode cX12_readFeels 256 = .ok (.iconst 0, 1) := by decide +kernel
theorem dX12_readFeels_257 : decode cX12_readFeels 257 = .ok (.istore 5, 2) := by decide +kernel
theorem dX12_readFeels_259 : decode cX12_readFeels 259 = .ok (.goto (-185), 3) := by decide +kernel
theorem dX12_readFeels_262 : decode cX12_readFeels 262 = .ok (.aload_n 0, 1) := by decide +kernel
theorem dX12_readFeels_263 : decode cX12_readFeels 263 = .ok (.getfield 174, 3) := by decide +kernel
theorem dX12_readFeels_266 : decode cX12_readFeels 266 = .ok (.ifCond .ne 29, 3) := by decide +kernel
theorem dX12_readFeels_269 : decode cX12_readFeels 269 = .ok (.aload_n 0, 1) := by decide +kernel
theorem dX12_readFeels_270 : decode cX12_readFeels 270 = .ok (.bipush 59, 2) := by decide +kernel
theorem dX12_readFeels_272 : decode cX12_readFeels 272 = .ok (.invokevirtual 220, 3) := by decide +kernel
theorem dX12_readFeels_275 : decode cX12_readFeels 275 = .ok (.ifCond .eq 20, 3) := by decide +kernel
theorem dX12_readFeels_278 : decode cX12_readFeels 278 = .ok (.iload_n 3, 1) := by decide +kernel
theorem dX12_readFeels_279 : decode cX12_readFeels 279 = .ok (.iload_n 2, 1) := by decide +kernel
theorem dX12_readFeels_280 : decode cX12_readFeels 280 = .ok (.iload_n 2, 1) := by decide +kernel
theorem dX12_readFeels_281 : decode cX12_readFeels 281 = .ok (.imul, 1) := by decide +kernel
theorem dX12_readFeels_282 : decode cX12_readFeels 282 = .ok (.if_icmp .ge 13, 3) := by decide +kernel
theorem dX12_readFeels_285 : decode cX12_readFeels 285 = .ok (.aload_n 0, 1) := by decide +kernel
theorem dX12_readFeels_286 : decode cX12_readFeels 286 = .ok (.bipush 8, 2) := by decide +kernel
theorem dX12_readFeels_288 : decode cX12_readFeels 288 = .ok (.aload_n 0, 1) := by decide +kernel
theorem dX12_readFeels_289 : decode cX12_readFeels 289 = .ok (.getfield 127, 3) := by decide +kernel
theorem dX12_readFeels_292 : decode cX12_readFeels 292 = .ok (.invokevirtual 180, 3) := by decide +kernel
theorem dX12_readFeels_295 : decode cX12_readFeels 295 = .ok (.return_, 1) := by decide +kernel
theorem dX12_readKey_0 : decode cX12_readKey 0 = .ok (.aload_n 0, 1) := by decide +kernel
theorem dX12_readKey_1 : decode cX12_readKey 1 = .ok (.iconst 1, 1) := by decide +kernel
theorem dX12_readKey_2 : decode cX12_readKey 2 = .ok (.bipush 10, 2) := by decide +kernel
theorem dX12_readKey_4 : decode cX12_readKey 4 = .ok (.iconst 3, 1) := by decide +kernel
theorem dX12_readKey_5 : decode cX12_readKey 5 = .ok (.invokevirtual 207, 3) := by decide +kernel
theorem dX12_readKey_8 : decode cX12_readKey 8 = .ok (.istore_n 1, 1) := by decide +kernel
theorem dX12_readKey_9 : decode cX12_readKey 9 = .ok (.iconst 0, 1) := by decide +kernel
theorem dX12_readKey_10 : decode cX12_readKey 10 = .ok (.istore_n 2, 1) := by decide +kernel
theorem dX12_readKey_11 : decode cX12_readKey 11 = .ok (.aload_n 0, 1) := by decide +kernel
theorem dX12_readKey_12 : decode cX12_readKey 12 = .ok (.getfield 174, 3) := by decide +kernel
theorem dX12_readKey_15 : decode cX12_readKey 15 = .ok (.ifCond .ne 114, 3) := by decide +kernel
theorem dX12_readKey_18 : decode cX12_readKey 18 = .ok (.aload_n 0, 1) := by decide +kernel
theorem dX12_readKey_19 : decode cX12_readKey 19 = .ok (.getfield 133, 3) := by decide +kernel
theorem dX12_readKey_22 : decode cX12_readKey 22 = .ok (.iconst 2, 1) := by decide +kernel
theorem dX12_readKey_23 : decode cX12_readKey 23 = .ok (.if_icmp .ne 106, 3) := by decide +kernel
theorem dX12_readKey_26 : decode cX12_readKey 26 = .ok (.iload_n 2, 1) := by decide +kernel
theorem dX12_readKey_27 : decode cX12_readKey 27 = .ok (.aload_n 0, 1) := by decide +kernel
theorem dX12_readKey_28 : decode cX12_readKey 28 = .ok (.getfield 35, 3) := by decide +kernel
theorem dX12_readKey_31 : decode cX12_readKey 31 = .ok (.sipush 1460, 3) := by decide +kernel
theorem dX12_readKey_34 : decode cX12_readKey 34 = .ok (.iaload, 1) := by decide +kernel
theorem dX12_readKey_35 : decode cX12_readKey 35 = .ok (.if_icmp .ge 29, 3) := by decide +kernel
theorem dX12_readKey_38 : decode cX12_readKey 38 = .ok (.aload_n 0, 1) := by decide +kernel
theorem dX12_readKey_39 : decode cX12_readKey 39 = .ok (.getfield 152, 3) := by decide +kernel
theorem dX12_readKey_42 : decode cX12_readKey 42 = .ok (.aload_n 0, 1) := by decide +kernel
theorem dX12_readKey_43 : decode cX12_readKey 43 = .ok (.getfield 35, 3) := by decide +kernel
theorem dX12_readKey_46 : decode cX12_readKey 46 = .ok (.sipush 1471, 3) := by decide +kernel
theorem dX12_readKey_49 : decode cX12_readKey 49 = .ok (.iload_n 2, 1) := by decide +kernel
theorem dX12_readKey_50 : decode cX12_readKey 50 = .ok (.iadd, 1) := by decide +kernel
theorem dX12_readKey_51 : decode cX12_readKey 51 = .ok (.iaload, 1) := by decide +kernel
theorem dX12_readKey_52 : decode cX12_readKey 52 = .ok (.if_icmp .lt 12, 3) := by decide +kernel
theorem dX12_readKey_55 : decode cX12_readKey 55 = .ok (.aload_n 0, 1) := by decide +kernel
theorem dX12_readKey_56 : decode cX12_readKey 56 = .ok (.iconst 4, 1) := by decide +kernel
theorem dX12_readKey_57 : decode cX12_readKey 57 = .ok (.aload_n 0, 1) := by decide +kernel
theorem dX12_readKey_58 : decode cX12_readKey 58 = .ok (.getfield 127, 3) := by decide +kernel
theorem dX12_readKey_61 : decode cX12_readKey 61 = .ok (.invokevirtual 180, 3) := by decide +kernel
theorem dX12_readKey_64 : decode cX12_readKey 64 = .ok (.aload_n 0, 1) := by decide +kernel
theorem dX12_readKey_65 : decode cX12_readKey 65 = .ok (.getfield 174, 3) := by decide +kernel
theorem dX12_readKey_68 : decode cX12_readKey 68 = .ok (.ifCond .ne 25, 3) := by decide +kernel
theorem dX12_readKey_71 : decode cX12_readKey 71 = .ok (.iload_n 2, 1) := by decide +kernel
theorem dX12_readKey_72 : decode cX12_readKey 72 = .ok (.aload_n 0, 1) := by decide +kernel
theorem dX12_readKey_73 : decode cX12_readKey 73 = .ok (.getfield 35, 3) := by decide +kernel
theorem dX12_readKey_76 : decode cX12_readKey 76 = .ok (.sipush 1460, 3) := by decide +kernel
theorem dX12_readKey_79 : decode cX12_readKey 79 = .ok (.iaload, 1) := by decide +kernel
theorem dX12_readKey_80 : decode cX12_readKey 80 = .ok (.if_icmp .ne 13, 3) := by decide +kernel
theorem dX12_readKey_83 : decode cX12_readKey 83 = .ok (.aload_n 0, 1) := by decide +kernel
theorem dX12_readKey_84 : decode cX12_readKey 84 = .ok (.bipush 8, 2) := by decide +kernel
theorem dX12_readKey_86 : decode cX12_readKey 86 = .ok (.aload_n 0, 1) := by decide +kernel
theorem dX12_readKey_87 : decode cX12_readKey 87 = .ok (.getfield 127, 3) := by decide +kernel
theorem dX12_readKey_90 : decode cX12_readKey 90 = .ok (.invokevirtual 180, 3) := by decide +kernel
theorem dX12_readKey_93 : decode cX12_readKey 93 = .ok (.aload_n 0, 1) := by decide +kernel
theorem dX12_readKey_94 : decode cX12_readKey 94 = .ok (.getfield 174, 3) := by decide +kernel
theorem dX12_readKey_97 : decode cX12_readKey 97 = .ok (.ifCond .le 4, 3) := by decide +kernel
theorem dX12_readKey_100 : decode cX12_readKey 100 = .ok (.return_, 1) := by decide +kernel
theorem dX12_readKey_101 : decode cX12_readKey 101 = .ok (.aload_n 0, 1) := by decide +kernel
theorem dX12_readKey_102 : decode cX12_readKey 102 = .ok (.getfield 35, 3) := by decide +kernel
theorem dX12_readKey_105 : decode cX12_readKey 105 = .ok (.sipush 1525, 3) := by decide +kernel
theorem dX12_readKey_108 : decode cX12_readKey 108 = .ok (.iconst 3, 1) := by decide +kernel
theorem dX12_readKey_109 : decode cX12_readKey 109 = .ok (.iload_n 1, 1) := by decide +kernel
theorem dX12_readKey_110 : decode cX12_readKey 110 = .ok (.imul, 1) := by decide +kernel
theorem dX12_readKey_111 : decode cX12_readKey 111 = .ok (.iadd, 1) := by decide +kernel
theorem dX12_readKey_112 : decode cX12_readKey 112 = .ok (.iload_n 2, 1) := by decide +kernel
theorem dX12_readKey_113 : decode cX12_readKey 113 = .ok (.iadd, 1) := by decide +kernel
theorem dX12_readKey_114 : decode cX12_readKey 114 = .ok (.aload_n 0, 1) := by decide +kernel
theorem dX12_readKey_115 : decode cX12_readKey 115 = .ok (.getfield 152, 3) := by decide +kernel
theorem dX12_readKey_118 : decode cX12_readKey 118 = .ok (.iastore, 1) := by decide +kernel
theorem dX12_readKey_119 : decode cX12_readKey 119 = .ok (.iinc 2 1, 3) := by decide +kernel
theorem dX12_readKey_122 : decode cX12_readKey 122 = .ok (.aload_n 0, 1) := by decide +kernel
theorem dX12_readKey_123 : decode cX12_readKey 123 = .ok (.invokevirtual 184, 3) := by decide +kernel
theorem dX12_readKey_126 : decode cX12_readKey 126 = .ok (.goto (-115), 3) := by decide +kernel
theorem dX12_readKey_129 : decode cX12_readKey 129 = .ok (.aload_n 0, 1) := by decide +kernel
theorem dX12_readKey_130 : decode cX12_readKey 130 = .ok (.getfield 174, 3) := by decide +kernel
theorem dX12_readKey_133 : decode cX12_readKey 133 = .ok (.ifCond .ne 34, 3) := by decide +kernel
theorem dX12_readKey_136 : decode cX12_readKey 136 = .ok (.aload_n 0, 1) := by decide +kernel
theorem dX12_readKey_137 : decode cX12_readKey 137 = .ok (.bipush 59, 2) := by decide +kernel
theorem dX12_readKey_139 : decode cX12_readKey 139 = .ok (.invokevirtual 220, 3) := by decide +kernel
theorem dX12_readKey_142 : decode cX12_readKey 142 = .ok (.ifCond .eq 25, 3) := by decide +kernel
theorem dX12_readKey_145 : decode cX12_readKey 145 = .ok (.iload_n 2, 1) := by decide +kernel
theorem dX12_readKey_146 : decode cX12_readKey 146 = .ok (.aload_n 0, 1) := by decide +kernel
theorem dX12_readKey_147 : decode cX12_readKey 147 = .ok (.getfield 35, 3) := by decide +kernel
theorem dX12_readKey_150 : decode cX12_readKey 150 = .ok (.sipush 1460, 3) := by decide +kernel
theorem dX12_readKey_153 : decode cX12_readKey 153 = .ok (.iaload, 1) := by decide +kernel
theorem dX12_readKey_154 : decode cX12_readKey 154 = .ok (.if_icmp .ge 13, 3) := by decide +kernel
theorem dX12_readKey_157 : decode cX12_readKey 157 = .ok (.aload_n 0, 1) := by decide +kernel
theorem dX12_readKey_158 : decode cX12_readKey 158 = .ok (.bipush 8, 2) := by decide +kernel
theorem dX12_readKey_160 : decode cX12_readKey 160 = .ok (.aload_n 0, 1) := by decide +kernel
theorem dX12_readKey_161 : decode cX12_readKey 161 = .ok (.getfield 127, 3) := by decide +kernel
theorem dX12_readKey_164 : decode cX12_readKey 164 = .ok (.invokevirtual 180, 3) := by decide +kernel
theorem dX12_readKey_167 : decode cX12_readKey 167 = .ok (.aload_n 0, 1) := by decide +kernel
theorem dX12_readKey_168 : decode cX12_readKey 168 = .ok (.getfield 174, 3) := by decide +kernel
theorem dX12_readKey_171 : decode cX12_readKey 171 = .ok (.ifCond .le 4, 3) := by decide +kernel
theorem dX12_readKey_174 : decode cX12_readKey 174 = .ok (.return_, 1) := by decide +kernel
theorem dX12_readKey_175 : decode cX12_readKey 175 = .ok (.aload_n 0, 1) := by decide +kernel
theorem dX12_readKey_176 : decode cX12_readKey 176 = .ok (.getfield 72, 3) := by decide +kernel
theorem dX12_readKey_179 : decode cX12_readKey 179 = .ok (.iload_n 1, 1) := by decide +kernel
theorem dX12_readKey_180 : decode cX12_readKey 180 = .ok (.iconst 0, 1) := by decide +kernel
theorem dX12_readKey_181 : decode cX12_readKey 181 = .ok (.bastore, 1) := by decide +kernel
theorem dX12_readKey_182 : decode cX12_readKey 182 = .ok (.aload_n 0, 1) := by decide +kernel
theorem dX12_readKey_183 : decode cX12_readKey 183 = .ok (.getfield 35, 3) := by decide +kernel
theorem dX12_readKey_186 : decode cX12_readKey 186 = .ok (.sipush 1610, 3) := by decide +kernel
theorem dX12_readKey_189 : decode cX12_readKey 189 = .ok (.iload_n 1, 1) := by decide +kernel
theorem dX12_readKey_190 : decode cX12_readKey 190 = .ok (.iadd, 1) := by decide +kernel
theorem dX12_readKey_191 : decode cX12_readKey 191 = .ok (.iconst 0, 1) := by decide +kernel
theorem dX12_readKey_192 : decode cX12_readKey 192 = .ok (.iastore, 1) := by decide +kernel
theorem dX12_readKey_193 : decode cX12_readKey 193 = .ok (.aload_n 0, 1) := by decide +kernel
theorem dX12_readKey_194 : decode cX12_readKey 194 = .ok (.getfield 35, 3) := by decide +kernel
theorem dX12_readKey_197 : decode cX12_readKey 197 = .ok (.sipush 1461, 3) := by decide +kernel
theorem dX12_readKey_200 : decode cX12_readKey 200 = .ok (.dup2, 1) := by decide +kernel
theorem dX12_readKey_201 : decode cX12_readKey 201 = .ok (.iaload, 1) := by decide +kernel
theorem dX12_readKey_202 : decode cX12_readKey 202 = .ok (.iconst 1, 1) := by decide +kernel
theorem dX12_readKey_203 : decode cX12_readKey 203 = .ok (.iadd, 1) := by decide +kernel
theorem dX12_readKey_204 : decode cX12_readKey 204 = .ok (.iastore, 1) := by decide +kernel
theorem dX12_readKey_205 : decode cX12_readKey 205 = .ok (.return_, 1) := by decide +kernel
theorem dX12_readNew_0 : decode cX12_readNew 0 = .ok (.aload_n 0, 1) := by decide +kernel
theorem dX12_readNew_1 : decode cX12_readNew 1 = .ok (.getfield 35, 3) := by decide +kernel
theorem dX12_readNew_4 : decode cX12_readNew 4 = .ok (.sipush 1460, 3) := by decide +kernel
theorem dX12_readNew_7 : decode cX12_readNew 7 = .ok (.iload_n 1, 1) := by decide +kernel
theorem dX12_readNew_8 : decode cX12_readNew 8 = .ok (.iadd, 1) := by decide +kernel
theorem dX12_readNew_9 : decode cX12_readNew 9 = .ok (.iaload, 1) := by decide +kernel
theorem dX12_readNew_10 : decode cX12_readNew 10 = .ok (.istore 4, 2) := by decide +kernel
theorem dX12_readNew_12 : decode cX12_readNew 12 = .ok (.aload_n 0, 1) := by decide +kernel
theorem dX12_readNew_13 : decode cX12_readNew 13 = .ok (.getfield 174, 3) := by decide +kernel
theorem dX12_readNew_16 : decode cX12_readNew 16 = .ok (.ifCond .ne 19, 3) := by decide +kernel
theorem dX12_readNew_19 : decode cX12_readNew 19 = .ok (.iload 4, 2) := by decide +kernel
theorem dX12_readNew_21 : decode cX12_readNew 21 = .ok (.iload_n 2, 1) := by decide +kernel
theorem dX12_readNew_22 : decode cX12_readNew 22 = .ok (.if_icmp .ne 13, 3) := by decide +kernel
theorem dX12_readNew_25 : decode cX12_readNew 25 = .ok (.aload_n 0, 1) := by decide +kernel
theorem dX12_readNew_26 : decode cX12_readNew 26 = .ok (.bipush 6, 2) := by decide +kernel
theorem dX12_readNew_28 : decode cX12_readNew 28 = .ok (.aload_n 0, 1) := by decide +kernel
theorem dX12_readNew_29 : decode cX12_readNew 29 = .ok (.getfield 127, 3) := by decide +kernel
theorem dX12_readNew_32 : decode cX12_readNew 32 = .ok (.invokevirtual 180, 3) := by decide +kernel
theorem dX12_readNew_35 : decode cX12_readNew 35 = .ok (.aload_n 0, 1) := by decide +kernel
theorem dX12_readNew_36 : decode cX12_readNew 36 = .ok (.getfield 174, 3) := by decide +kernel
theorem dX12_readNew_39 : decode cX12_readNew 39 = .ok (.ifCond .le 5, 3) := by decide +kernel
theorem dX12_readNew_42 : decode cX12_readNew 42 = .ok (.iconst 0, 1) := by decide +kernel
theorem dX12_readNew_43 : decode cX12_readNew 43 = .ok (.ireturn, 1) := by decide +kernel
theorem dX12_readNew_44 : decode cX12_readNew 44 = .ok (.aload_n 0, 1) := by decide +kernel
theorem dX12_readNew_45 : decode cX12_readNew 45 = .ok (.invokevirtual 184, 3) := by decide +kernel
theorem dX12_readNew_48 : decode cX12_readNew 48 = .ok (.aload_n 0, 1) := by decide +kernel
theorem dX12_readNew_49 : decode cX12_readNew 49 = .ok (.invokevirtual 200, 3) := by decide +kernel
theorem dX12_readNew_52 : decode cX12_readNew 52 = .ok (.ifCond .ne 7, 3) := by decide +kernel
theorem dX12_readNew_55 : decode cX12_readNew 55 = .ok (.aload_n 0, 1) := by decide +kernel
theorem dX12_readNew_56 : decode cX12_readNew 56 = .ok (.invokevirtual 187, 3) := by decide +kernel
theorem dX12_readNew_59 : decode cX12_readNew 59 = .ok (.aload_n 0, 1) := by decide +kernel
theorem dX12_readNew_60 : decode cX12_readNew 60 = .ok (.getfield 174, 3) := by decide +kernel
theorem dX12_readNew_63 : decode cX12_readNew 63 = .ok (.ifCond .ne 19, 3) := by decide +kernel
theorem dX12_readNew_66 : decode cX12_readNew 66 = .ok (.aload_n 0, 1) := by decide +kernel
theorem dX12_readNew_67 : decode cX12_readNew 67 = .ok (.invokevirtual 204, 3) := by decide +kernel
theorem dX12_readNew_70 : decode cX12_readNew 70 = .ok (.ifCond .eq 12, 3) := by decide +kernel
theorem dX12_readNew_73 : decode cX12_readNew 73 = .ok (.aload_n 0, 1) := by decide +kernel
theorem dX12_readNew_74 : decode cX12_readNew 74 = .ok (.iconst 3, 1) := by decide +kernel
theorem dX12_readNew_75 : decode cX12_readNew 75 = .ok (.aload_n 0, 1) := by decide +kernel
theorem dX12_readNew_76 : decode cX12_readNew 76 = .ok (.getfield 127, 3) := by decide +kernel
theorem dX12_readNew_79 : decode cX12_readNew 79 = .ok (.invokevirtual 180, 3) := by decide +kernel
theorem dX12_readNew_82 : decode cX12_readNew 82 = .ok (.aload_n 0, 1) := by decide +kernel
theorem dX12_readNew_83 : decode cX12_readNew 83 = .ok (.getfield 174, 3) := by decide +kernel
theorem dX12_readNew_86 : decode cX12_readNew 86 = .ok (.ifCond .le 5, 3) := by decide +kernel
theorem dX12_readNew_89 : decode cX12_readNew 89 = .ok (.iconst 0, 1) := by decide +kernel
theorem dX12_readNew_90 : decode cX12_readNew 90 = .ok (.ireturn, 1) := by decide +kernel
theorem dX12_readNew_91 : decode cX12_readNew 91 = .ok (.aload_n 0, 1) := by decide +kernel
theorem dX12_readNew_92 : decode cX12_readNew 92 = .ok (.getfield 38, 3) := by decide +kernel
theorem dX12_readNew_95 : decode cX12_readNew 95 = .ok (.bipush 84, 2) := by decide +kernel
theorem dX12_readNew_97 : decode cX12_readNew 97 = .ok (.iload_n 3, 1) := by decide +kernel
theorem dX12_readNew_98 : decode cX12_readNew 98 = .ok (.iadd, 1) := by decide +kernel
theorem dX12_readNew_99 : decode cX12_readNew 99 = .ok (.iload 4, 2) := by decide +kernel
theorem dX12_readNew_101 : decode cX12_readNew 101 = .ok (.iadd, 1) := by decide +kernel
theorem dX12_readNew_102 : decode cX12_readNew 102 = .ok (.aload_n 0, 1) := by decide +kernel
theorem dX12_readNew_103 : decode cX12_readNew 103 = .ok (.getfield 139, 3) := by decide +kernel
theorem dX12_readNew_106 : decode cX12_readNew 106 = .ok (.lastore, 1) := by decide +kernel
theorem dX12_readNew_107 : decode cX12_readNew 107 = .ok (.aload_n 0, 1) := by decide +kernel
theorem dX12_readNew_108 : decode cX12_readNew 108 = .ok (.invokevirtual 184, 3) := by decide +kernel
theorem dX12_readNew_111 : decode cX12_readNew 111 = .ok (.iload 4, 2) := by decide +kernel
theorem dX12_readNew_113 : decode cX12_readNew 113 = .ok (.ireturn, 1) := by decide +kernel
theorem dX12_readOld_0 : decode cX12_readOld 0 = .ok (.aload_n 0, 1) := by decide +kernel
theorem dX12_readOld_1 : decode cX12_readOld 1 = .ok (.getfield 174, 3) := by decide +kernel
theorem dX12_readOld_4 : decode cX12_readOld 4 = .ok (.ifCond .ne 14, 3) := by decide +kernel
theorem dX12_readOld_7 : decode cX12_readOld 7 = .ok (.aload_n 0, 1) := by decide +kernel
theorem dX12_readOld_8 : decode cX12_readOld 8 = .ok (.invokevirtual 200, 3) := by decide +kernel
theorem dX12_readOld_11 : decode cX12_readOld 11 = .ok (.ifCond .ne 7, 3) := by decide +kernel
theorem dX12_readOld_14 : decode cX12_readOld 14 = .ok (.aload_n 0, 1) := by decide +kernel
theorem dX12_readOld_15 : decode cX12_readOld 15 = .ok (.invokevirtual 187, 3) := by decide +kernel
theorem dX12_readOld_18 : decode cX12_readOld 18 = .ok (.aload_n 0, 1) := by decide +kernel
theorem dX12_readOld_19 : decode cX12_readOld 19 = .ok (.getfield 174, 3) := by decide +kernel
theorem dX12_readOld_22 : decode cX12_readOld 22 = .ok (.ifCond .ne 22, 3) := by decide +kernel
theorem dX12_readOld_25 : decode cX12_readOld 25 = .ok (.aload_n 0, 1) := by decide +kernel
theorem dX12_readOld_26 : decode cX12_readOld 26 = .ok (.iconst 4, 1) := by decide +kernel
theorem dX12_readOld_27 : decode cX12_readOld 27 = .ok (.iload_n 2, 1) := by decide +kernel
theorem dX12_readOld_28 : decode cX12_readOld 28 = .ok (.aload_n 0, 1) := by decide +kernel
theorem dX12_readOld_29 : decode cX12_readOld 29 = .ok (.getfield 35, 3) := by decide +kernel
theorem dX12_readOld_32 : decode cX12_readOld 32 = .ok (.sipush 1460, 3) := by decide +kernel
theorem dX12_readOld_35 : decode cX12_readOld 35 = .ok (.iload_n 1, 1) := by decide +kernel
theorem dX12_readOld_36 : decode cX12_readOld 36 = .ok (.iadd, 1) := by decide +kernel
theorem dX12_readOld_37 : decode cX12_readOld 37 = .ok (.iaload, 1) := by decide +kernel
theorem dX12_readOld_38 : decode cX12_readOld 38 = .ok (.invokevirtual 196, 3) := by decide +kernel
theorem dX12_readOld_41 : decode cX12_readOld 41 = .ok (.goto 4, 3) := by decide +kernel
theorem dX12_readOld_44 : decode cX12_readOld 44 = .ok (.iconst 0, 1) := by decide +kernel
theorem dX12_readOld_45 : decode cX12_readOld 45 = .ok (.istore_n 3, 1) := by decide +kernel
theorem dX12_readOld_46 : decode cX12_readOld 46 = .ok (.aload_n 0, 1) := by decide +kernel
theorem dX12_readOld_47 : decode cX12_readOld 47 = .ok (.getfield 174, 3) := by decide +kernel
theorem dX12_readOld_50 : decode cX12_readOld 50 = .ok (.ifCond .ne 16, 3) := by decide +kernel
theorem dX12_readOld_53 : decode cX12_readOld 53 = .ok (.iload_n 3, 1) := by decide +kernel
theorem dX12_readOld_54 : decode cX12_readOld 54 = .ok (.ifCond .ge 12, 3) := by decide +kernel
theorem dX12_readOld_57 : decode cX12_readOld 57 = .ok (.aload_n 0, 1) := by decide +kernel
theorem dX12_readOld_58 : decode cX12_readOld 58 = .ok (.iconst 3, 1) := by decide +kernel
theorem dX12_readOld_59 : decode cX12_readOld 59 = .ok (.aload_n 0, 1) := by decide +kernel
theorem dX12_readOld_60 : decode cX12_readOld 60 = .ok (.getfield 127, 3) := by decide +kernel
theorem dX12_readOld_63 : decode cX12_readOld 63 = .ok (.invokevirtual 180, 3) := by decide +kernel
theorem dX12_readOld_66 : decode cX12_readOld 66 = .ok (.iload_n 3, 1) := by decide +kernel
theorem dX12_readOld_67 : decode cX12_readOld 67 = .ok (.ireturn, 1) := by decide +kernel
theorem dX12_readRing_0 : decode cX12_readRing 0 = .ok (.aload_n 0, 1) := by decide +kernel
theorem dX12_readRing_1 : decode cX12_readRing 1 = .ok (.iconst 2, 1) := by decide +kernel
theorem dX12_readRing_2 : decode cX12_readRing 2 = .ok (.iconst 3, 1) := by decide +kernel
theorem dX12_readRing_3 : decode cX12_readRing 3 = .ok (.bipush 13, 2) := by decide +kernel
theorem dX12_readRing_5 : decode cX12_readRing 5 = .ok (.invokevirtual 207, 3) := by decide +kernel
theorem dX12_readRing_8 : decode cX12_readRing 8 = .ok (.istore_n 1, 1) := by decide +kernel
theorem dX12_readRing_9 : decode cX12_readRing 9 = .ok (.iconst 0, 1) := by decide +kernel
theorem dX12_readRing_10 : decode cX12_readRing 10 = .ok (.istore_n 2, 1) := by decide +kernel
theorem dX12_readRing_11 : decode cX12_readRing 11 = .ok (.aload_n 0, 1) := by decide +kernel
theorem dX12_readRing_12 : decode cX12_readRing 12 = .ok (.getfield 174, 3) := by decide +kernel
theorem dX12_readRing_15 : decode cX12_readRing 15 = .ok (.ifCond .ne 84, 3) := by decide +kernel
theorem dX12_readRing_18 : decode cX12_readRing 18 = .ok (.aload_n 0, 1) := by decide +kernel
theorem dX12_readRing_19 : decode cX12_readRing 19 = .ok (.getfield 133, 3) := by decide +kernel
theorem dX12_readRing_22 : decode cX12_readRing 22 = .ok (.iconst 1, 1) := by decide +kernel
theorem dX12_readRing_23 : decode cX12_readRing 23 = .ok (.if_icmp .ne 76, 3) := by decide +kernel
theorem dX12_readRing_26 : decode cX12_readRing 26 = .ok (.aload_n 0, 1) := by decide +kernel
theorem dX12_readRing_27 : decode cX12_readRing 27 = .ok (.iconst 1, 1) := by decide +kernel
theorem dX12_readRing_28 : decode cX12_readRing 28 = .ok (.iconst 3, 1) := by decide +kernel
theorem dX12_readRing_29 : decode cX12_readRing 29 = .ok (.invokevirtual 217, 3) := by decide +kernel
theorem dX12_readRing_32 : decode cX12_readRing 32 = .ok (.istore_n 3, 1) := by decide +kernel
theorem dX12_readRing_33 : decode cX12_readRing 33 = .ok (.aload_n 0, 1) := by decide +kernel
theorem dX12_readRing_34 : decode cX12_readRing 34 = .ok (.getfield 174, 3) := by decide +kernel
theorem dX12_readRing_37 : decode cX12_readRing 37 = .ok (.ifCond .ne 21, 3) := by decide +kernel
theorem dX12_readRing_40 : decode cX12_readRing 40 = .ok (.aload_n 0, 1) := by decide +kernel
theorem dX12_readRing_41 : decode cX12_readRing 41 = .ok (.getfield 72, 3) := by decide +kernel
theorem dX12_readRing_44 : decode cX12_readRing 44 = .ok (.iload_n 3, 1) := by decide +kernel
theorem dX12_readRing_45 : decode cX12_readRing 45 = .ok (.baload, 1) := by decide +kernel
theorem dX12_readRing_46 : decode cX12_readRing 46 = .ok (.ifCond .eq 12, 3) := by decide +kernel
theorem dX12_readRing_49 : decode cX12_readRing 49 = .ok (.aload_n 0, 1) := by decide +kernel
theorem dX12_readRing_50 : decode cX12_readRing 50 = .ok (.iconst 5, 1) := by decide +kernel
theorem dX12_readRing_51 : decode cX12_readRing 51 = .ok (.aload_n 0, 1) := by decide +kernel
theorem dX12_readRing_52 : decode cX12_readRing 52 = .ok (.getfield 127, 3) := by decide +kernel
theorem dX12_readRing_55 : decode cX12_readRing 55 = .ok (.invokevirtual 180, 3) := by decide +kernel
theorem dX12_readRing_58 : decode cX12_readRing 58 = .ok (.aload_n 0, 1) := by decide +kernel
theorem dX12_readRing_59 : decode cX12_readRing 59 = .ok (.getfield 174, 3) := by decide +kernel
theorem dX12_readRing_62 : decode cX12_readRing 62 = .ok (.ifCond .le 4, 3) := by decide +kernel
theorem dX12_readRing_65 : decode cX12_readRing 65 = .ok (.return_, 1) := by decide +kernel
theorem dX12_readRing_66 : decode cX12_readRing 66 = .ok (.aload_n 0, 1) := by decide +kernel
theorem dX12_readRing_67 : decode cX12_readRing 67 = .ok (.getfield 72, 3) := by decide +kernel
theorem dX12_readRing_70 : decode cX12_readRing 70 = .ok (.iload_n 3, 1) := by decide +kernel
theorem dX12_readRing_71 : decode cX12_readRing 71 = .ok (.iconst 1, 1) := by decide +kernel
theorem dX12_readRing_72 : decode cX12_readRing 72 = .ok (.bastore, 1) := by decide +kernel
theorem dX12_readRing_73 : decode cX12_readRing 73 = .ok (.aload_n 0, 1) := by decide +kernel
theorem dX12_readRing_74 : decode cX12_readRing 74 = .ok (.getfield 35, 3) := by decide +kernel
theorem dX12_readRing_77 : decode cX12_readRing 77 = .ok (.sipush 1558, 3) := by decide +kernel
theorem dX12_readRing_80 : decode cX12_readRing 80 = .ok (.bipush 10, 2) := by decide +kernel
theorem dX12_readRing_82 : decode cX12_readRing 82 = .ok (.iload_n 1, 1) := by decide +kernel
theorem dX12_readRing_83 : decode cX12_readRing 83 = .ok (.imul, 1) := by decide +kernel
theorem dX12_readRing_84 : decode cX12_readRing 84 = .ok (.iadd, 1) := by decide +kernel
theorem dX12_readRing_85 : decode cX12_readRing 85 = .ok (.iload_n 2, 1) := by decide +kernel
theorem dX12_readRing_86 : decode cX12_readRing 86 = .ok (.iadd, 1) := by decide +kernel
theorem dX12_readRing_87 : decode cX12_readRing 87 = .ok (.iload_n 3, 1) := by decide +kernel
theorem dX12_readRing_88 : decode cX12_readRing 88 = .ok (.iastore, 1) := by decide +kernel
theorem dX12_readRing_89 : decode cX12_readRing 89 = .ok (.iinc 2 1, 3) := by decide +kernel
theorem dX12_readRing_92 : decode cX12_readRing 92 = .ok (.aload_n 0, 1) := by decide +kernel
theorem dX12_readRing_93 : decode cX12_readRing 93 = .ok (.invokevirtual 184, 3) := by decide +kernel
theorem dX12_readRing_96 : decode cX12_readRing 96 = .ok (.goto (-85), 3) := by decide +kernel
theorem dX12_readRing_99 : decode cX12_readRing 99 = .ok (.aload_n 0, 1) := by decide +kernel
theorem dX12_readRing_100 : decode cX12_readRing 100 = .ok (.getfield 174, 3) := by decide +kernel
theorem dX12_readRing_103 : decode cX12_readRing 103 = .ok (.ifCond .le 4, 3) := by decide +kernel
theorem dX12_readRing_106 : decode cX12_readRing 106 = .ok (.return_, 1) := by decide +kernel
theorem dX12_readRing_107 : decode cX12_readRing 107 = .ok (.aload_n 0, 1) := by decide +kernel
theorem dX12_readRing_108 : decode cX12_readRing 108 = .ok (.getfield 35, 3) := by decide +kernel
theorem dX12_readRing_111 : decode cX12_readRing 111 = .ok (.sipush 1555, 3) := by decide +kernel
theorem dX12_readRing_114 : decode cX12_readRing 114 = .ok (.iload_n 1, 1) := by decide +kernel
theorem dX12_readRing_115 : decode cX12_readRing 115 = .ok (.iadd, 1) := by decide +kernel
theorem dX12_readRing_116 : decode cX12_readRing 116 = .ok (.iload_n 2, 1) := by decide +kernel
theorem dX12_readRing_117 : decode cX12_readRing 117 = .ok (.iastore, 1) := by decide +kernel
theorem dX12_readRing_118 : decode cX12_readRing 118 = .ok (.aload_n 0, 1) := by decide +kernel
theorem dX12_readRing_119 : decode cX12_readRing 119 = .ok (.getfield 35, 3) := by decide +kernel
theorem dX12_readRing_122 : decode cX12_readRing 122 = .ok (.sipush 1462, 3) := by decide +kernel
theorem dX12_readRing_125 : decode cX12_readRing 125 = .ok (.dup2, 1) := by decide +kernel
theorem dX12_readRing_126 : decode cX12_readRing 126 = .ok (.iaload, 1) := by decide +kernel
theorem dX12_readRing_127 : decode cX12_readRing 127 = .ok (.iconst 1, 1) := by decide +kernel
theorem dX12_readRing_128 : decode cX12_readRing 128 = .ok (.iadd, 1) := by decide +kernel
theorem dX12_readRing_129 : decode cX12_readRing 129 = .ok (.iastore, 1) := by decide +kernel
theorem dX12_readRing_130 : decode cX12_readRing 130 = .ok (.return_, 1) := by decide +kernel
theorem dX12_readRound_0 : decode cX12_readRound 0 = .ok (.aload_n 0, 1) := by decide +kernel
theorem dX12_readRound_1 : decode cX12_readRound 1 = .ok (.getfield 230, 3) := by decide +kernel
theorem dX12_readRound_4 : decode cX12_readRound 4 = .ok (.ifCond .eq 12, 3) := by decide +kernel
theorem dX12_readRound_7 : decode cX12_readRound 7 = .ok (.aload_n 0, 1) := by decide +kernel
theorem dX12_readRound_8 : decode cX12_readRound 8 = .ok (.iconst 5, 1) := by decide +kernel
theorem dX12_readRound_9 : decode cX12_readRound 9 = .ok (.aload_n 0, 1) := by decide +kernel
theorem dX12_readRound_10 : decode cX12_readRound 10 = .ok (.getfield 127, 3) := by decide +kernel
theorem dX12_readRound_13 : decode cX12_readRound 13 = .ok (.invokevirtual 180, 3) := by decide +kernel
theorem dX12_readRound_16 : decode cX12_readRound 16 = .ok (.aload_n 0, 1) := by decide +kernel
theorem dX12_readRound_17 : decode cX12_readRound 17 = .ok (.getfield 174, 3) := by decide +kernel
theorem dX12_readRound_20 : decode cX12_readRound 20 = .ok (.ifCond .le 4, 3) := by decide +kernel
theorem dX12_readRound_23 : decode cX12_readRound 23 = .ok (.return_, 1) := by decide +kernel
theorem dX12_readRound_24 : decode cX12_readRound 24 = .ok (.aload_n 0, 1) := by decide +kernel
theorem dX12_readRound_25 : decode cX12_readRound 25 = .ok (.iconst 1, 1) := by decide +kernel
theorem dX12_readRound_26 : decode cX12_readRound 26 = .ok (.putfield 230, 3) := by decide +kernel
theorem dX12_readRound_29 : decode cX12_readRound 29 = .ok (.aload_n 0, 1) := by decide +kernel
theorem dX12_readRound_30 : decode cX12_readRound 30 = .ok (.invokevirtual 184, 3) := by decide +kernel
theorem dX12_readRound_33 : decode cX12_readRound 33 = .ok (.iconst 1, 1) := by decide +kernel
theorem dX12_readRound_34 : decode cX12_readRound 34 = .ok (.istore_n 1, 1) := by decide +kernel
theorem dX12_readRound_35 : decode cX12_readRound 35 = .ok (.iload_n 1, 1) := by decide +kernel
theorem dX12_readRound_36 : decode cX12_readRound 36 = .ok (.ifCond .eq 107, 3) := by decide +kernel
theorem dX12_readRound_39 : decode cX12_readRound 39 = .ok (.aload_n 0, 1) := by decide +kernel
theorem dX12_readRound_40 : decode cX12_readRound 40 = .ok (.getfield 174, 3) := by decide +kernel
theorem dX12_readRound_43 : decode cX12_readRound 43 = .ok (.ifCond .ne 100, 3) := by decide +kernel
theorem dX12_readRound_46 : decode cX12_readRound 46 = .ok (.aload_n 0, 1) := by decide +kernel
theorem dX12_readRound_47 : decode cX12_readRound 47 = .ok (.iconst 3, 1) := by decide +kernel
theorem dX12_readRound_48 : decode cX12_readRound 48 = .ok (.bipush 16, 2) := by decide +kernel
theorem dX12_readRound_50 : decode cX12_readRound 50 = .ok (.invokevirtual 217, 3) := by decide +kernel
theorem dX12_readRound_53 : decode cX12_readRound 53 = .ok (.istore_n 2, 1) := by decide +kernel
theorem dX12_readRound_54 : decode cX12_readRound 54 = .ok (.aload_n 0, 1) := by decide +kernel
theorem dX12_readRound_55 : decode cX12_readRound 55 = .ok (.getfield 174, 3) := by decide +kernel
theorem dX12_readRound_58 : decode cX12_readRound 58 = .ok (.ifCond .ne 26, 3) := by decide +kernel
theorem dX12_readRound_61 : decode cX12_readRound 61 = .ok (.aload_n 0, 1) := by decide +kernel
theorem dX12_readRound_62 : decode cX12_readRound 62 = .ok (.getfield 35, 3) := by decide +kernel
theorem dX12_readRound_65 : decode cX12_readRound 65 = .ok (.sipush 1464, 3) := by decide +kernel
theorem dX12_readRound_68 : decode cX12_readRound 68 = .ok (.iaload, 1) := by decide +kernel
theorem dX12_readRound_69 : decode cX12_readRound 69 = .ok (.bipush 12, 2) := by decide +kernel
theorem dX12_readRound_71 : decode cX12_readRound 71 = .ok (.if_icmp .ne 13, 3) := by decide +kernel
theorem dX12_readRound_74 : decode cX12_readRound 74 = .ok (.aload_n 0, 1) := by decide +kernel
theorem dX12_readRound_75 : decode cX12_readRound 75 = .ok (.bipush 6, 2) := by decide +kernel
theorem dX12_readRound_77 : decode cX12_readRound 77 = .ok (.aload_n 0, 1) := by decide +kernel
theorem dX12_readRound_78 : decode cX12_readRound 78 = .ok (.getfield 127, 3) := by decide +kernel
theorem dX12_readRound_81 : decode cX12_readRound 81 = .ok (.invokevirtual 180, 3) := by decide +kernel
theorem dX12_readRound_84 : decode cX12_readRound 84 = .ok (.aload_n 0, 1) := by decide +kernel
theorem dX12_readRound_85 : decode cX12_readRound 85 = .ok (.getfield 174, 3) := by decide +kernel
theorem dX12_readRound_88 : decode cX12_readRound 88 = .ok (.ifCond .le 4, 3) := by decide +kernel
theorem dX12_readRound_91 : decode cX12_readRound 91 = .ok (.return_, 1) := by decide +kernel
theorem dX12_readRound_92 : decode cX12_readRound 92 = .ok (.aload_n 0, 1) := by decide +kernel
theorem dX12_readRound_93 : decode cX12_readRound 93 = .ok (.getfield 35, 3) := by decide +kernel
theorem dX12_readRound_96 : decode cX12_readRound 96 = .ok (.sipush 1598, 3) := by decide +kernel
theorem dX12_readRound_99 : decode cX12_readRound 99 = .ok (.aload_n 0, 1) := by decide +kernel
theorem dX12_readRound_100 : decode cX12_readRound 100 = .ok (.getfield 35, 3) := by decide +kernel
theorem dX12_readRound_103 : decode cX12_readRound 103 = .ok (.sipush 1464, 3) := by decide +kernel
theorem dX12_readRound_106 : decode cX12_readRound 106 = .ok (.iaload, 1) := by decide +kernel
theorem dX12_readRound_107 : decode cX12_readRound 107 = .ok (.iadd, 1) := by decide +kernel
theorem dX12_readRound_108 : decode cX12_readRound 108 = .ok (.iload_n 2, 1) := by decide +kernel
theorem dX12_readRound_109 : decode cX12_readRound 109 = .ok (.iastore, 1) := by decide +kernel
theorem dX12_readRound_110 : decode cX12_readRound 110 = .ok (.aload_n 0, 1) := by decide +kernel
theorem dX12_readRound_111 : decode cX12_readRound 111 = .ok (.getfield 35, 3) := by decide +kernel
theorem dX12_readRound_114 : decode cX12_readRound 114 = .ok (.sipush 1464, 3) := by decide +kernel
theorem dX12_readRound_117 : decode cX12_readRound 117 = .ok (.dup2, 1) := by decide +kernel
theorem dX12_readRound_118 : decode cX12_readRound 118 = .ok (.iaload, 1) := by decide +kernel
theorem dX12_readRound_119 : decode cX12_readRound 119 = .ok (.iconst 1, 1) := by decide +kernel
theorem dX12_readRound_120 : decode cX12_readRound 120 = .ok (.iadd, 1) := by decide +kernel
theorem dX12_readRound_121 : decode cX12_readRound 121 = .ok (.iastore, 1) := by decide +kernel
theorem dX12_readRound_122 : decode cX12_readRound 122 = .ok (.aload_n 0, 1) := by decide +kernel
theorem dX12_readRound_123 : decode cX12_readRound 123 = .ok (.invokevirtual 184, 3) := by decide +kernel
theorem dX12_readRound_126 : decode cX12_readRound 126 = .ok (.aload_n 0, 1) := by decide +kernel
theorem dX12_readRound_127 : decode cX12_readRound 127 = .ok (.getfield 133, 3) := by decide +kernel
theorem dX12_readRound_130 : decode cX12_readRound 130 = .ok (.iconst 1, 1) := by decide +kernel
theorem dX12_readRound_131 : decode cX12_readRound 131 = .ok (.if_icmp .ne 7, 3) := by decide +kernel
theorem dX12_readRound_134 : decode cX12_readRound 134 = .ok (.iconst 1, 1) := by decide +kernel
theorem dX12_readRound_135 : decode cX12_readRound 135 = .ok (.goto 4, 3) := by decide +kernel
theorem dX12_readRound_138 : decode cX12_readRound 138 = .ok (.iconst 0, 1) := by decide +kernel
theorem dX12_readRound_139 : decode cX12_readRound 139 = .ok (.istore_n 1, 1) := by decide +kernel
theorem dX12_readRound_140 : decode cX12_readRound 140 = .ok (.goto (-105), 3) := by decide +kernel
theorem dX12_readRound_143 : decode cX12_readRound 143 = .ok (.return_, 1) := by decide +kernel
theorem dX12_readSeconds_0 : decode cX12_readSeconds 0 = .ok (.aload_n 0, 1) := by decide +kernel
theorem dX12_readSeconds_1 : decode cX12_readSeconds 1 = .ok (.getfield 223, 3) := by decide +kernel
theorem dX12_readSeconds_4 : decode cX12_readSeconds 4 = .ok (.ifCond .eq 12, 3) := by decide +kernel
theorem dX12_readSeconds_7 : decode cX12_readSeconds 7 = .ok (.aload_n 0, 1) := by decide +kernel
theorem dX12_readSeconds_8 : decode cX12_readSeconds 8 = .ok (.iconst 5, 1) := by decide +kernel
theorem dX12_readSeconds_9 : decode cX12_readSeconds 9 = .ok (.aload_n 0, 1) := by decide +kernel
theorem dX12_readSeconds_10 : decode cX12_readSeconds 10 = .ok (.getfield 127, 3) := by decide +kernel
theorem dX12_readSeconds_13 : decode cX12_readSeconds 13 = .ok (.invokevirtual 180, 3) := by decide +kernel
theorem dX12_readSeconds_16 : decode cX12_readSeconds 16 = .ok (.aload_n 0, 1) := by decide +kernel
theorem dX12_readSeconds_17 : decode cX12_readSeconds 17 = .ok (.getfield 174, 3) := by decide +kernel
theorem dX12_readSeconds_20 : decode cX12_readSeconds 20 = .ok (.ifCond .le 4, 3) := by decide +kernel
theorem dX12_readSeconds_23 : decode cX12_readSeconds 23 = .ok (.return_, 1) := by decide +kernel
theorem dX12_readSeconds_24 : decode cX12_readSeconds 24 = .ok (.aload_n 0, 1) := by decide +kernel
theorem dX12_readSeconds_25 : decode cX12_readSeconds 25 = .ok (.iconst 1, 1) := by decide +kernel
theorem dX12_readSeconds_26 : decode cX12_readSeconds 26 = .ok (.putfield 223, 3) := by decide +kernel
theorem dX12_readSeconds_29 : decode cX12_readSeconds 29 = .ok (.aload_n 0, 1) := by decide +kernel
theorem dX12_readSeconds_30 : decode cX12_readSeconds 30 = .ok (.invokevirtual 184, 3) := by decide +kernel
theorem dX12_readSeconds_33 : decode cX12_readSeconds 33 = .ok (.iconst 0, 1) := by decide +kernel
theorem dX12_readSeconds_34 : decode cX12_readSeconds 34 = .ok (.istore_n 1, 1) := by decide +kernel
theorem dX12_readSeconds_35 : decode cX12_readSeconds 35 = .ok (.iload_n 1, 1) := by decide +kernel
theorem dX12_readSeconds_36 : decode cX12_readSeconds 36 = .ok (.iconst 4, 1) := by decide +kernel
theorem dX12_readSeconds_37 : decode cX12_readSeconds 37 = .ok (.if_icmp .ge 46, 3) := by decide +kernel
theorem dX12_readSeconds_40 : decode cX12_readSeconds 40 = .ok (.aload_n 0, 1) := by decide +kernel
theorem dX12_readSeconds_41 : decode cX12_readSeconds 41 = .ok (.aload_n 0, 1) := by decide +kernel
theorem dX12_readSeconds_42 : decode cX12_readSeconds 42 = .ok (.invokevirtual 170, 3) := by decide +kernel
theorem dX12_readSeconds_45 : decode cX12_readSeconds 45 = .ok (.bipush 11, 2) := by decide +kernel
theorem dX12_readSeconds_47 : decode cX12_readSeconds 47 = .ok (.iload_n 1, 1) := by decide +kernel
theorem dX12_readSeconds_48 : decode cX12_readSeconds 48 = .ok (.iadd, 1) := by decide +kernel
theorem dX12_readSeconds_49 : decode cX12_readSeconds 49 = .ok (.if_icmp .ne 7, 3) := by decide +kernel
theorem dX12_readSeconds_52 : decode cX12_readSeconds 52 = .ok (.iconst 1, 1) := by decide +kernel
theorem dX12_readSeconds_53 : decode cX12_readSeconds 53 = .ok (.goto 4, 3) := by decide +kernel
theorem dX12_readSeconds_56 : decode cX12_readSeconds 56 = .ok (.iconst 0, 1) := by decide +kernel
theorem dX12_readSeconds_57 : decode cX12_readSeconds 57 = .ok (.invokevirtual 210, 3) := by decide +kernel
theorem dX12_readSeconds_60 : decode cX12_readSeconds 60 = .ok (.aload_n 0, 1) := by decide +kernel
theorem dX12_readSeconds_61 : decode cX12_readSeconds 61 = .ok (.getfield 35, 3) := by decide +kernel
theorem dX12_readSeconds_64 : decode cX12_readSeconds 64 = .ok (.sipush 1465, 3) := by decide +kernel
theorem dX12_readSeconds_67 : decode cX12_readSeconds 67 = .ok (.iload_n 1, 1) := by decide +kernel
theorem dX12_readSeconds_68 : decode cX12_readSeconds 68 = .ok (.iadd, 1) := by decide +kernel
theorem dX12_readSeconds_69 : decode cX12_readSeconds 69 = .ok (.aload_n 0, 1) := by decide +kernel
theorem dX12_readSeconds_70 : decode cX12_readSeconds 70 = .ok (.iconst 1, 1) := by decide +kernel
theorem dX12_readSeconds_71 : decode cX12_readSeconds 71 = .ok (.bipush 99, 2) := by decide +kernel
theorem dX12_readSeconds_73 : decode cX12_readSeconds 73 = .ok (.invokevirtual 214, 3) := by decide +kernel
theorem dX12_readSeconds_76 : decode cX12_readSeconds 76 = .ok (.iastore, 1) := by decide +kernel
theorem dX12_readSeconds_77 : decode cX12_readSeconds 77 = .ok (.iinc 1 1, 3) := by decide +kernel
theorem dX12_readSeconds_80 : decode cX12_readSeconds 80 = .ok (.goto (-45), 3) := by decide +kernel
theorem dX12_readSeconds_83 : decode cX12_readSeconds 83 = .ok (.return_, 1) := by decide +kernel
theorem dX12_readStep_0 : decode cX12_readStep 0 = .ok (.aload_n 0, 1) := by decide +kernel
theorem dX12_readStep_1 : decode cX12_readStep 1 = .ok (.invokevirtual 500, 3) := by decide +kernel
theorem dX12_readStep_4 : decode cX12_readStep 4 = .ok (.ifCond .ne 10, 3) := by decide +kernel
theorem dX12_readStep_7 : decode cX12_readStep 7 = .ok (.aload_n 0, 1) := by decide +kernel
theorem dX12_readStep_8 : decode cX12_readStep 8 = .ok (.invokevirtual 503, 3) := by decide +kernel
theorem dX12_readStep_11 : decode cX12_readStep 11 = .ok (.ifCond .eq 7, 3) := by decide +kernel
theorem dX12_readStep_14 : decode cX12_readStep 14 = .ok (.iconst 1, 1) := by decide +kernel
theorem dX12_readStep_15 : decode cX12_readStep 15 = .ok (.goto 4, 3) := by decide +kernel
theorem dX12_readStep_18 : decode cX12_readStep 18 = .ok (.iconst 0, 1) := by decide +kernel
theorem dX12_readStep_19 : decode cX12_readStep 19 = .ok (.istore_n 2, 1) := by decide +kernel
theorem dX12_readStep_20 : decode cX12_readStep 20 = .ok (.aload_n 0, 1) := by decide +kernel
theorem dX12_readStep_21 : decode cX12_readStep 21 = .ok (.invokevirtual 506, 3) := by decide +kernel
theorem dX12_readStep_24 : decode cX12_readStep 24 = .ok (.istore_n 3, 1) := by decide +kernel
theorem dX12_readStep_25 : decode cX12_readStep 25 = .ok (.iload_n 2, 1) := by decide +kernel
theorem dX12_readStep_26 : decode cX12_readStep 26 = .ok (.ifCond .ne 11, 3) := by decide +kernel
theorem dX12_readStep_29 : decode cX12_readStep 29 = .ok (.iload_n 3, 1) := by decide +kernel
theorem dX12_readStep_30 : decode cX12_readStep 30 = .ok (.ifCond .ge 7, 3) := by decide +kernel
theorem dX12_readStep_33 : decode cX12_readStep 33 = .ok (.aload_n 0, 1) := by decide +kernel
theorem dX12_readStep_34 : decode cX12_readStep 34 = .ok (.invokevirtual 187, 3) := by decide +kernel
theorem dX12_readStep_37 : decode cX12_readStep 37 = .ok (.aload_n 0, 1) := by decide +kernel
theorem dX12_readStep_38 : decode cX12_readStep 38 = .ok (.getfield 174, 3) := by decide +kernel
theorem dX12_readStep_41 : decode cX12_readStep 41 = .ok (.ifCond .ne 22, 3) := by decide +kernel
theorem dX12_readStep_44 : decode cX12_readStep 44 = .ok (.aload_n 0, 1) := by decide +kernel
theorem dX12_readStep_45 : decode cX12_readStep 45 = .ok (.getfield 509, 3) := by decide +kernel
theorem dX12_readStep_48 : decode cX12_readStep 48 = .ok (.bipush 30, 2) := by decide +kernel
theorem dX12_readStep_50 : decode cX12_readStep 50 = .ok (.if_icmp .ne 13, 3) := by decide +kernel
theorem dX12_readStep_53 : decode cX12_readStep 53 = .ok (.aload_n 0, 1) := by decide +kernel
theorem dX12_readStep_54 : decode cX12_readStep 54 = .ok (.bipush 6, 2) := by decide +kernel
theorem dX12_readStep_56 : decode cX12_readStep 56 = .ok (.aload_n 0, 1) := by decide +kernel
theorem dX12_readStep_57 : decode cX12_readStep 57 = .ok (.getfield 127, 3) := by decide +kernel
theorem dX12_readStep_60 : decode cX12_readStep 60 = .ok (.invokevirtual 180, 3) := by decide +kernel
theorem dX12_readStep_63 : decode cX12_readStep 63 = .ok (.aload_n 0, 1) := by decide +kernel
theorem dX12_readStep_64 : decode cX12_readStep 64 = .ok (.getfield 174, 3) := by decide +kernel
theorem dX12_readStep_67 : decode cX12_readStep 67 = .ok (.ifCond .ne 22, 3) := by decide +kernel
theorem dX12_readStep_70 : decode cX12_readStep 70 = .ok (.iload_n 2, 1) := by decide +kernel
theorem dX12_readStep_71 : decode cX12_readStep 71 = .ok (.ifCond .eq 18, 3) := by decide +kernel
theorem dX12_readStep_74 : decode cX12_readStep 74 = .ok (.iload_n 1, 1) := by decide +kernel
theorem dX12_readStep_75 : decode cX12_readStep 75 = .ok (.iconst 3, 1) := by decide +kernel
theorem dX12_readStep_76 : decode cX12_readStep 76 = .ok (.if_icmp .ne 13, 3) := by decide +kernel
theorem dX12_readStep_79 : decode cX12_readStep 79 = .ok (.aload_n 0, 1) := by decide +kernel
theorem dX12_readStep_80 : decode cX12_readStep 80 = .ok (.bipush 7, 2) := by decide +kernel
theorem dX12_readStep_82 : decode cX12_readStep 82 = .ok (.aload_n 0, 1) := by decide +kernel
theorem dX12_readStep_83 : decode cX12_readStep 83 = .ok (.getfield 127, 3) := by decide +kernel
theorem dX12_readStep_86 : decode cX12_readStep 86 = .ok (.invokevirtual 180, 3) := by decide +kernel
theorem dX12_readStep_89 : decode cX12_readStep 89 = .ok (.aload_n 0, 1) := by decide +kernel
theorem dX12_readStep_90 : decode cX12_readStep 90 = .ok (.getfield 174, 3) := by decide +kernel
theorem dX12_readStep_93 : decode cX12_readStep 93 = .ok (.ifCond .le 4, 3) := by decide +kernel
theorem dX12_readStep_96 : decode cX12_readStep 96 = .ok (.return_, 1) := by decide +kernel
theorem dX12_readStep_97 : decode cX12_readStep 97 = .ok (.sipush 1641, 3) := by decide +kernel
theorem dX12_readStep_100 : decode cX12_readStep 100 = .ok (.bipush 6, 2) := by decide +kernel
theorem dX12_readStep_102 : decode cX12_readStep 102 = .ok (.aload_n 0, 1) := by decide +kernel
theorem dX12_readStep_103 : decode cX12_readStep 103 = .ok (.getfield 509, 3) := by decide +kernel
theorem dX12_readStep_106 : decode cX12_readStep 106 = .ok (.imul, 1) := by decide +kernel
theorem dX12_readStep_107 : decode cX12_readStep 107 = .ok (.iadd, 1) := by decide +kernel
theorem dX12_readStep_108 : decode cX12_readStep 108 = .ok (.istore 4, 2) := by decide +kernel
theorem dX12_readStep_110 : decode cX12_readStep 110 = .ok (.aload_n 0, 1) := by decide +kernel
theorem dX12_readStep_111 : decode cX12_readStep 111 = .ok (.dup, 1) := by decide +kernel
theorem dX12_readStep_112 : decode cX12_readStep 112 = .ok (.getfield 509, 3) := by decide +kernel
theorem dX12_readStep_115 : decode cX12_readStep 115 = .ok (.iconst 1, 1) := by decide +kernel
theorem dX12_readStep_116 : decode cX12_readStep 116 = .ok (.iadd, 1) := by decide +kernel
theorem dX12_readStep_117 : decode cX12_readStep 117 = .ok (.putfield 509, 3) := by decide +kernel
theorem dX12_readStep_120 : decode cX12_readStep 120 = .ok (.aload_n 0, 1) := by decide +kernel
theorem dX12_readStep_121 : decode cX12_readStep 121 = .ok (.invokevirtual 500, 3) := by decide +kernel
theorem dX12_readStep_124 : decode cX12_readStep 124 = .ok (.ifCond .eq 12, 3) := by decide +kernel
theorem dX12_readStep_127 : decode cX12_readStep 127 = .ok (.aload_n 0, 1) := by decide +kernel
theorem dX12_readStep_128 : decode cX12_readStep 128 = .ok (.iload 4, 2) := by decide +kernel
theorem dX12_readStep_130 : decode cX12_readStep 130 = .ok (.invokevirtual 512, 3) := by decide +kernel
theorem dX12_readStep_133 : decode cX12_readStep 133 = .ok (.goto 68, 3) := by decide +kernel
theorem dX12_readStep_136 : decode cX12_readStep 136 = .ok (.iload_n 2, 1) := by decide +kernel
theorem dX12_readStep_137 : decode cX12_readStep 137 = .ok (.ifCond .eq 35, 3) := by decide +kernel
theorem dX12_readStep_140 : decode cX12_readStep 140 = .ok (.aload_n 0, 1) := by decide +kernel
theorem dX12_readStep_141 : decode cX12_readStep 141 = .ok (.invokevirtual 184, 3) := by decide +kernel
theorem dX12_readStep_144 : decode cX12_readStep 144 = .ok (.aload_n 0, 1) := by decide +kernel
theorem dX12_readStep_145 : decode cX12_readStep 145 = .ok (.getfield 35, 3) := by decide +kernel
theorem dX12_readStep_148 : decode cX12_readStep 148 = .ok (.iload 4, 2) := by decide +kernel
theorem dX12_readStep_150 : decode cX12_readStep 150 = .ok (.bipush 9, 2) := by decide +kernel
theorem dX12_readStep_152 : decode cX12_readStep 152 = .ok (.iastore, 1) := by decide +kernel
theorem dX12_readStep_153 : decode cX12_readStep 153 = .ok (.aload_n 0, 1) := by decide +kernel
theorem dX12_readStep_154 : decode cX12_readStep 154 = .ok (.getfield 35, 3) := by decide +kernel
theorem dX12_readStep_157 : decode cX12_readStep 157 = .ok (.iload 4, 2) := by decide +kernel
theorem dX12_readStep_159 : decode cX12_readStep 159 = .ok (.iconst 3, 1) := by decide +kernel
theorem dX12_readStep_160 : decode cX12_readStep 160 = .ok (.iadd, 1) := by decide +kernel
theorem dX12_readStep_161 : decode cX12_readStep 161 = .ok (.aload_n 0, 1) := by decide +kernel
theorem dX12_readStep_162 : decode cX12_readStep 162 = .ok (.iconst 1, 1) := by decide +kernel
theorem dX12_readStep_163 : decode cX12_readStep 163 = .ok (.bipush 9, 2) := by decide +kernel
theorem dX12_readStep_165 : decode cX12_readStep 165 = .ok (.invokevirtual 214, 3) := by decide +kernel
theorem dX12_readStep_168 : decode cX12_readStep 168 = .ok (.iastore, 1) := by decide +kernel
theorem dX12_readStep_169 : decode cX12_readStep 169 = .ok (.goto 32, 3) := by decide +kernel
theorem dX12_readStep_172 : decode cX12_readStep 172 = .ok (.aload_n 0, 1) := by decide +kernel
theorem dX12_readStep_173 : decode cX12_readStep 173 = .ok (.invokevirtual 184, 3) := by decide +kernel
theorem dX12_readStep_176 : decode cX12_readStep 176 = .ok (.aload_n 0, 1) := by decide +kernel
theorem dX12_readStep_177 : decode cX12_readStep 177 = .ok (.getfield 35, 3) := by decide +kernel
theorem dX12_readStep_180 : decode cX12_readStep 180 = .ok (.iload 4, 2) := by decide +kernel
theorem dX12_readStep_182 : decode cX12_readStep 182 = .ok (.iload_n 3, 1) := by decide +kernel
theorem dX12_readStep_183 : decode cX12_readStep 183 = .ok (.iastore, 1) := by decide +kernel
theorem dX12_readStep_184 : decode cX12_readStep 184 = .ok (.iload_n 3, 1) := by decide +kernel
theorem dX12_readStep_185 : decode cX12_readStep 185 = .ok (.ifCond .ne 16, 3) := by decide +kernel
theorem dX12_readStep_188 : decode cX12_readStep 188 = .ok (.aload_n 0, 1) := by decide +kernel
theorem dX12_readStep_189 : decode cX12_readStep 189 = .ok (.getfield 35, 3) := by decide +kernel
theorem dX12_readStep_192 : decode cX12_readStep 192 = .ok (.iload 4, 2) := by decide +kernel
theorem dX12_readStep_194 : decode cX12_readStep 194 = .ok (.iconst 1, 1) := by decide +kernel
theorem dX12_readStep_195 : decode cX12_readStep 195 = .ok (.iadd, 1) := by decide +kernel
theorem dX12_readStep_196 : decode cX12_readStep 196 = .ok (.aload_n 0, 1) := by decide +kernel
theorem dX12_readStep_197 : decode cX12_readStep 197 = .ok (.invokevirtual 491, 3) := by decide +kernel
theorem dX12_readStep_200 : decode cX12_readStep 200 = .ok (.iastore, 1) := by decide +kernel
theorem dX12_readStep_201 : decode cX12_readStep 201 = .ok (.aload_n 0, 1) := by decide +kernel
theorem dX12_readStep_202 : decode cX12_readStep 202 = .ok (.aload_n 0, 1) := by decide +kernel
theorem dX12_readStep_203 : decode cX12_readStep 203 = .ok (.bipush 59, 2) := by decide +kernel
theorem dX12_readStep_205 : decode cX12_readStep 205 = .ok (.invokevirtual 220, 3) := by decide +kernel
theorem dX12_readStep_208 : decode cX12_readStep 208 = .ok (.invokevirtual 210, 3) := by decide +kernel
theorem dX12_readStep_211 : decode cX12_readStep 211 = .ok (.iload_n 2, 1) := by decide +kernel
theorem dX12_readStep_212 : decode cX12_readStep 212 = .ok (.ifCond .eq 27, 3) := by decide +kernel
theorem dX12_readStep_215 : decode cX12_readStep 215 = .ok (.aload_n 0, 1) := by decide +kernel
theorem dX12_readStep_216 : decode cX12_readStep 216 = .ok (.getfield 174, 3) := by decide +kernel
theorem dX12_readStep_219 : decode cX12_readStep 219 = .ok (.ifCond .ne 20, 3) := by decide +kernel
theorem dX12_readStep_222 : decode cX12_readStep 222 = .ok (.aload_n 0, 1) := by decide +kernel
theorem dX12_readStep_223 : decode cX12_readStep 223 = .ok (.invokevirtual 515, 3) := by decide +kernel
theorem dX12_readStep_226 : decode cX12_readStep 226 = .ok (.ifCond .ne 13, 3) := by decide +kernel
theorem dX12_readStep_229 : decode cX12_readStep 229 = .ok (.aload_n 0, 1) := by decide +kernel
theorem dX12_readStep_230 : decode cX12_readStep 230 = .ok (.iload_n 1, 1) := by decide +kernel
theorem dX12_readStep_231 : decode cX12_readStep 231 = .ok (.iconst 1, 1) := by decide +kernel
theorem dX12_readStep_232 : decode cX12_readStep 232 = .ok (.iadd, 1) := by decide +kernel
theorem dX12_readStep_233 : decode cX12_readStep 233 = .ok (.invokevirtual 518, 3) := by decide +kernel
theorem dX12_readStep_236 : decode cX12_readStep 236 = .ok (.goto (-25), 3) := by decide +kernel
theorem dX12_readStep_239 : decode cX12_readStep 239 = .ok (.iload_n 2, 1) := by decide +kernel
theorem dX12_readStep_240 : decode cX12_readStep 240 = .ok (.ifCond .eq 21, 3) := by decide +kernel
theorem dX12_readStep_243 : decode cX12_readStep 243 = .ok (.aload_n 0, 1) := by decide +kernel
theorem dX12_readStep_244 : decode cX12_readStep 244 = .ok (.aload_n 0, 1) := by decide +kernel
theorem dX12_readStep_245 : decode cX12_readStep 245 = .ok (.invokevirtual 515, 3) := by decide +kernel
theorem dX12_readStep_248 : decode cX12_readStep 248 = .ok (.invokevirtual 210, 3) := by decide +kernel
theorem dX12_readStep_251 : decode cX12_readStep 251 = .ok (.aload_n 0, 1) := by decide +kernel
theorem dX12_readStep_252 : decode cX12_readStep 252 = .ok (.aload_n 0, 1) := by decide +kernel
theorem dX12_readStep_253 : decode cX12_readStep 253 = .ok (.bipush 59, 2) := by decide +kernel
theorem dX12_readStep_255 : decode cX12_readStep 255 = .ok (.invokevirtual 220, 3) := by decide +kernel
theorem dX12_readStep_258 : decode cX12_readStep 258 = .ok (.invokevirtual 210, 3) := by decide +kernel
theorem dX12_readStep_261 : decode cX12_readStep 261 = .ok (.aload_n 0, 1) := by decide +kernel
theorem dX12_readStep_262 : decode cX12_readStep 262 = .ok (.getfield 35, 3) := by decide +kernel
theorem dX12_readStep_265 : decode cX12_readStep 265 = .ok (.iload 4, 2) := by decide +kernel
theorem dX12_readStep_267 : decode cX12_readStep 267 = .ok (.iconst 4, 1) := by decide +kernel
theorem dX12_readStep_268 : decode cX12_readStep 268 = .ok (.iadd, 1) := by decide +kernel
theorem dX12_readStep_269 : decode cX12_readStep 269 = .ok (.aload_n 0, 1) := by decide +kernel
theorem dX12_readStep_270 : decode cX12_readStep 270 = .ok (.getfield 509, 3) := by decide +kernel
theorem dX12_readStep_273 : decode cX12_readStep 273 = .ok (.iastore, 1) := by decide +kernel
theorem dX12_readStep_274 : decode cX12_readStep 274 = .ok (.return_, 1) := by decide +kernel
theorem dX12_readTurned_0 : decode cX12_readTurned 0 = .ok (.aload_n 0, 1) := by decide +kernel
theorem dX12_readTurned_1 : decode cX12_readTurned 1 = .ok (.getfield 227, 3) := by decide +kernel
theorem dX12_readTurned_4 : decode cX12_readTurned 4 = .ok (.ifCond .eq 12, 3) := by decide +kernel
theorem dX12_readTurned_7 : decode cX12_readTurned 7 = .ok (.aload_n 0, 1) := by decide +kernel
theorem dX12_readTurned_8 : decode cX12_readTurned 8 = .ok (.iconst 5, 1) := by decide +kernel
theorem dX12_readTurned_9 : decode cX12_readTurned 9 = .ok (.aload_n 0, 1) := by decide +kernel
theorem dX12_readTurned_10 : decode cX12_readTurned 10 = .ok (.getfield 127, 3) := by decide +kernel
theorem dX12_readTurned_13 : decode cX12_readTurned 13 = .ok (.invokevirtual 180, 3) := by decide +kernel
theorem dX12_readTurned_16 : decode cX12_readTurned 16 = .ok (.aload_n 0, 1) := by decide +kernel
theorem dX12_readTurned_17 : decode cX12_readTurned 17 = .ok (.getfield 174, 3) := by decide +kernel
theorem dX12_readTurned_20 : decode cX12_readTurned 20 = .ok (.ifCond .le 4, 3) := by decide +kernel
theorem dX12_readTurned_23 : decode cX12_readTurned 23 = .ok (.return_, 1) := by decide +kernel
theorem dX12_readTurned_24 : decode cX12_readTurned 24 = .ok (.aload_n 0, 1) := by decide +kernel
theorem dX12_readTurned_25 : decode cX12_readTurned 25 = .ok (.iconst 1, 1) := by decide +kernel
theorem dX12_readTurned_26 : decode cX12_readTurned 26 = .ok (.putfield 227, 3) := by decide +kernel
theorem dX12_readTurned_29 : decode cX12_readTurned 29 = .ok (.aload_n 0, 1) := by decide +kernel
theorem dX12_readTurned_30 : decode cX12_readTurned 30 = .ok (.invokevirtual 184, 3) := by decide +kernel
theorem dX12_readTurned_33 : decode cX12_readTurned 33 = .ok (.aload_n 0, 1) := by decide +kernel
theorem dX12_readTurned_34 : decode cX12_readTurned 34 = .ok (.getfield 35, 3) := by decide +kernel
theorem dX12_readTurned_37 : decode cX12_readTurned 37 = .ok (.sipush 1469, 3) := by decide +kernel
theorem dX12_readTurned_40 : decode cX12_readTurned 40 = .ok (.aload_n 0, 1) := by decide +kernel
theorem dX12_readTurned_41 : decode cX12_readTurned 41 = .ok (.iconst 0, 1) := by decide +kernel
theorem dX12_readTurned_42 : decode cX12_readTurned 42 = .ok (.bipush 16, 2) := by decide +kernel
theorem dX12_readTurned_44 : decode cX12_readTurned 44 = .ok (.invokevirtual 214, 3) := by decide +kernel
theorem dX12_readTurned_47 : decode cX12_readTurned 47 = .ok (.iastore, 1) := by decide +kernel
theorem dX12_readTurned_48 : decode cX12_readTurned 48 = .ok (.return_, 1) := by decide +kernel
theorem dX12_readWhen_0 : decode cX12_readWhen 0 = .ok (.aload_n 0, 1) := by decide +kernel
theorem dX12_readWhen_1 : decode cX12_readWhen 1 = .ok (.invokevirtual 184, 3) := by decide +kernel
theorem dX12_readWhen_4 : decode cX12_readWhen 4 = .ok (.aload_n 0, 1) := by decide +kernel
theorem dX12_readWhen_5 : decode cX12_readWhen 5 = .ok (.invokevirtual 488, 3) := by decide +kernel
theorem dX12_readWhen_8 : decode cX12_readWhen 8 = .ok (.ifCond .eq 106, 3) := by decide +kernel
theorem dX12_readWhen_11 : decode cX12_readWhen 11 = .ok (.aload_n 0, 1) := by decide +kernel
theorem dX12_readWhen_12 : decode cX12_readWhen 12 = .ok (.invokevirtual 184, 3) := by decide +kernel
theorem dX12_readWhen_15 : decode cX12_readWhen 15 = .ok (.aload_n 0, 1) := by decide +kernel
theorem dX12_readWhen_16 : decode cX12_readWhen 16 = .ok (.getfield 35, 3) := by decide +kernel
theorem dX12_readWhen_19 : decode cX12_readWhen 19 = .ok (.iload_n 1, 1) := by decide +kernel
theorem dX12_readWhen_20 : decode cX12_readWhen 20 = .ok (.bipush 6, 2) := by decide +kernel
theorem dX12_readWhen_22 : decode cX12_readWhen 22 = .ok (.iastore, 1) := by decide +kernel
theorem dX12_readWhen_23 : decode cX12_readWhen 23 = .ok (.aload_n 0, 1) := by decide +kernel
theorem dX12_readWhen_24 : decode cX12_readWhen 24 = .ok (.getfield 35, 3) := by decide +kernel
theorem dX12_readWhen_27 : decode cX12_readWhen 27 = .ok (.iload_n 1, 1) := by decide +kernel
theorem dX12_readWhen_28 : decode cX12_readWhen 28 = .ok (.iconst 1, 1) := by decide +kernel
theorem dX12_readWhen_29 : decode cX12_readWhen 29 = .ok (.iadd, 1) := by decide +kernel
theorem dX12_readWhen_30 : decode cX12_readWhen 30 = .ok (.aload_n 0, 1) := by decide +kernel
theorem dX12_readWhen_31 : decode cX12_readWhen 31 = .ok (.invokevirtual 491, 3) := by decide +kernel
theorem dX12_readWhen_34 : decode cX12_readWhen 34 = .ok (.iastore, 1) := by decide +kernel
theorem dX12_readWhen_35 : decode cX12_readWhen 35 = .ok (.aload_n 0, 1) := by decide +kernel
theorem dX12_readWhen_36 : decode cX12_readWhen 36 = .ok (.getfield 133, 3) := by decide +kernel
theorem dX12_readWhen_39 : decode cX12_readWhen 39 = .ok (.iconst 3, 1) := by decide +kernel
theorem dX12_readWhen_40 : decode cX12_readWhen 40 = .ok (.if_icmp .ne 10, 3) := by decide +kernel
theorem dX12_readWhen_43 : decode cX12_readWhen 43 = .ok (.aload_n 0, 1) := by decide +kernel
theorem dX12_readWhen_44 : decode cX12_readWhen 44 = .ok (.getfield 152, 3) := by decide +kernel
theorem dX12_readWhen_47 : decode cX12_readWhen 47 = .ok (.goto 4, 3) := by decide +kernel
theorem dX12_readWhen_50 : decode cX12_readWhen 50 = .ok (.iconst 0, 1) := by decide +kernel
theorem dX12_readWhen_51 : decode cX12_readWhen 51 = .ok (.istore_n 2, 1) := by decide +kernel
theorem dX12_readWhen_52 : decode cX12_readWhen 52 = .ok (.aload_n 0, 1) := by decide +kernel
theorem dX12_readWhen_53 : decode cX12_readWhen 53 = .ok (.aload_n 0, 1) := by decide +kernel
theorem dX12_readWhen_54 : decode cX12_readWhen 54 = .ok (.bipush 60, 2) := by decide +kernel
theorem dX12_readWhen_56 : decode cX12_readWhen 56 = .ok (.invokevirtual 220, 3) := by decide +kernel
theorem dX12_readWhen_59 : decode cX12_readWhen 59 = .ok (.ifCond .ne 21, 3) := by decide +kernel
theorem dX12_readWhen_62 : decode cX12_readWhen 62 = .ok (.aload_n 0, 1) := by decide +kernel
theorem dX12_readWhen_63 : decode cX12_readWhen 63 = .ok (.bipush 62, 2) := by decide +kernel
theorem dX12_readWhen_65 : decode cX12_readWhen 65 = .ok (.invokevirtual 220, 3) := by decide +kernel
theorem dX12_readWhen_68 : decode cX12_readWhen 68 = .ok (.ifCond .ne 12, 3) := by decide +kernel
theorem dX12_readWhen_71 : decode cX12_readWhen 71 = .ok (.aload_n 0, 1) := by decide +kernel
theorem dX12_readWhen_72 : decode cX12_readWhen 72 = .ok (.bipush 61, 2) := by decide +kernel
theorem dX12_readWhen_74 : decode cX12_readWhen 74 = .ok (.invokevirtual 220, 3) := by decide +kernel
theorem dX12_readWhen_77 : decode cX12_readWhen 77 = .ok (.ifCond .eq 7, 3) := by decide +kernel
theorem dX12_readWhen_80 : decode cX12_readWhen 80 = .ok (.iconst 1, 1) := by decide +kernel
theorem dX12_readWhen_81 : decode cX12_readWhen 81 = .ok (.goto 4, 3) := by decide +kernel
theorem dX12_readWhen_84 : decode cX12_readWhen 84 = .ok (.iconst 0, 1) := by decide +kernel
theorem dX12_readWhen_85 : decode cX12_readWhen 85 = .ok (.invokevirtual 210, 3) := by decide +kernel
theorem dX12_readWhen_88 : decode cX12_readWhen 88 = .ok (.aload_n 0, 1) := by decide +kernel
theorem dX12_readWhen_89 : decode cX12_readWhen 89 = .ok (.getfield 35, 3) := by decide +kernel
theorem dX12_readWhen_92 : decode cX12_readWhen 92 = .ok (.iload_n 1, 1) := by decide +kernel
theorem dX12_readWhen_93 : decode cX12_readWhen 93 = .ok (.iconst 2, 1) := by decide +kernel
theorem dX12_readWhen_94 : decode cX12_readWhen 94 = .ok (.iadd, 1) := by decide +kernel
theorem dX12_readWhen_95 : decode cX12_readWhen 95 = .ok (.iload_n 2, 1) := by decide +kernel
theorem dX12_readWhen_96 : decode cX12_readWhen 96 = .ok (.iastore, 1) := by decide +kernel
theorem dX12_readWhen_97 : decode cX12_readWhen 97 = .ok (.aload_n 0, 1) := by decide +kernel
theorem dX12_readWhen_98 : decode cX12_readWhen 98 = .ok (.getfield 35, 3) := by decide +kernel
theorem dX12_readWhen_101 : decode cX12_readWhen 101 = .ok (.iload_n 1, 1) := by decide +kernel
theorem dX12_readWhen_102 : decode cX12_readWhen 102 = .ok (.iconst 3, 1) := by decide +kernel
theorem dX12_readWhen_103 : decode cX12_readWhen 103 = .ok (.iadd, 1) := by decide +kernel
theorem dX12_readWhen_104 : decode cX12_readWhen 104 = .ok (.aload_n 0, 1) := by decide +kernel
theorem dX12_readWhen_105 : decode cX12_readWhen 105 = .ok (.iconst 0, 1) := by decide +kernel
theorem dX12_readWhen_106 : decode cX12_readWhen 106 = .ok (.iconst 3, 1) := by decide +kernel
theorem dX12_readWhen_107 : decode cX12_readWhen 107 = .ok (.invokevirtual 214, 3) := by decide +kernel
theorem dX12_readWhen_110 : decode cX12_readWhen 110 = .ok (.iastore, 1) := by decide +kernel
theorem dX12_readWhen_111 : decode cX12_readWhen 111 = .ok (.goto 56, 3) := by decide +kernel
theorem dX12_readWhen_114 : decode cX12_readWhen 114 = .ok (.aload_n 0, 1) := by decide +kernel
theorem dX12_readWhen_115 : decode cX12_readWhen 115 = .ok (.invokevirtual 494, 3) := by decide +kernel
theorem dX12_readWhen_118 : decode cX12_readWhen 118 = .ok (.ifCond .eq 33, 3) := by decide +kernel
theorem dX12_readWhen_121 : decode cX12_readWhen 121 = .ok (.aload_n 0, 1) := by decide +kernel
theorem dX12_readWhen_122 : decode cX12_readWhen 122 = .ok (.invokevirtual 184, 3) := by decide +kernel
theorem dX12_readWhen_125 : decode cX12_readWhen 125 = .ok (.aload_n 0, 1) := by decide +kernel
theorem dX12_readWhen_126 : decode cX12_readWhen 126 = .ok (.getfield 35, 3) := by decide +kernel
theorem dX12_readWhen_129 : decode cX12_readWhen 129 = .ok (.iload_n 1, 1) := by decide +kernel
theorem dX12_readWhen_130 : decode cX12_readWhen 130 = .ok (.bipush 7, 2) := by decide +kernel
theorem dX12_readWhen_132 : decode cX12_readWhen 132 = .ok (.iastore, 1) := by decide +kernel
theorem dX12_readWhen_133 : decode cX12_readWhen 133 = .ok (.aload_n 0, 1) := by decide +kernel
theorem dX12_readWhen_134 : decode cX12_readWhen 134 = .ok (.getfield 35, 3) := by decide +kernel
theorem dX12_readWhen_137 : decode cX12_readWhen 137 = .ok (.iload_n 1, 1) := by decide +kernel
theorem dX12_readWhen_138 : decode cX12_readWhen 138 = .ok (.iconst 3, 1) := by decide +kernel
theorem dX12_readWhen_139 : decode cX12_readWhen 139 = .ok (.iadd, 1) := by decide +kernel
theorem dX12_readWhen_140 : decode cX12_readWhen 140 = .ok (.aload_n 0, 1) := by decide +kernel
theorem dX12_readWhen_141 : decode cX12_readWhen 141 = .ok (.iconst 0, 1) := by decide +kernel
theorem dX12_readWhen_142 : decode cX12_readWhen 142 = .ok (.bipush 16, 2) := by decide +kernel
theorem dX12_readWhen_144 : decode cX12_readWhen 144 = .ok (.invokevirtual 214, 3) := by decide +kernel
theorem dX12_readWhen_147 : decode cX12_readWhen 147 = .ok (.iastore, 1) := by decide +kernel
theorem dX12_readWhen_148 : decode cX12_readWhen 148 = .ok (.goto 19, 3) := by decide +kernel
theorem dX12_readWhen_151 : decode cX12_readWhen 151 = .ok (.aload_n 0, 1) := by decide +kernel
theorem dX12_readWhen_152 : decode cX12_readWhen 152 = .ok (.getfield 35, 3) := by decide +kernel
theorem dX12_readWhen_155 : decode cX12_readWhen 155 = .ok (.iload_n 1, 1) := by decide +kernel
theorem dX12_readWhen_156 : decode cX12_readWhen 156 = .ok (.bipush 8, 2) := by decide +kernel
theorem dX12_readWhen_158 : decode cX12_readWhen 158 = .ok (.iastore, 1) := by decide +kernel
theorem dX12_readWhen_159 : decode cX12_readWhen 159 = .ok (.aload_n 0, 1) := by decide +kernel
theorem dX12_readWhen_160 : decode cX12_readWhen 160 = .ok (.aload_n 0, 1) := by decide +kernel
theorem dX12_readWhen_161 : decode cX12_readWhen 161 = .ok (.invokevirtual 497, 3) := by decide +kernel
theorem dX12_readWhen_164 : decode cX12_readWhen 164 = .ok (.invokevirtual 210, 3) := by decide +kernel
theorem dX12_readWhen_167 : decode cX12_readWhen 167 = .ok (.return_, 1) := by decide +kernel
theorem dX12_refuse_0 : decode cX12_refuse 0 = .ok (.aload_n 0, 1) := by decide +kernel
theorem dX12_refuse_1 : decode cX12_refuse 1 = .ok (.iload_n 1, 1) := by decide +kernel
theorem dX12_refuse_2 : decode cX12_refuse 2 = .ok (.putfield 85, 3) := by decide +kernel
theorem dX12_refuse_5 : decode cX12_refuse 5 = .ok (.iconst (-1), 1) := by decide +kernel
theorem dX12_refuse_6 : decode cX12_refuse 6 = .ok (.ireturn, 1) := by decide +kernel
theorem dX12_ring_0 : decode cX12_ring 0 = .ok (.aload_n 0, 1) := by decide +kernel
theorem dX12_ring_1 : decode cX12_ring 1 = .ok (.iconst 0, 1) := by decide +kernel
theorem dX12_ring_2 : decode cX12_ring 2 = .ok (.putfield 82, 3) := by decide +kernel
theorem dX12_ring_5 : decode cX12_ring 5 = .ok (.aload_n 0, 1) := by decide +kernel
theorem dX12_ring_6 : decode cX12_ring 6 = .ok (.iconst 0, 1) := by decide +kernel
theorem dX12_ring_7 : decode cX12_ring 7 = .ok (.putfield 85, 3) := by decide +kernel
theorem dX12_ring_10 : decode cX12_ring 10 = .ok (.aload_n 0, 1) := by decide +kernel
theorem dX12_ring_11 : decode cX12_ring 11 = .ok (.iload_n 1, 1) := by decide +kernel
theorem dX12_ring_12 : decode cX12_ring 12 = .ok (.invokevirtual 289, 3) := by decide +kernel
theorem dX12_ring_15 : decode cX12_ring 15 = .ok (.ifCond .ne 9, 3) := by decide +kernel
theorem dX12_ring_18 : decode cX12_ring 18 = .ok (.aload_n 0, 1) := by decide +kernel
theorem dX12_ring_19 : decode cX12_ring 19 = .ok (.iconst 2, 1) := by decide +kernel
theorem dX12_ring_20 : decode cX12_ring 20 = .ok (.invokevirtual 269, 3) := by decide +kernel
theorem dX12_ring_23 : decode cX12_ring 23 = .ok (.ireturn, 1) := by decide +kernel
theorem dX12_ring_24 : decode cX12_ring 24 = .ok (.aload_n 0, 1) := by decide +kernel
theorem dX12_ring_25 : decode cX12_ring 25 = .ok (.iload_n 1, 1) := by decide +kernel
theorem dX12_ring_26 : decode cX12_ring 26 = .ok (.invokevirtual 292, 3) := by decide +kernel
theorem dX12_ring_29 : decode cX12_ring 29 = .ok (.iload_n 2, 1) := by decide +kernel
theorem dX12_ring_30 : decode cX12_ring 30 = .ok (.iconst (-1), 1) := by decide +kernel
theorem dX12_ring_31 : decode cX12_ring 31 = .ok (.if_icmp .ne 8, 3) := by decide +kernel
theorem dX12_ring_34 : decode cX12_ring 34 = .ok (.aload_n 0, 1) := by decide +kernel
theorem dX12_ring_35 : decode cX12_ring 35 = .ok (.getfield 286, 3) := by decide +kernel
theorem dX12_ring_38 : decode cX12_ring 38 = .ok (.ireturn, 1) := by decide +kernel
theorem dX12_ring_39 : decode cX12_ring 39 = .ok (.iload_n 2, 1) := by decide +kernel
theorem dX12_ring_40 : decode cX12_ring 40 = .ok (.i2l, 1) := by decide +kernel
theorem dX12_ring_41 : decode cX12_ring 41 = .ok (.lconst 0, 1) := by decide +kernel
theorem dX12_ring_42 : decode cX12_ring 42 = .ok (.aload_n 0, 1) := by decide +kernel
theorem dX12_ring_43 : decode cX12_ring 43 = .ok (.getfield 286, 3) := by decide +kernel
theorem dX12_ring_46 : decode cX12_ring 46 = .ok (.iconst 1, 1) := by decide +kernel
theorem dX12_ring_47 : decode cX12_ring 47 = .ok (.isub, 1) := by decide +kernel
theorem dX12_ring_48 : decode cX12_ring 48 = .ok (.i2l, 1) := by decide +kernel
theorem dX12_ring_49 : decode cX12_ring 49 = .ok (.invokestatic 117, 3) := by decide +kernel
theorem dX12_ring_52 : decode cX12_ring 52 = .ok (.ifCond .eq 12, 3) := by decide +kernel
theorem dX12_ring_55 : decode cX12_ring 55 = .ok (.aload_n 0, 1) := by decide +kernel
theorem dX12_ring_56 : decode cX12_ring 56 = .ok (.getfield 41, 3) := by decide +kernel
theorem dX12_ring_59 : decode cX12_ring 59 = .ok (.iload_n 2, 1) := by decide +kernel
theorem dX12_ring_60 : decode cX12_ring 60 = .ok (.iaload, 1) := by decide +kernel
theorem dX12_ring_61 : decode cX12_ring 61 = .ok (.goto 9, 3) := by decide +kernel
theorem dX12_ring_64 : decode cX12_ring 64 = .ok (.aload_n 0, 1) := by decide +kernel
theorem dX12_ring_65 : decode cX12_ring 65 = .ok (.bipush 8, 2) := by decide +kernel
theorem dX12_ring_67 : decode cX12_ring 67 = .ok (.invokevirtual 269, 3) := by decide +kernel
theorem dX12_ring_70 : decode cX12_ring 70 = .ok (.ireturn, 1) := by decide +kernel
theorem dX12_ringOf_0 : decode cX12_ringOf 0 = .ok (.iconst 0, 1) := by decide +kernel
theorem dX12_ringOf_1 : decode cX12_ringOf 1 = .ok (.istore_n 2, 1) := by decide +kernel
theorem dX12_ringOf_2 : decode cX12_ringOf 2 = .ok (.iload_n 2, 1) := by decide +kernel
theorem dX12_ringOf_3 : decode cX12_ringOf 3 = .ok (.aload_n 0, 1) := by decide +kernel
theorem dX12_ringOf_4 : decode cX12_ringOf 4 = .ok (.getfield 35, 3) := by decide +kernel
theorem dX12_ringOf_7 : decode cX12_ringOf 7 = .ok (.iconst 2, 1) := by decide +kernel
theorem dX12_ringOf_8 : decode cX12_ringOf 8 = .ok (.iaload, 1) := by decide +kernel
theorem dX12_ringOf_9 : decode cX12_ringOf 9 = .ok (.if_icmp .ge 50, 3) := by decide +kernel
theorem dX12_ringOf_12 : decode cX12_ringOf 12 = .ok (.iconst 0, 1) := by decide +kernel
theorem dX12_ringOf_13 : decode cX12_ringOf 13 = .ok (.istore_n 3, 1) := by decide +kernel
theorem dX12_ringOf_14 : decode cX12_ringOf 14 = .ok (.iload_n 3, 1) := by decide +kernel
theorem dX12_ringOf_15 : decode cX12_ringOf 15 = .ok (.aload_n 0, 1) := by decide +kernel
theorem dX12_ringOf_16 : decode cX12_ringOf 16 = .ok (.getfield 35, 3) := by decide +kernel
theorem dX12_ringOf_19 : decode cX12_ringOf 19 = .ok (.bipush 95, 2) := by decide +kernel
theorem dX12_ringOf_21 : decode cX12_ringOf 21 = .ok (.iload_n 2, 1) := by decide +kernel
theorem dX12_ringOf_22 : decode cX12_ringOf 22 = .ok (.iadd, 1) := by decide +kernel
theorem dX12_ringOf_23 : decode cX12_ringOf 23 = .ok (.iaload, 1) := by decide +kernel
theorem dX12_ringOf_24 : decode cX12_ringOf 24 = .ok (.if_icmp .ge 29, 3) := by decide +kernel
theorem dX12_ringOf_27 : decode cX12_ringOf 27 = .ok (.aload_n 0, 1) := by decide +kernel
theorem dX12_ringOf_28 : decode cX12_ringOf 28 = .ok (.getfield 35, 3) := by decide +kernel
theorem dX12_ringOf_31 : decode cX12_ringOf 31 = .ok (.bipush 98, 2) := by decide +kernel
theorem dX12_ringOf_33 : decode cX12_ringOf 33 = .ok (.bipush 10, 2) := by decide +kernel
theorem dX12_ringOf_35 : decode cX12_ringOf 35 = .ok (.iload_n 2, 1) := by decide +kernel
theorem dX12_ringOf_36 : decode cX12_ringOf 36 = .ok (.imul, 1) := by decide +kernel
theorem dX12_ringOf_37 : decode cX12_ringOf 37 = .ok (.iadd, 1) := by decide +kernel
theorem dX12_ringOf_38 : decode cX12_ringOf 38 = .ok (.iload_n 3, 1) := by decide +kernel
theorem dX12_ringOf_39 : decode cX12_ringOf 39 = .ok (.iadd, 1) := by decide +kernel
theorem dX12_ringOf_40 : decode cX12_ringOf 40 = .ok (.iaload, 1) := by decide +kernel
theorem dX12_ringOf_41 : decode cX12_ringOf 41 = .ok (.iload_n 1, 1) := by decide +kernel
theorem dX12_ringOf_42 : decode cX12_ringOf 42 = .ok (.if_icmp .ne 5, 3) := by decide +kernel
theorem dX12_ringOf_45 : decode cX12_ringOf 45 = .ok (.iload_n 2, 1) := by decide +kernel
theorem dX12_ringOf_46 : decode cX12_ringOf 46 = .ok (.ireturn, 1) := by decide +kernel
theorem dX12_ringOf_47 : decode cX12_ringOf 47 = .ok (.iinc 3 1, 3) := by decide +kernel
theorem dX12_ringOf_50 : decode cX12_ringOf 50 = .ok (.goto (-36), 3) := by decide +kernel
theorem dX12_ringOf_53 : decode cX12_ringOf 53 = .ok (.iinc 2 1, 3) := by decide +kernel
theorem dX12_ringOf_56 : decode cX12_ringOf 56 = .ok (.goto (-54), 3) := by decide +kernel
theorem dX12_ringOf_59 : decode cX12_ringOf 59 = .ok (.iconst (-1), 1) := by decide +kernel
theorem dX12_ringOf_60 : decode cX12_ringOf 60 = .ok (.ireturn, 1) := by decide +kernel
theorem dX12_round_0 : decode cX12_round 0 = .ok (.aload_n 0, 1) := by decide +kernel
theorem dX12_round_1 : decode cX12_round 1 = .ok (.iconst 0, 1) := by decide +kernel
theorem dX12_round_2 : decode cX12_round 2 = .ok (.putfield 82, 3) := by decide +kernel
theorem dX12_round_5 : decode cX12_round 5 = .ok (.aload_n 0, 1) := by decide +kernel
theorem dX12_round_6 : decode cX12_round 6 = .ok (.iconst 0, 1) := by decide +kernel
theorem dX12_round_7 : decode cX12_round 7 = .ok (.putfield 85, 3) := by decide +kernel
theorem dX12_round_10 : decode cX12_round 10 = .ok (.iload_n 1, 1) := by decide +kernel
theorem dX12_round_11 : decode cX12_round 11 = .ok (.i2l, 1) := by decide +kernel
theorem dX12_round_12 : decode cX12_round 12 = .ok (.lconst 0, 1) := by decide +kernel
theorem dX12_round_13 : decode cX12_round 13 = .ok (.aload_n 0, 1) := by decide +kernel
theorem dX12_round_14 : decode cX12_round 14 = .ok (.getfield 35, 3) := by decide +kernel
theorem dX12_round_17 : decode cX12_round 17 = .ok (.iconst 4, 1) := by decide +kernel
theorem dX12_round_18 : decode cX12_round 18 = .ok (.iaload, 1) := by decide +kernel
theorem dX12_round_19 : decode cX12_round 19 = .ok (.iconst 1, 1) := by decide +kernel
theorem dX12_round_20 : decode cX12_round 20 = .ok (.isub, 1) := by decide +kernel
theorem dX12_round_21 : decode cX12_round 21 = .ok (.i2l, 1) := by decide +kernel
theorem dX12_round_22 : decode cX12_round 22 = .ok (.invokestatic 117, 3) := by decide +kernel
theorem dX12_round_25 : decode cX12_round 25 = .ok (.ifCond .eq 16, 3) := by decide +kernel
theorem dX12_round_28 : decode cX12_round 28 = .ok (.aload_n 0, 1) := by decide +kernel
theorem dX12_round_29 : decode cX12_round 29 = .ok (.getfield 35, 3) := by decide +kernel
theorem dX12_round_32 : decode cX12_round 32 = .ok (.sipush 138, 3) := by decide +kernel
theorem dX12_round_35 : decode cX12_round 35 = .ok (.iload_n 1, 1) := by decide +kernel
theorem dX12_round_36 : decode cX12_round 36 = .ok (.iadd, 1) := by decide +kernel
theorem dX12_round_37 : decode cX12_round 37 = .ok (.iaload, 1) := by decide +kernel
theorem dX12_round_38 : decode cX12_round 38 = .ok (.goto 9, 3) := by decide +kernel
theorem dX12_round_41 : decode cX12_round 41 = .ok (.aload_n 0, 1) := by decide +kernel
theorem dX12_round_42 : decode cX12_round 42 = .ok (.bipush 8, 2) := by decide +kernel
theorem dX12_round_44 : decode cX12_round 44 = .ok (.invokevirtual 269, 3) := by decide +kernel
theorem dX12_round_47 : decode cX12_round 47 = .ok (.ireturn, 1) := by decide +kernel
theorem dX12_rowFrom_0 : decode cX12_rowFrom 0 = .ok (.iload_n 1, 1) := by decide +kernel
theorem dX12_rowFrom_1 : decode cX12_rowFrom 1 = .ok (.aload_n 0, 1) := by decide +kernel
theorem dX12_rowFrom_2 : decode cX12_rowFrom 2 = .ok (.getfield 441, 3) := by decide +kernel
theorem dX12_rowFrom_5 : decode cX12_rowFrom 5 = .ok (.if_icmp .ne 10, 3) := by decide +kernel
theorem dX12_rowFrom_8 : decode cX12_rowFrom 8 = .ok (.aload_n 0, 1) := by decide +kernel
theorem dX12_rowFrom_9 : decode cX12_rowFrom 9 = .ok (.iload_n 1, 1) := by decide +kernel
theorem dX12_rowFrom_10 : decode cX12_rowFrom 10 = .ok (.iload_n 2, 1) := by decide +kernel
theorem dX12_rowFrom_11 : decode cX12_rowFrom 11 = .ok (.invokevirtual 444, 3) := by decide +kernel
theorem dX12_rowFrom_14 : decode cX12_rowFrom 14 = .ok (.return_, 1) := by decide +kernel
theorem dX12_rowFrom_15 : decode cX12_rowFrom 15 = .ok (.iconst 0, 1) := by decide +kernel
theorem dX12_rowFrom_16 : decode cX12_rowFrom 16 = .ok (.istore_n 3, 1) := by decide +kernel
theorem dX12_rowFrom_17 : decode cX12_rowFrom 17 = .ok (.iload_n 3, 1) := by decide +kernel
theorem dX12_rowFrom_18 : decode cX12_rowFrom 18 = .ok (.aload_n 0, 1) := by decide +kernel
theorem dX12_rowFrom_19 : decode cX12_rowFrom 19 = .ok (.getfield 35, 3) := by decide +kernel
theorem dX12_rowFrom_22 : decode cX12_rowFrom 22 = .ok (.iconst 2, 1) := by decide +kernel
theorem dX12_rowFrom_23 : decode cX12_rowFrom 23 = .ok (.iaload, 1) := by decide +kernel
theorem dX12_rowFrom_24 : decode cX12_rowFrom 24 = .ok (.if_icmp .ge 48, 3) := by decide +kernel
theorem dX12_rowFrom_27 : decode cX12_rowFrom 27 = .ok (.aload_n 0, 1) := by decide +kernel
theorem dX12_rowFrom_28 : decode cX12_rowFrom 28 = .ok (.iload_n 3, 1) := by decide +kernel
theorem dX12_rowFrom_29 : decode cX12_rowFrom 29 = .ok (.invokevirtual 292, 3) := by decide +kernel
theorem dX12_rowFrom_32 : decode cX12_rowFrom 32 = .ok (.aload_n 0, 1) := by decide +kernel
theorem dX12_rowFrom_33 : decode cX12_rowFrom 33 = .ok (.getfield 286, 3) := by decide +kernel
theorem dX12_rowFrom_36 : decode cX12_rowFrom 36 = .ok (.ifCond .eq 30, 3) := by decide +kernel
theorem dX12_rowFrom_39 : decode cX12_rowFrom 39 = .ok (.aload_n 0, 1) := by decide +kernel
theorem dX12_rowFrom_40 : decode cX12_rowFrom 40 = .ok (.iload_n 3, 1) := by decide +kernel
theorem dX12_rowFrom_41 : decode cX12_rowFrom 41 = .ok (.iload_n 1, 1) := by decide +kernel
theorem dX12_rowFrom_42 : decode cX12_rowFrom 42 = .ok (.invokevirtual 426, 3) := by decide +kernel
theorem dX12_rowFrom_45 : decode cX12_rowFrom 45 = .ok (.ifCond .eq 6, 3) := by decide +kernel
theorem dX12_rowFrom_48 : decode cX12_rowFrom 48 = .ok (.goto 18, 3) := by decide +kernel
theorem dX12_rowFrom_51 : decode cX12_rowFrom 51 = .ok (.aload_n 0, 1) := by decide +kernel
theorem dX12_rowFrom_52 : decode cX12_rowFrom 52 = .ok (.getfield 44, 3) := by decide +kernel
theorem dX12_rowFrom_55 : decode cX12_rowFrom 55 = .ok (.iload_n 1, 1) := by decide +kernel
theorem dX12_rowFrom_56 : decode cX12_rowFrom 56 = .ok (.iload_n 3, 1) := by decide +kernel
theorem dX12_rowFrom_57 : decode cX12_rowFrom 57 = .ok (.iastore, 1) := by decide +kernel
theorem dX12_rowFrom_58 : decode cX12_rowFrom 58 = .ok (.aload_n 0, 1) := by decide +kernel
theorem dX12_rowFrom_59 : decode cX12_rowFrom 59 = .ok (.iload_n 1, 1) := by decide +kernel
theorem dX12_rowFrom_60 : decode cX12_rowFrom 60 = .ok (.iconst 1, 1) := by decide +kernel
theorem dX12_rowFrom_61 : decode cX12_rowFrom 61 = .ok (.iadd, 1) := by decide +kernel
theorem dX12_rowFrom_62 : decode cX12_rowFrom 62 = .ok (.iload_n 2, 1) := by decide +kernel
theorem dX12_rowFrom_63 : decode cX12_rowFrom 63 = .ok (.invokevirtual 447, 3) := by decide +kernel
theorem dX12_rowFrom_66 : decode cX12_rowFrom 66 = .ok (.iinc 3 1, 3) := by decide +kernel
theorem dX12_rowFrom_69 : decode cX12_rowFrom 69 = .ok (.goto (-52), 3) := by decide +kernel
theorem dX12_rowFrom_72 : decode cX12_rowFrom 72 = .ok (.return_, 1) := by decide +kernel
theorem dX12_rule_0 : decode cX12_rule 0 = .ok (.aload_n 0, 1) := by decide +kernel
theorem dX12_rule_1 : decode cX12_rule 1 = .ok (.iconst 0, 1) := by decide +kernel
theorem dX12_rule_2 : decode cX12_rule 2 = .ok (.putfield 82, 3) := by decide +kernel
theorem dX12_rule_5 : decode cX12_rule 5 = .ok (.aload_n 0, 1) := by decide +kernel
theorem dX12_rule_6 : decode cX12_rule 6 = .ok (.iconst 0, 1) := by decide +kernel
theorem dX12_rule_7 : decode cX12_rule 7 = .ok (.putfield 85, 3) := by decide +kernel
theorem dX12_rule_10 : decode cX12_rule 10 = .ok (.aload_n 0, 1) := by decide +kernel
theorem dX12_rule_11 : decode cX12_rule 11 = .ok (.iload_n 1, 1) := by decide +kernel
theorem dX12_rule_12 : decode cX12_rule 12 = .ok (.sipush 300, 3) := by decide +kernel
theorem dX12_rule_15 : decode cX12_rule 15 = .ok (.invokevirtual 233, 3) := by decide +kernel
theorem dX12_rule_18 : decode cX12_rule 18 = .ok (.ifCond .ne 5, 3) := by decide +kernel
theorem dX12_rule_21 : decode cX12_rule 21 = .ok (.iconst (-1), 1) := by decide +kernel
theorem dX12_rule_22 : decode cX12_rule 22 = .ok (.ireturn, 1) := by decide +kernel
theorem dX12_rule_23 : decode cX12_rule 23 = .ok (.aload_n 0, 1) := by decide +kernel
theorem dX12_rule_24 : decode cX12_rule 24 = .ok (.iconst 0, 1) := by decide +kernel
theorem dX12_rule_25 : decode cX12_rule 25 = .ok (.putfield 509, 3) := by decide +kernel
theorem dX12_rule_28 : decode cX12_rule 28 = .ok (.aload_n 0, 1) := by decide +kernel
theorem dX12_rule_29 : decode cX12_rule 29 = .ok (.getfield 174, 3) := by decide +kernel
theorem dX12_rule_32 : decode cX12_rule 32 = .ok (.ifCond .ne 18, 3) := by decide +kernel
theorem dX12_rule_35 : decode cX12_rule 35 = .ok (.aload_n 0, 1) := by decide +kernel
theorem dX12_rule_36 : decode cX12_rule 36 = .ok (.getfield 133, 3) := by decide +kernel
theorem dX12_rule_39 : decode cX12_rule 39 = .ok (.ifCond .eq 11, 3) := by decide +kernel
theorem dX12_rule_42 : decode cX12_rule 42 = .ok (.aload_n 0, 1) := by decide +kernel
theorem dX12_rule_43 : decode cX12_rule 43 = .ok (.iconst 0, 1) := by decide +kernel
theorem dX12_rule_44 : decode cX12_rule 44 = .ok (.invokevirtual 518, 3) := by decide +kernel
theorem dX12_rule_47 : decode cX12_rule 47 = .ok (.goto (-19), 3) := by decide +kernel
theorem dX12_rule_50 : decode cX12_rule 50 = .ok (.aload_n 0, 1) := by decide +kernel
theorem dX12_rule_51 : decode cX12_rule 51 = .ok (.invokevirtual 261, 3) := by decide +kernel
theorem dX12_rule_54 : decode cX12_rule 54 = .ok (.ifCond .ne 5, 3) := by decide +kernel
theorem dX12_rule_57 : decode cX12_rule 57 = .ok (.iconst (-1), 1) := by decide +kernel
theorem dX12_rule_58 : decode cX12_rule 58 = .ok (.ireturn, 1) := by decide +kernel
theorem dX12_rule_59 : decode cX12_rule 59 = .ok (.aload_n 0, 1) := by decide +kernel
theorem dX12_rule_60 : decode cX12_rule 60 = .ok (.getfield 35, 3) := by decide +kernel
theorem dX12_rule_63 : decode cX12_rule 63 = .ok (.sipush 180, 3) := by decide +kernel
theorem dX12_rule_66 : decode cX12_rule 66 = .ok (.aload_n 0, 1) := by decide +kernel
theorem dX12_rule_67 : decode cX12_rule 67 = .ok (.getfield 509, 3) := by decide +kernel
theorem dX12_rule_70 : decode cX12_rule 70 = .ok (.iastore, 1) := by decide +kernel
theorem dX12_rule_71 : decode cX12_rule 71 = .ok (.iconst 0, 1) := by decide +kernel
theorem dX12_rule_72 : decode cX12_rule 72 = .ok (.istore_n 2, 1) := by decide +kernel
theorem dX12_rule_73 : decode cX12_rule 73 = .ok (.iload_n 2, 1) := by decide +kernel
theorem dX12_rule_74 : decode cX12_rule 74 = .ok (.bipush 6, 2) := by decide +kernel
theorem dX12_rule_76 : decode cX12_rule 76 = .ok (.aload_n 0, 1) := by decide +kernel
theorem dX12_rule_77 : decode cX12_rule 77 = .ok (.getfield 509, 3) := by decide +kernel
theorem dX12_rule_80 : decode cX12_rule 80 = .ok (.imul, 1) := by decide +kernel
theorem dX12_rule_81 : decode cX12_rule 81 = .ok (.if_icmp .ge 29, 3) := by decide +kernel
theorem dX12_rule_84 : decode cX12_rule 84 = .ok (.aload_n 0, 1) := by decide +kernel
theorem dX12_rule_85 : decode cX12_rule 85 = .ok (.getfield 35, 3) := by decide +kernel
theorem dX12_rule_88 : decode cX12_rule 88 = .ok (.sipush 181, 3) := by decide +kernel
theorem dX12_rule_91 : decode cX12_rule 91 = .ok (.iload_n 2, 1) := by decide +kernel
theorem dX12_rule_92 : decode cX12_rule 92 = .ok (.iadd, 1) := by decide +kernel
theorem dX12_rule_93 : decode cX12_rule 93 = .ok (.aload_n 0, 1) := by decide +kernel
theorem dX12_rule_94 : decode cX12_rule 94 = .ok (.getfield 35, 3) := by decide +kernel
theorem dX12_rule_97 : decode cX12_rule 97 = .ok (.sipush 1641, 3) := by decide +kernel
theorem dX12_rule_100 : decode cX12_rule 100 = .ok (.iload_n 2, 1) := by decide +kernel
theorem dX12_rule_101 : decode cX12_rule 101 = .ok (.iadd, 1) := by decide +kernel
theorem dX12_rule_102 : decode cX12_rule 102 = .ok (.iaload, 1) := by decide +kernel
theorem dX12_rule_103 : decode cX12_rule 103 = .ok (.iastore, 1) := by decide +kernel
theorem dX12_rule_104 : decode cX12_rule 104 = .ok (.iinc 2 1, 3) := by decide +kernel
theorem dX12_rule_107 : decode cX12_rule 107 = .ok (.goto (-34), 3) := by decide +kernel
theorem dX12_rule_110 : decode cX12_rule 110 = .ok (.aload_n 0, 1) := by decide +kernel
theorem dX12_rule_111 : decode cX12_rule 111 = .ok (.getfield 509, 3) := by decide +kernel
theorem dX12_rule_114 : decode cX12_rule 114 = .ok (.ireturn, 1) := by decide +kernel
theorem dX12_search_0 : decode cX12_search 0 = .ok (.iload_n 2, 1) := by decide +kernel
theorem dX12_search_1 : decode cX12_search 1 = .ok (.istore 4, 2) := by decide +kernel
theorem dX12_search_3 : decode cX12_search 3 = .ok (.iconst 0, 1) := by decide +kernel
theorem dX12_search_4 : decode cX12_search 4 = .ok (.istore 5, 2) := by decide +kernel
theorem dX12_search_6 : decode cX12_search 6 = .ok (.iconst 0, 1) := by decide +kernel
theorem dX12_search_7 : decode cX12_search 7 = .ok (.istore 6, 2) := by decide +kernel
theorem dX12_search_9 : decode cX12_search 9 = .ok (.iload 6, 2) := by decide +kernel
theorem dX12_search_11 : decode cX12_search 11 = .ok (.aload_n 0, 1) := by decide +kernel
theorem dX12_search_12 : decode cX12_search 12 = .ok (.getfield 286, 3) := by decide +kernel
theorem dX12_search_15 : decode cX12_search 15 = .ok (.if_icmp .ge 88, 3) := by decide +kernel
theorem dX12_search_18 : decode cX12_search 18 = .ok (.iload 5, 2) := by decide +kernel
theorem dX12_search_20 : decode cX12_search 20 = .ok (.aload_n 0, 1) := by decide +kernel
theorem dX12_search_21 : decode cX12_search 21 = .ok (.getfield 35, 3) := by decide +kernel
theorem dX12_search_24 : decode cX12_search 24 = .ok (.bipush 6, 2) := by decide +kernel
theorem dX12_search_26 : decode cX12_search 26 = .ok (.iaload, 1) := by decide +kernel
theorem dX12_search_27 : decode cX12_search 27 = .ok (.iload 6, 2) := by decide +kernel
theorem dX12_search_29 : decode cX12_search 29 = .ok (.ifCond .ne 7, 3) := by decide +kernel
theorem dX12_search_32 : decode cX12_search 32 = .ok (.iconst 0, 1) := by decide +kernel
theorem dX12_search_33 : decode cX12_search 33 = .ok (.goto 10, 3) := by decide +kernel
theorem dX12_search_36 : decode cX12_search 36 = .ok (.aload_n 0, 1) := by decide +kernel
theorem dX12_search_37 : decode cX12_search 37 = .ok (.getfield 35, 3) := by decide +kernel
theorem dX12_search_40 : decode cX12_search 40 = .ok (.bipush 7, 2) := by decide +kernel
theorem dX12_search_42 : decode cX12_search 42 = .ok (.iaload, 1) := by decide +kernel
theorem dX12_search_43 : decode cX12_search 43 = .ok (.iadd, 1) := by decide +kernel
theorem dX12_search_44 : decode cX12_search 44 = .ok (.iadd, 1) := by decide +kernel
theorem dX12_search_45 : decode cX12_search 45 = .ok (.istore 5, 2) := by decide +kernel
theorem dX12_search_47 : decode cX12_search 47 = .ok (.aload_n 0, 1) := by decide +kernel
theorem dX12_search_48 : decode cX12_search 48 = .ok (.aload_n 0, 1) := by decide +kernel
theorem dX12_search_49 : decode cX12_search 49 = .ok (.getfield 41, 3) := by decide +kernel
theorem dX12_search_52 : decode cX12_search 52 = .ok (.iload 4, 2) := by decide +kernel
theorem dX12_search_54 : decode cX12_search 54 = .ok (.iaload, 1) := by decide +kernel
theorem dX12_search_55 : decode cX12_search 55 = .ok (.iload_n 1, 1) := by decide +kernel
theorem dX12_search_56 : decode cX12_search 56 = .ok (.invokevirtual 345, 3) := by decide +kernel
theorem dX12_search_59 : decode cX12_search 59 = .ok (.ifCond .eq 6, 3) := by decide +kernel
theorem dX12_search_62 : decode cX12_search 62 = .ok (.iload 5, 2) := by decide +kernel
theorem dX12_search_64 : decode cX12_search 64 = .ok (.ireturn, 1) := by decide +kernel
theorem dX12_search_65 : decode cX12_search 65 = .ok (.iload_n 3, 1) := by decide +kernel
theorem dX12_search_66 : decode cX12_search 66 = .ok (.ifCond .ne 15, 3) := by decide +kernel
theorem dX12_search_69 : decode cX12_search 69 = .ok (.iload 4, 2) := by decide +kernel
theorem dX12_search_71 : decode cX12_search 71 = .ok (.iconst 1, 1) := by decide +kernel
theorem dX12_search_72 : decode cX12_search 72 = .ok (.iadd, 1) := by decide +kernel
theorem dX12_search_73 : decode cX12_search 73 = .ok (.aload_n 0, 1) := by decide +kernel
theorem dX12_search_74 : decode cX12_search 74 = .ok (.getfield 286, 3) := by decide +kernel
theorem dX12_search_77 : decode cX12_search 77 = .ok (.irem, 1) := by decide +kernel
theorem dX12_search_78 : decode cX12_search 78 = .ok (.goto 17, 3) := by decide +kernel
theorem dX12_search_81 : decode cX12_search 81 = .ok (.iload 4, 2) := by decide +kernel
theorem dX12_search_83 : decode cX12_search 83 = .ok (.aload_n 0, 1) := by decide +kernel
theorem dX12_search_84 : decode cX12_search 84 = .ok (.getfield 286, 3) := by decide +kernel
theorem dX12_search_87 : decode cX12_search 87 = .ok (.iadd, 1) := by decide +kernel
theorem dX12_search_88 : decode cX12_search 88 = .ok (.iconst 1, 1) := by decide +kernel
theorem dX12_search_89 : decode cX12_search 89 = .ok (.isub, 1) := by decide +kernel
theorem dX12_search_90 : decode cX12_search 90 = .ok (.aload_n 0, 1) := by decide +kernel
theorem dX12_search_91 : decode cX12_search 91 = .ok (.getfield 286, 3) := by decide +kernel
theorem dX12_search_94 : decode cX12_search 94 = .ok (.irem, 1) := by decide +kernel
theorem dX12_search_95 : decode cX12_search 95 = .ok (.istore 4, 2) := by decide +kernel
theorem dX12_search_97 : decode cX12_search 97 = .ok (.iinc 6 1, 3) := by decide +kernel
theorem dX12_search_100 : decode cX12_search 100 = .ok (.goto (-91), 3) := by decide +kernel
theorem dX12_search_103 : decode cX12_search 103 = .ok (.iconst (-1), 1) := by decide +kernel
theorem dX12_search_104 : decode cX12_search 104 = .ok (.ireturn, 1) := by decide +kernel
theorem dX12_searched_0 : decode cX12_searched 0 = .ok (.aload_n 0, 1) := by decide +kernel
theorem dX12_searched_1 : decode cX12_searched 1 = .ok (.iconst 0, 1) := by decide +kernel
theorem dX12_searched_2 : decode cX12_searched 2 = .ok (.putfield 82, 3) := by decide +kernel
theorem dX12_searched_5 : decode cX12_searched 5 = .ok (.aload_n 0, 1) := by decide +kernel
theorem dX12_searched_6 : decode cX12_searched 6 = .ok (.iconst 0, 1) := by decide +kernel
theorem dX12_searched_7 : decode cX12_searched 7 = .ok (.putfield 85, 3) := by decide +kernel
theorem dX12_searched_10 : decode cX12_searched 10 = .ok (.aload_n 0, 1) := by decide +kernel
theorem dX12_searched_11 : decode cX12_searched 11 = .ok (.iload_n 1, 1) := by decide +kernel
theorem dX12_searched_12 : decode cX12_searched 12 = .ok (.invokevirtual 289, 3) := by decide +kernel
theorem dX12_searched_15 : decode cX12_searched 15 = .ok (.ifCond .eq 11, 3) := by decide +kernel
theorem dX12_searched_18 : decode cX12_searched 18 = .ok (.aload_n 0, 1) := by decide +kernel
theorem dX12_searched_19 : decode cX12_searched 19 = .ok (.iload_n 2, 1) := by decide +kernel
theorem dX12_searched_20 : decode cX12_searched 20 = .ok (.invokevirtual 295, 3) := by decide +kernel
theorem dX12_searched_23 : decode cX12_searched 23 = .ok (.ifCond .ne 9, 3) := by decide +kernel
theorem dX12_searched_26 : decode cX12_searched 26 = .ok (.aload_n 0, 1) := by decide +kernel
theorem dX12_searched_27 : decode cX12_searched 27 = .ok (.iconst 2, 1) := by decide +kernel
theorem dX12_searched_28 : decode cX12_searched 28 = .ok (.invokevirtual 269, 3) := by decide +kernel
theorem dX12_searched_31 : decode cX12_searched 31 = .ok (.ireturn, 1) := by decide +kernel
theorem dX12_searched_32 : decode cX12_searched 32 = .ok (.aload_n 0, 1) := by decide +kernel
theorem dX12_searched_33 : decode cX12_searched 33 = .ok (.iload_n 1, 1) := by decide +kernel
theorem dX12_searched_34 : decode cX12_searched 34 = .ok (.invokevirtual 292, 3) := by decide +kernel
theorem dX12_searched_37 : decode cX12_searched 37 = .ok (.iload_n 3, 1) := by decide +kernel
theorem dX12_searched_38 : decode cX12_searched 38 = .ok (.i2l, 1) := by decide +kernel
theorem dX12_searched_39 : decode cX12_searched 39 = .ok (.lconst 0, 1) := by decide +kernel
theorem dX12_searched_40 : decode cX12_searched 40 = .ok (.aload_n 0, 1) := by decide +kernel
theorem dX12_searched_41 : decode cX12_searched 41 = .ok (.getfield 286, 3) := by decide +kernel
theorem dX12_searched_44 : decode cX12_searched 44 = .ok (.iconst 1, 1) := by decide +kernel
theorem dX12_searched_45 : decode cX12_searched 45 = .ok (.isub, 1) := by decide +kernel
theorem dX12_searched_46 : decode cX12_searched 46 = .ok (.i2l, 1) := by decide +kernel
theorem dX12_searched_47 : decode cX12_searched 47 = .ok (.invokestatic 117, 3) := by decide +kernel
theorem dX12_searched_50 : decode cX12_searched 50 = .ok (.ifCond .eq 14, 3) := by decide +kernel
theorem dX12_searched_53 : decode cX12_searched 53 = .ok (.iload 4, 2) := by decide +kernel
theorem dX12_searched_55 : decode cX12_searched 55 = .ok (.i2l, 1) := by decide +kernel
theorem dX12_searched_56 : decode cX12_searched 56 = .ok (.lconst 0, 1) := by decide +kernel
theorem dX12_searched_57 : decode cX12_searched 57 = .ok (.lconst 1, 1) := by decide +kernel
theorem dX12_searched_58 : decode cX12_searched 58 = .ok (.invokestatic 117, 3) := by decide +kernel
theorem dX12_searched_61 : decode cX12_searched 61 = .ok (.ifCond .ne 9, 3) := by decide +kernel
theorem dX12_searched_64 : decode cX12_searched 64 = .ok (.aload_n 0, 1) := by decide +kernel
theorem dX12_searched_65 : decode cX12_searched 65 = .ok (.iconst 5, 1) := by decide +kernel
theorem dX12_searched_66 : decode cX12_searched 66 = .ok (.invokevirtual 269, 3) := by decide +kernel
theorem dX12_searched_69 : decode cX12_searched 69 = .ok (.ireturn, 1) := by decide +kernel
theorem dX12_searched_70 : decode cX12_searched 70 = .ok (.aload_n 0, 1) := by decide +kernel
theorem dX12_searched_71 : decode cX12_searched 71 = .ok (.iload_n 2, 1) := by decide +kernel
theorem dX12_searched_72 : decode cX12_searched 72 = .ok (.iload_n 3, 1) := by decide +kernel
theorem dX12_searched_73 : decode cX12_searched 73 = .ok (.iload 4, 2) := by decide +kernel
theorem dX12_searched_75 : decode cX12_searched 75 = .ok (.invokevirtual 387, 3) := by decide +kernel
theorem dX12_searched_78 : decode cX12_searched 78 = .ok (.istore 5, 2) := by decide +kernel
theorem dX12_searched_80 : decode cX12_searched 80 = .ok (.iload 5, 2) := by decide +kernel
theorem dX12_searched_82 : decode cX12_searched 82 = .ok (.ifCond .ge 12, 3) := by decide +kernel
theorem dX12_searched_85 : decode cX12_searched 85 = .ok (.aload_n 0, 1) := by decide +kernel
theorem dX12_searched_86 : decode cX12_searched 86 = .ok (.bipush 8, 2) := by decide +kernel
theorem dX12_searched_88 : decode cX12_searched 88 = .ok (.invokevirtual 269, 3) := by decide +kernel
theorem dX12_searched_91 : decode cX12_searched 91 = .ok (.goto 5, 3) := by decide +kernel
theorem dX12_searched_94 : decode cX12_searched 94 = .ok (.iload 5, 2) := by decide +kernel
theorem dX12_searched_96 : decode cX12_searched 96 = .ok (.ireturn, 1) := by decide +kernel
theorem dX12_shareOut_0 : decode cX12_shareOut 0 = .ok (.lconst 0, 1) := by decide +kernel
theorem dX12_shareOut_1 : decode cX12_shareOut 1 = .ok (.lstore_n 1, 1) := by decide +kernel
theorem dX12_shareOut_2 : decode cX12_shareOut 2 = .ok (.iconst 0, 1) := by decide +kernel
theorem dX12_shareOut_3 : decode cX12_shareOut 3 = .ok (.istore_n 3, 1) := by decide +kernel
theorem dX12_shareOut_4 : decode cX12_shareOut 4 = .ok (.iconst 0, 1) := by decide +kernel
theorem dX12_shareOut_5 : decode cX12_shareOut 5 = .ok (.istore 4, 2) := by decide +kernel
theorem dX12_shareOut_7 : decode cX12_shareOut 7 = .ok (.iload 4, 2) := by decide +kernel
theorem dX12_shareOut_9 : decode cX12_shareOut 9 = .ok (.iconst 2, 1) := by decide +kernel
theorem dX12_shareOut_10 : decode cX12_shareOut 10 = .ok (.aload_n 0, 1) := by decide +kernel
theorem dX12_shareOut_11 : decode cX12_shareOut 11 = .ok (.getfield 286, 3) := by decide +kernel
theorem dX12_shareOut_14 : decode cX12_shareOut 14 = .ok (.imul, 1) := by decide +kernel
theorem dX12_shareOut_15 : decode cX12_shareOut 15 = .ok (.if_icmp .ge 39, 3) := by decide +kernel
theorem dX12_shareOut_18 : decode cX12_shareOut 18 = .ok (.lload_n 1, 1) := by decide +kernel
theorem dX12_shareOut_19 : decode cX12_shareOut 19 = .ok (.aload_n 0, 1) := by decide +kernel
theorem dX12_shareOut_20 : decode cX12_shareOut 20 = .ok (.getfield 56, 3) := by decide +kernel
theorem dX12_shareOut_23 : decode cX12_shareOut 23 = .ok (.iload 4, 2) := by decide +kernel
theorem dX12_shareOut_25 : decode cX12_shareOut 25 = .ok (.laload, 1) := by decide +kernel
theorem dX12_shareOut_26 : decode cX12_shareOut 26 = .ok (.ladd, 1) := by decide +kernel
theorem dX12_shareOut_27 : decode cX12_shareOut 27 = .ok (.lstore_n 1, 1) := by decide +kernel
theorem dX12_shareOut_28 : decode cX12_shareOut 28 = .ok (.aload_n 0, 1) := by decide +kernel
theorem dX12_shareOut_29 : decode cX12_shareOut 29 = .ok (.getfield 56, 3) := by decide +kernel
theorem dX12_shareOut_32 : decode cX12_shareOut 32 = .ok (.iload 4, 2) := by decide +kernel
theorem dX12_shareOut_34 : decode cX12_shareOut 34 = .ok (.laload, 1) := by decide +kernel
theorem dX12_shareOut_35 : decode cX12_shareOut 35 = .ok (.aload_n 0, 1) := by decide +kernel
theorem dX12_shareOut_36 : decode cX12_shareOut 36 = .ok (.getfield 56, 3) := by decide +kernel
theorem dX12_shareOut_39 : decode cX12_shareOut 39 = .ok (.iload_n 3, 1) := by decide +kernel
theorem dX12_shareOut_40 : decode cX12_shareOut 40 = .ok (.laload, 1) := by decide +kernel
theorem dX12_shareOut_41 : decode cX12_shareOut 41 = .ok (.lcmp, 1) := by decide +kernel
theorem dX12_shareOut_42 : decode cX12_shareOut 42 = .ok (.ifCond .le 6, 3) := by decide +kernel
theorem dX12_shareOut_45 : decode cX12_shareOut 45 = .ok (.iload 4, 2) := by decide +kernel
theorem dX12_shareOut_47 : decode cX12_shareOut 47 = .ok (.istore_n 3, 1) := by decide +kernel
theorem dX12_shareOut_48 : decode cX12_shareOut 48 = .ok (.iinc 4 1, 3) := by decide +kernel
theorem dX12_shareOut_51 : decode cX12_shareOut 51 = .ok (.goto (-44), 3) := by decide +kernel
theorem dX12_shareOut_54 : decode cX12_shareOut 54 = .ok (.lload_n 1, 1) := by decide +kernel
theorem dX12_shareOut_55 : decode cX12_shareOut 55 = .ok (.lconst 0, 1) := by decide +kernel
theorem dX12_shareOut_56 : decode cX12_shareOut 56 = .ok (.lcmp, 1) := by decide +kernel
theorem dX12_shareOut_57 : decode cX12_shareOut 57 = .ok (.ifCond .ne 5, 3) := by decide +kernel
theorem dX12_shareOut_60 : decode cX12_shareOut 60 = .ok (.iconst 0, 1) := by decide +kernel
theorem dX12_shareOut_61 : decode cX12_shareOut 61 = .ok (.ireturn, 1) := by decide +kernel
theorem dX12_shareOut_62 : decode cX12_shareOut 62 = .ok (.ldc2_w 315, 3) := by decide +kernel
theorem dX12_shareOut_65 : decode cX12_shareOut 65 = .ok (.lstore 4, 2) := by decide +kernel
theorem dX12_shareOut_67 : decode cX12_shareOut 67 = .ok (.iconst 0, 1) := by decide +kernel
theorem dX12_shareOut_68 : decode cX12_shareOut 68 = .ok (.istore 6, 2) := by decide +kernel
theorem dX12_shareOut_70 : decode cX12_shareOut 70 = .ok (.iload 6, 2) := by decide +kernel
theorem dX12_shareOut_72 : decode cX12_shareOut 72 = .ok (.iconst 2, 1) := by decide +kernel
theorem dX12_shareOut_73 : decode cX12_shareOut 73 = .ok (.aload_n 0, 1) := by decide +kernel
theorem dX12_shareOut_74 : decode cX12_shareOut 74 = .ok (.getfield 286, 3) := by decide +kernel
theorem dX12_shareOut_77 : decode cX12_shareOut 77 = .ok (.imul, 1) := by decide +kernel
theorem dX12_shareOut_78 : decode cX12_shareOut 78 = .ok (.if_icmp .ge 51, 3) := by decide +kernel
theorem dX12_shareOut_81 : decode cX12_shareOut 81 = .ok (.aload_n 0, 1) := by decide +kernel
theorem dX12_shareOut_82 : decode cX12_shareOut 82 = .ok (.getfield 35, 3) := by decide +kernel
theorem dX12_shareOut_85 : decode cX12_shareOut 85 = .ok (.sipush 160, 3) := by decide +kernel
theorem dX12_shareOut_88 : decode cX12_shareOut 88 = .ok (.iload 6, 2) := by decide +kernel
theorem dX12_shareOut_90 : decode cX12_shareOut 90 = .ok (.iadd, 1) := by decide +kernel
theorem dX12_shareOut_91 : decode cX12_shareOut 91 = .ok (.aload_n 0, 1) := by decide +kernel
theorem dX12_shareOut_92 : decode cX12_shareOut 92 = .ok (.getfield 56, 3) := by decide +kernel
theorem dX12_shareOut_95 : decode cX12_shareOut 95 = .ok (.iload 6, 2) := by decide +kernel
theorem dX12_shareOut_97 : decode cX12_shareOut 97 = .ok (.laload, 1) := by decide +kernel
theorem dX12_shareOut_98 : decode cX12_shareOut 98 = .ok (.ldc2_w 315, 3) := by decide +kernel
theorem dX12_shareOut_101 : decode cX12_shareOut 101 = .ok (.lmul, 1) := by decide +kernel
theorem dX12_shareOut_102 : decode cX12_shareOut 102 = .ok (.lload_n 1, 1) := by decide +kernel
theorem dX12_shareOut_103 : decode cX12_shareOut 103 = .ok (.ldiv, 1) := by decide +kernel
theorem dX12_shareOut_104 : decode cX12_shareOut 104 = .ok (.l2i, 1) := by decide +kernel
theorem dX12_shareOut_105 : decode cX12_shareOut 105 = .ok (.iastore, 1) := by decide +kernel
theorem dX12_shareOut_106 : decode cX12_shareOut 106 = .ok (.lload 4, 2) := by decide +kernel
theorem dX12_shareOut_108 : decode cX12_shareOut 108 = .ok (.aload_n 0, 1) := by decide +kernel
theorem dX12_shareOut_109 : decode cX12_shareOut 109 = .ok (.getfield 35, 3) := by decide +kernel
theorem dX12_shareOut_112 : decode cX12_shareOut 112 = .ok (.sipush 160, 3) := by decide +kernel
theorem dX12_shareOut_115 : decode cX12_shareOut 115 = .ok (.iload 6, 2) := by decide +kernel
theorem dX12_shareOut_117 : decode cX12_shareOut 117 = .ok (.iadd, 1) := by decide +kernel
theorem dX12_shareOut_118 : decode cX12_shareOut 118 = .ok (.iaload, 1) := by decide +kernel
theorem dX12_shareOut_119 : decode cX12_shareOut 119 = .ok (.i2l, 1) := by decide +kernel
theorem dX12_shareOut_120 : decode cX12_shareOut 120 = .ok (.lsub, 1) := by decide +kernel
theorem dX12_shareOut_121 : decode cX12_shareOut 121 = .ok (.lstore 4, 2) := by decide +kernel
theorem dX12_shareOut_123 : decode cX12_shareOut 123 = .ok (.iinc 6 1, 3) := by decide +kernel
theorem dX12_shareOut_126 : decode cX12_shareOut 126 = .ok (.goto (-56), 3) := by decide +kernel
theorem dX12_shareOut_129 : decode cX12_shareOut 129 = .ok (.aload_n 0, 1) := by decide +kernel
theorem dX12_shareOut_130 : decode cX12_shareOut 130 = .ok (.getfield 35, 3) := by decide +kernel
theorem dX12_shareOut_133 : decode cX12_shareOut 133 = .ok (.sipush 160, 3) := by decide +kernel
theorem dX12_shareOut_136 : decode cX12_shareOut 136 = .ok (.iload_n 3, 1) := by decide +kernel
theorem dX12_shareOut_137 : decode cX12_shareOut 137 = .ok (.iadd, 1) := by decide +kernel
theorem dX12_shareOut_138 : decode cX12_shareOut 138 = .ok (.dup2, 1) := by decide +kernel
theorem dX12_shareOut_139 : decode cX12_shareOut 139 = .ok (.iaload, 1) := by decide +kernel
theorem dX12_shareOut_140 : decode cX12_shareOut 140 = .ok (.lload 4, 2) := by decide +kernel
theorem dX12_shareOut_142 : decode cX12_shareOut 142 = .ok (.l2i, 1) := by decide +kernel
theorem dX12_shareOut_143 : decode cX12_shareOut 143 = .ok (.iadd, 1) := by decide +kernel
theorem dX12_shareOut_144 : decode cX12_shareOut 144 = .ok (.iastore, 1) := by decide +kernel
theorem dX12_shareOut_145 : decode cX12_shareOut 145 = .ok (.iconst 1, 1) := by decide +kernel
theorem dX12_shareOut_146 : decode cX12_shareOut 146 = .ok (.ireturn, 1) := by decide +kernel
theorem dX12_soon_0 : decode cX12_soon 0 = .ok (.aload_n 0, 1) := by decide +kernel
theorem dX12_soon_1 : decode cX12_soon 1 = .ok (.iconst 0, 1) := by decide +kernel
theorem dX12_soon_2 : decode cX12_soon 2 = .ok (.putfield 82, 3) := by decide +kernel
theorem dX12_soon_5 : decode cX12_soon 5 = .ok (.aload_n 0, 1) := by decide +kernel
theorem dX12_soon_6 : decode cX12_soon 6 = .ok (.iconst 0, 1) := by decide +kernel
theorem dX12_soon_7 : decode cX12_soon 7 = .ok (.putfield 85, 3) := by decide +kernel
theorem dX12_soon_10 : decode cX12_soon 10 = .ok (.aload_n 0, 1) := by decide +kernel
theorem dX12_soon_11 : decode cX12_soon 11 = .ok (.iload_n 1, 1) := by decide +kernel
theorem dX12_soon_12 : decode cX12_soon 12 = .ok (.i2l, 1) := by decide +kernel
theorem dX12_soon_13 : decode cX12_soon 13 = .ok (.invokevirtual 275, 3) := by decide +kernel
theorem dX12_soon_16 : decode cX12_soon 16 = .ok (.ifCond .eq 11, 3) := by decide +kernel
theorem dX12_soon_19 : decode cX12_soon 19 = .ok (.aload_n 0, 1) := by decide +kernel
theorem dX12_soon_20 : decode cX12_soon 20 = .ok (.iload_n 2, 1) := by decide +kernel
theorem dX12_soon_21 : decode cX12_soon 21 = .ok (.invokevirtual 295, 3) := by decide +kernel
theorem dX12_soon_24 : decode cX12_soon 24 = .ok (.ifCond .ne 9, 3) := by decide +kernel
theorem dX12_soon_27 : decode cX12_soon 27 = .ok (.aload_n 0, 1) := by decide +kernel
theorem dX12_soon_28 : decode cX12_soon 28 = .ok (.iconst 2, 1) := by decide +kernel
theorem dX12_soon_29 : decode cX12_soon 29 = .ok (.invokevirtual 269, 3) := by decide +kernel
theorem dX12_soon_32 : decode cX12_soon 32 = .ok (.ireturn, 1) := by decide +kernel
theorem dX12_soon_33 : decode cX12_soon 33 = .ok (.iload_n 3, 1) := by decide +kernel
theorem dX12_soon_34 : decode cX12_soon 34 = .ok (.i2l, 1) := by decide +kernel
theorem dX12_soon_35 : decode cX12_soon 35 = .ok (.lconst 0, 1) := by decide +kernel
theorem dX12_soon_36 : decode cX12_soon 36 = .ok (.ldc2_w 360, 3) := by decide +kernel
theorem dX12_soon_39 : decode cX12_soon 39 = .ok (.invokestatic 117, 3) := by decide +kernel
theorem dX12_soon_42 : decode cX12_soon 42 = .ok (.ifCond .eq 16, 3) := by decide +kernel
theorem dX12_soon_45 : decode cX12_soon 45 = .ok (.iload 4, 2) := by decide +kernel
theorem dX12_soon_47 : decode cX12_soon 47 = .ok (.i2l, 1) := by decide +kernel
theorem dX12_soon_48 : decode cX12_soon 48 = .ok (.lconst 1, 1) := by decide +kernel
theorem dX12_soon_49 : decode cX12_soon 49 = .ok (.ldc2_w 360, 3) := by decide +kernel
theorem dX12_soon_52 : decode cX12_soon 52 = .ok (.invokestatic 117, 3) := by decide +kernel
theorem dX12_soon_55 : decode cX12_soon 55 = .ok (.ifCond .ne 9, 3) := by decide +kernel
theorem dX12_soon_58 : decode cX12_soon 58 = .ok (.aload_n 0, 1) := by decide +kernel
theorem dX12_soon_59 : decode cX12_soon 59 = .ok (.iconst 5, 1) := by decide +kernel
theorem dX12_soon_60 : decode cX12_soon 60 = .ok (.invokevirtual 269, 3) := by decide +kernel
theorem dX12_soon_63 : decode cX12_soon 63 = .ok (.ireturn, 1) := by decide +kernel
theorem dX12_soon_64 : decode cX12_soon 64 = .ok (.aload_n 0, 1) := by decide +kernel
theorem dX12_soon_65 : decode cX12_soon 65 = .ok (.iload_n 1, 1) := by decide +kernel
theorem dX12_soon_66 : decode cX12_soon 66 = .ok (.iload_n 2, 1) := by decide +kernel
theorem dX12_soon_67 : decode cX12_soon 67 = .ok (.invokevirtual 479, 3) := by decide +kernel
theorem dX12_soon_70 : decode cX12_soon 70 = .ok (.ifCond .ne 10, 3) := by decide +kernel
theorem dX12_soon_73 : decode cX12_soon 73 = .ok (.aload_n 0, 1) := by decide +kernel
theorem dX12_soon_74 : decode cX12_soon 74 = .ok (.bipush 9, 2) := by decide +kernel
theorem dX12_soon_76 : decode cX12_soon 76 = .ok (.invokevirtual 269, 3) := by decide +kernel
theorem dX12_soon_79 : decode cX12_soon 79 = .ok (.ireturn, 1) := by decide +kernel
theorem dX12_soon_80 : decode cX12_soon 80 = .ok (.iload_n 3, 1) := by decide +kernel
theorem dX12_soon_81 : decode cX12_soon 81 = .ok (.ifCond .ne 10, 3) := by decide +kernel
theorem dX12_soon_84 : decode cX12_soon 84 = .ok (.aload_n 0, 1) := by decide +kernel
theorem dX12_soon_85 : decode cX12_soon 85 = .ok (.bipush 8, 2) := by decide +kernel
theorem dX12_soon_87 : decode cX12_soon 87 = .ok (.invokevirtual 269, 3) := by decide +kernel
theorem dX12_soon_90 : decode cX12_soon 90 = .ok (.ireturn, 1) := by decide +kernel
theorem dX12_soon_91 : decode cX12_soon 91 = .ok (.aload_n 0, 1) := by decide +kernel
theorem dX12_soon_92 : decode cX12_soon 92 = .ok (.getfield 286, 3) := by decide +kernel
theorem dX12_soon_95 : decode cX12_soon 95 = .ok (.istore 5, 2) := by decide +kernel
theorem dX12_soon_97 : decode cX12_soon 97 = .ok (.iconst 0, 1) := by decide +kernel
theorem dX12_soon_98 : decode cX12_soon 98 = .ok (.istore 6, 2) := by decide +kernel
theorem dX12_soon_100 : decode cX12_soon 100 = .ok (.iload 6, 2) := by decide +kernel
theorem dX12_soon_102 : decode cX12_soon 102 = .ok (.iload 5, 2) := by decide +kernel
theorem dX12_soon_104 : decode cX12_soon 104 = .ok (.if_icmp .ge 48, 3) := by decide +kernel
theorem dX12_soon_107 : decode cX12_soon 107 = .ok (.ldc2_w 360, 3) := by decide +kernel
theorem dX12_soon_110 : decode cX12_soon 110 = .ok (.iload_n 3, 1) := by decide +kernel
theorem dX12_soon_111 : decode cX12_soon 111 = .ok (.i2l, 1) := by decide +kernel
theorem dX12_soon_112 : decode cX12_soon 112 = .ok (.lmul, 1) := by decide +kernel
theorem dX12_soon_113 : decode cX12_soon 113 = .ok (.iload 5, 2) := by decide +kernel
theorem dX12_soon_115 : decode cX12_soon 115 = .ok (.i2l, 1) := by decide +kernel
theorem dX12_soon_116 : decode cX12_soon 116 = .ok (.lmul, 1) := by decide +kernel
theorem dX12_soon_117 : decode cX12_soon 117 = .ok (.iload 4, 2) := by decide +kernel
theorem dX12_soon_119 : decode cX12_soon 119 = .ok (.i2l, 1) := by decide +kernel
theorem dX12_soon_120 : decode cX12_soon 120 = .ok (.iload_n 3, 1) := by decide +kernel
theorem dX12_soon_121 : decode cX12_soon 121 = .ok (.i2l, 1) := by decide +kernel
theorem dX12_soon_122 : decode cX12_soon 122 = .ok (.iload 5, 2) := by decide +kernel
theorem dX12_soon_124 : decode cX12_soon 124 = .ok (.i2l, 1) := by decide +kernel
theorem dX12_soon_125 : decode cX12_soon 125 = .ok (.lmul, 1) := by decide +kernel
theorem dX12_soon_126 : decode cX12_soon 126 = .ok (.bipush 16, 2) := by decide +kernel
theorem dX12_soon_128 : decode cX12_soon 128 = .ok (.iload_n 3, 1) := by decide +kernel
theorem dX12_soon_129 : decode cX12_soon 129 = .ok (.isub, 1) := by decide +kernel
theorem dX12_soon_130 : decode cX12_soon 130 = .ok (.iload 5, 2) := by decide +kernel
theorem dX12_soon_132 : decode cX12_soon 132 = .ok (.iload 6, 2) := by decide +kernel
theorem dX12_soon_134 : decode cX12_soon 134 = .ok (.isub, 1) := by decide +kernel
theorem dX12_soon_135 : decode cX12_soon 135 = .ok (.imul, 1) := by decide +kernel
theorem dX12_soon_136 : decode cX12_soon 136 = .ok (.i2l, 1) := by decide +kernel
theorem dX12_soon_137 : decode cX12_soon 137 = .ok (.ladd, 1) := by decide +kernel
theorem dX12_soon_138 : decode cX12_soon 138 = .ok (.lmul, 1) := by decide +kernel
theorem dX12_soon_139 : decode cX12_soon 139 = .ok (.lcmp, 1) := by decide +kernel
theorem dX12_soon_140 : decode cX12_soon 140 = .ok (.ifCond .lt 6, 3) := by decide +kernel
theorem dX12_soon_143 : decode cX12_soon 143 = .ok (.iload 6, 2) := by decide +kernel
theorem dX12_soon_145 : decode cX12_soon 145 = .ok (.ireturn, 1) := by decide +kernel
theorem dX12_soon_146 : decode cX12_soon 146 = .ok (.iinc 6 1, 3) := by decide +kernel
theorem dX12_soon_149 : decode cX12_soon 149 = .ok (.goto (-49), 3) := by decide +kernel
theorem dX12_soon_152 : decode cX12_soon 152 = .ok (.iload 5, 2) := by decide +kernel
theorem dX12_soon_154 : decode cX12_soon 154 = .ok (.ireturn, 1) := by decide +kernel
theorem dX12_spelled_0 : decode cX12_spelled 0 = .ok (.iload_n 0, 1) := by decide +kernel
theorem dX12_spelled_1 : decode cX12_spelled 1 = .ok (.i2l, 1) := by decide +kernel
theorem dX12_spelled_2 : decode cX12_spelled 2 = .ok (.ldc2_w 144, 3) := by decide +kernel
theorem dX12_spelled_5 : decode cX12_spelled 5 = .ok (.lsub, 1) := by decide +kernel
theorem dX12_spelled_6 : decode cX12_spelled 6 = .ok (.ldc2_w 142, 3) := by decide +kernel
theorem dX12_spelled_9 : decode cX12_spelled 9 = .ok (.lmul, 1) := by decide +kernel
theorem dX12_spelled_10 : decode cX12_spelled 10 = .ok (.iload_n 1, 1) := by decide +kernel
theorem dX12_spelled_11 : decode cX12_spelled 11 = .ok (.i2l, 1) := by decide +kernel
theorem dX12_spelled_12 : decode cX12_spelled 12 = .ok (.ladd, 1) := by decide +kernel
theorem dX12_spelled_13 : decode cX12_spelled 13 = .ok (.ldc2_w 144, 3) := by decide +kernel
theorem dX12_spelled_16 : decode cX12_spelled 16 = .ok (.lsub, 1) := by decide +kernel
theorem dX12_spelled_17 : decode cX12_spelled 17 = .ok (.lstore 6, 2) := by decide +kernel
theorem dX12_spelled_19 : decode cX12_spelled 19 = .ok (.iload_n 2, 1) := by decide +kernel
theorem dX12_spelled_20 : decode cX12_spelled 20 = .ok (.ifCond .le 19, 3) := by decide +kernel
theorem dX12_spelled_23 : decode cX12_spelled 23 = .ok (.lload 6, 2) := by decide +kernel
theorem dX12_spelled_25 : decode cX12_spelled 25 = .ok (.ldc2_w 142, 3) := by decide +kernel
theorem dX12_spelled_28 : decode cX12_spelled 28 = .ok (.lmul, 1) := by decide +kernel
theorem dX12_spelled_29 : decode cX12_spelled 29 = .ok (.iload_n 2, 1) := by decide +kernel
theorem dX12_spelled_30 : decode cX12_spelled 30 = .ok (.i2l, 1) := by decide +kernel
theorem dX12_spelled_31 : decode cX12_spelled 31 = .ok (.ladd, 1) := by decide +kernel
theorem dX12_spelled_32 : decode cX12_spelled 32 = .ok (.ldc2_w 144, 3) := by decide +kernel
theorem dX12_spelled_35 : decode cX12_spelled 35 = .ok (.lsub, 1) := by decide +kernel
theorem dX12_spelled_36 : decode cX12_spelled 36 = .ok (.goto 5, 3) := by decide +kernel
theorem dX12_spelled_39 : decode cX12_spelled 39 = .ok (.lload 6, 2) := by decide +kernel
theorem dX12_spelled_41 : decode cX12_spelled 41 = .ok (.lstore 6, 2) := by decide +kernel
theorem dX12_spelled_43 : decode cX12_spelled 43 = .ok (.iload_n 3, 1) := by decide +kernel
theorem dX12_spelled_44 : decode cX12_spelled 44 = .ok (.ifCond .le 19, 3) := by decide +kernel
theorem dX12_spelled_47 : decode cX12_spelled 47 = .ok (.lload 6, 2) := by decide +kernel
theorem dX12_spelled_49 : decode cX12_spelled 49 = .ok (.ldc2_w 142, 3) := by decide +kernel
theorem dX12_spelled_52 : decode cX12_spelled 52 = .ok (.lmul, 1) := by decide +kernel
theorem dX12_spelled_53 : decode cX12_spelled 53 = .ok (.iload_n 3, 1) := by decide +kernel
theorem dX12_spelled_54 : decode cX12_spelled 54 = .ok (.i2l, 1) := by decide +kernel
theorem dX12_spelled_55 : decode cX12_spelled 55 = .ok (.ladd, 1) := by decide +kernel
theorem dX12_spelled_56 : decode cX12_spelled 56 = .ok (.ldc2_w 144, 3) := by decide +kernel
theorem dX12_spelled_59 : decode cX12_spelled 59 = .ok (.lsub, 1) := by decide +kernel
theorem dX12_spelled_60 : decode cX12_spelled 60 = .ok (.goto 5, 3) := by decide +kernel
theorem dX12_spelled_63 : decode cX12_spelled 63 = .ok (.lload 6, 2) := by decide +kernel
theorem dX12_spelled_65 : decode cX12_spelled 65 = .ok (.lstore 6, 2) := by decide +kernel
theorem dX12_spelled_67 : decode cX12_spelled 67 = .ok (.iload 4, 2) := by decide +kernel
theorem dX12_spelled_69 : decode cX12_spelled 69 = .ok (.ifCond .le 20, 3) := by decide +kernel
theorem dX12_spelled_72 : decode cX12_spelled 72 = .ok (.lload 6, 2) := by decide +kernel
theorem dX12_spelled_74 : decode cX12_spelled 74 = .ok (.ldc2_w 142, 3) := by decide +kernel
theorem dX12_spelled_77 : decode cX12_spelled 77 = .ok (.lmul, 1) := by decide +kernel
theorem dX12_spelled_78 : decode cX12_spelled 78 = .ok (.iload 4, 2) := by decide +kernel
theorem dX12_spelled_80 : decode cX12_spelled 80 = .ok (.i2l, 1) := by decide +kernel
theorem dX12_spelled_81 : decode cX12_spelled 81 = .ok (.ladd, 1) := by decide +kernel
theorem dX12_spelled_82 : decode cX12_spelled 82 = .ok (.ldc2_w 144, 3) := by decide +kernel
theorem dX12_spelled_85 : decode cX12_spelled 85 = .ok (.lsub, 1) := by decide +kernel
theorem dX12_spelled_86 : decode cX12_spelled 86 = .ok (.goto 5, 3) := by decide +kernel
theorem dX12_spelled_89 : decode cX12_spelled 89 = .ok (.lload 6, 2) := by decide +kernel
theorem dX12_spelled_91 : decode cX12_spelled 91 = .ok (.lstore 6, 2) := by decide +kernel
theorem dX12_spelled_93 : decode cX12_spelled 93 = .ok (.iload 5, 2) := by decide +kernel
theorem dX12_spelled_95 : decode cX12_spelled 95 = .ok (.ifCond .le 20, 3) := by decide +kernel
theorem dX12_spelled_98 : decode cX12_spelled 98 = .ok (.lload 6, 2) := by decide +kernel
theorem dX12_spelled_100 : decode cX12_spelled 100 = .ok (.ldc2_w 142, 3) := by decide +kernel
theorem dX12_spelled_103 : decode cX12_spelled 103 = .ok (.lmul, 1) := by decide +kernel
theorem dX12_spelled_104 : decode cX12_spelled 104 = .ok (.iload 5, 2) := by decide +kernel
theorem dX12_spelled_106 : decode cX12_spelled 106 = .ok (.i2l, 1) := by decide +kernel
theorem dX12_spelled_107 : decode cX12_spelled 107 = .ok (.ladd, 1) := by decide +kernel
theorem dX12_spelled_108 : decode cX12_spelled 108 = .ok (.ldc2_w 144, 3) := by decide +kernel
theorem dX12_spelled_111 : decode cX12_spelled 111 = .ok (.lsub, 1) := by decide +kernel
theorem dX12_spelled_112 : decode cX12_spelled 112 = .ok (.goto 5, 3) := by decide +kernel
theorem dX12_spelled_115 : decode cX12_spelled 115 = .ok (.lload 6, 2) := by decide +kernel
theorem dX12_spelled_117 : decode cX12_spelled 117 = .ok (.lreturn, 1) := by decide +kernel
theorem dX12_status_0 : decode cX12_status 0 = .ok (.aload_n 0, 1) := by decide +kernel
theorem dX12_status_1 : decode cX12_status 1 = .ok (.iconst 0, 1) := by decide +kernel
theorem dX12_status_2 : decode cX12_status 2 = .ok (.putfield 82, 3) := by decide +kernel
theorem dX12_status_5 : decode cX12_status 5 = .ok (.aload_n 0, 1) := by decide +kernel
theorem dX12_status_6 : decode cX12_status 6 = .ok (.getfield 85, 3) := by decide +kernel
theorem dX12_status_9 : decode cX12_status 9 = .ok (.ireturn, 1) := by decide +kernel
theorem dX12_stepAs_0 : decode cX12_stepAs 0 = .ok (.aload_n 0, 1) := by decide +kernel
theorem dX12_stepAs_1 : decode cX12_stepAs 1 = .ok (.getfield 35, 3) := by decide +kernel
theorem dX12_stepAs_4 : decode cX12_stepAs 4 = .ok (.bipush 65, 2) := by decide +kernel
theorem dX12_stepAs_6 : decode cX12_stepAs 6 = .ok (.iconst 3, 1) := by decide +kernel
theorem dX12_stepAs_7 : decode cX12_stepAs 7 = .ok (.iload_n 1, 1) := by decide +kernel
theorem dX12_stepAs_8 : decode cX12_stepAs 8 = .ok (.imul, 1) := by decide +kernel
theorem dX12_stepAs_9 : decode cX12_stepAs 9 = .ok (.iadd, 1) := by decide +kernel
theorem dX12_stepAs_10 : decode cX12_stepAs 10 = .ok (.iload_n 2, 1) := by decide +kernel
theorem dX12_stepAs_11 : decode cX12_stepAs 11 = .ok (.iadd, 1) := by decide +kernel
theorem dX12_stepAs_12 : decode cX12_stepAs 12 = .ok (.iaload, 1) := by decide +kernel
theorem dX12_stepAs_13 : decode cX12_stepAs 13 = .ok (.istore 4, 2) := by decide +kernel
theorem dX12_stepAs_15 : decode cX12_stepAs 15 = .ok (.iload_n 3, 1) := by decide +kernel
theorem dX12_stepAs_16 : decode cX12_stepAs 16 = .ok (.iconst 1, 1) := by decide +kernel
theorem dX12_stepAs_17 : decode cX12_stepAs 17 = .ok (.if_icmp .ne 33, 3) := by decide +kernel
theorem dX12_stepAs_20 : decode cX12_stepAs 20 = .ok (.aload_n 0, 1) := by decide +kernel
theorem dX12_stepAs_21 : decode cX12_stepAs 21 = .ok (.getfield 35, 3) := by decide +kernel
theorem dX12_stepAs_24 : decode cX12_stepAs 24 = .ok (.bipush 14, 2) := by decide +kernel
theorem dX12_stepAs_26 : decode cX12_stepAs 26 = .ok (.iload_n 2, 1) := by decide +kernel
theorem dX12_stepAs_27 : decode cX12_stepAs 27 = .ok (.iadd, 1) := by decide +kernel
theorem dX12_stepAs_28 : decode cX12_stepAs 28 = .ok (.iaload, 1) := by decide +kernel
theorem dX12_stepAs_29 : decode cX12_stepAs 29 = .ok (.iconst 1, 1) := by decide +kernel
theorem dX12_stepAs_30 : decode cX12_stepAs 30 = .ok (.if_icmp .ne 20, 3) := by decide +kernel
theorem dX12_stepAs_33 : decode cX12_stepAs 33 = .ok (.aload_n 0, 1) := by decide +kernel
theorem dX12_stepAs_34 : decode cX12_stepAs 34 = .ok (.getfield 35, 3) := by decide +kernel
theorem dX12_stepAs_37 : decode cX12_stepAs 37 = .ok (.bipush 11, 2) := by decide +kernel
theorem dX12_stepAs_39 : decode cX12_stepAs 39 = .ok (.iload_n 2, 1) := by decide +kernel
theorem dX12_stepAs_40 : decode cX12_stepAs 40 = .ok (.iadd, 1) := by decide +kernel
theorem dX12_stepAs_41 : decode cX12_stepAs 41 = .ok (.iaload, 1) := by decide +kernel
theorem dX12_stepAs_42 : decode cX12_stepAs 42 = .ok (.iconst 1, 1) := by decide +kernel
theorem dX12_stepAs_43 : decode cX12_stepAs 43 = .ok (.isub, 1) := by decide +kernel
theorem dX12_stepAs_44 : decode cX12_stepAs 44 = .ok (.iload 4, 2) := by decide +kernel
theorem dX12_stepAs_46 : decode cX12_stepAs 46 = .ok (.isub, 1) := by decide +kernel
theorem dX12_stepAs_47 : decode cX12_stepAs 47 = .ok (.goto 5, 3) := by decide +kernel
theorem dX12_stepAs_50 : decode cX12_stepAs 50 = .ok (.iload 4, 2) := by decide +kernel
theorem dX12_stepAs_52 : decode cX12_stepAs 52 = .ok (.ireturn, 1) := by decide +kernel
theorem dX12_stepOf_0 : decode cX12_stepOf 0 = .ok (.aload_n 0, 1) := by decide +kernel
theorem dX12_stepOf_1 : decode cX12_stepOf 1 = .ok (.iconst 0, 1) := by decide +kernel
theorem dX12_stepOf_2 : decode cX12_stepOf 2 = .ok (.putfield 82, 3) := by decide +kernel
theorem dX12_stepOf_5 : decode cX12_stepOf 5 = .ok (.aload_n 0, 1) := by decide +kernel
theorem dX12_stepOf_6 : decode cX12_stepOf 6 = .ok (.iconst 0, 1) := by decide +kernel
theorem dX12_stepOf_7 : decode cX12_stepOf 7 = .ok (.putfield 85, 3) := by decide +kernel
theorem dX12_stepOf_10 : decode cX12_stepOf 10 = .ok (.aload_n 0, 1) := by decide +kernel
theorem dX12_stepOf_11 : decode cX12_stepOf 11 = .ok (.iload_n 1, 1) := by decide +kernel
theorem dX12_stepOf_12 : decode cX12_stepOf 12 = .ok (.i2l, 1) := by decide +kernel
theorem dX12_stepOf_13 : decode cX12_stepOf 13 = .ok (.invokevirtual 275, 3) := by decide +kernel
theorem dX12_stepOf_16 : decode cX12_stepOf 16 = .ok (.ifCond .eq 27, 3) := by decide +kernel
theorem dX12_stepOf_19 : decode cX12_stepOf 19 = .ok (.aload_n 0, 1) := by decide +kernel
theorem dX12_stepOf_20 : decode cX12_stepOf 20 = .ok (.iload_n 2, 1) := by decide +kernel
theorem dX12_stepOf_21 : decode cX12_stepOf 21 = .ok (.invokevirtual 264, 3) := by decide +kernel
theorem dX12_stepOf_24 : decode cX12_stepOf 24 = .ok (.ifCond .eq 19, 3) := by decide +kernel
theorem dX12_stepOf_27 : decode cX12_stepOf 27 = .ok (.aload_n 0, 1) := by decide +kernel
theorem dX12_stepOf_28 : decode cX12_stepOf 28 = .ok (.getfield 35, 3) := by decide +kernel
theorem dX12_stepOf_31 : decode cX12_stepOf 31 = .ok (.bipush 65, 2) := by decide +kernel
theorem dX12_stepOf_33 : decode cX12_stepOf 33 = .ok (.iconst 3, 1) := by decide +kernel
theorem dX12_stepOf_34 : decode cX12_stepOf 34 = .ok (.iload_n 1, 1) := by decide +kernel
theorem dX12_stepOf_35 : decode cX12_stepOf 35 = .ok (.imul, 1) := by decide +kernel
theorem dX12_stepOf_36 : decode cX12_stepOf 36 = .ok (.iadd, 1) := by decide +kernel
theorem dX12_stepOf_37 : decode cX12_stepOf 37 = .ok (.iload_n 2, 1) := by decide +kernel
theorem dX12_stepOf_38 : decode cX12_stepOf 38 = .ok (.iadd, 1) := by decide +kernel
theorem dX12_stepOf_39 : decode cX12_stepOf 39 = .ok (.iaload, 1) := by decide +kernel
theorem dX12_stepOf_40 : decode cX12_stepOf 40 = .ok (.goto 8, 3) := by decide +kernel
theorem dX12_stepOf_43 : decode cX12_stepOf 43 = .ok (.aload_n 0, 1) := by decide +kernel
theorem dX12_stepOf_44 : decode cX12_stepOf 44 = .ok (.iconst 2, 1) := by decide +kernel
theorem dX12_stepOf_45 : decode cX12_stepOf 45 = .ok (.invokevirtual 269, 3) := by decide +kernel
theorem dX12_stepOf_48 : decode cX12_stepOf 48 = .ok (.ireturn, 1) := by decide +kernel
theorem dX12_take_0 : decode cX12_take 0 = .ok (.aload_n 0, 1) := by decide +kernel
theorem dX12_take_1 : decode cX12_take 1 = .ok (.iconst 0, 1) := by decide +kernel
theorem dX12_take_2 : decode cX12_take 2 = .ok (.putfield 82, 3) := by decide +kernel
theorem dX12_take_5 : decode cX12_take 5 = .ok (.aload_n 0, 1) := by decide +kernel
theorem dX12_take_6 : decode cX12_take 6 = .ok (.iconst 0, 1) := by decide +kernel
theorem dX12_take_7 : decode cX12_take 7 = .ok (.putfield 85, 3) := by decide +kernel
theorem dX12_take_10 : decode cX12_take 10 = .ok (.aload_n 0, 1) := by decide +kernel
theorem dX12_take_11 : decode cX12_take 11 = .ok (.iload_n 1, 1) := by decide +kernel
theorem dX12_take_12 : decode cX12_take 12 = .ok (.invokevirtual 289, 3) := by decide +kernel
theorem dX12_take_15 : decode cX12_take 15 = .ok (.ifCond .ne 9, 3) := by decide +kernel
theorem dX12_take_18 : decode cX12_take 18 = .ok (.aload_n 0, 1) := by decide +kernel
theorem dX12_take_19 : decode cX12_take 19 = .ok (.iconst 2, 1) := by decide +kernel
theorem dX12_take_20 : decode cX12_take 20 = .ok (.invokevirtual 97, 3) := by decide +kernel
theorem dX12_take_23 : decode cX12_take 23 = .ok (.ireturn, 1) := by decide +kernel
theorem dX12_take_24 : decode cX12_take 24 = .ok (.aload_n 0, 1) := by decide +kernel
theorem dX12_take_25 : decode cX12_take 25 = .ok (.iload_n 1, 1) := by decide +kernel
theorem dX12_take_26 : decode cX12_take 26 = .ok (.invokevirtual 292, 3) := by decide +kernel
theorem dX12_take_29 : decode cX12_take 29 = .ok (.aload_n 0, 1) := by decide +kernel
theorem dX12_take_30 : decode cX12_take 30 = .ok (.getfield 286, 3) := by decide +kernel
theorem dX12_take_33 : decode cX12_take 33 = .ok (.ifCond .ne 10, 3) := by decide +kernel
theorem dX12_take_36 : decode cX12_take 36 = .ok (.aload_n 0, 1) := by decide +kernel
theorem dX12_take_37 : decode cX12_take 37 = .ok (.bipush 8, 2) := by decide +kernel
theorem dX12_take_39 : decode cX12_take 39 = .ok (.invokevirtual 97, 3) := by decide +kernel
theorem dX12_take_42 : decode cX12_take 42 = .ok (.ireturn, 1) := by decide +kernel
theorem dX12_take_43 : decode cX12_take 43 = .ok (.aload_n 0, 1) := by decide +kernel
theorem dX12_take_44 : decode cX12_take 44 = .ok (.getfield 35, 3) := by decide +kernel
theorem dX12_take_47 : decode cX12_take 47 = .ok (.bipush 10, 2) := by decide +kernel
theorem dX12_take_49 : decode cX12_take 49 = .ok (.iload_n 1, 1) := by decide +kernel
theorem dX12_take_50 : decode cX12_take 50 = .ok (.iastore, 1) := by decide +kernel
theorem dX12_take_51 : decode cX12_take 51 = .ok (.aload_n 0, 1) := by decide +kernel
theorem dX12_take_52 : decode cX12_take 52 = .ok (.invokevirtual 320, 3) := by decide +kernel
theorem dX12_take_55 : decode cX12_take 55 = .ok (.iconst 1, 1) := by decide +kernel
theorem dX12_take_56 : decode cX12_take 56 = .ok (.ireturn, 1) := by decide +kernel
theorem dX12_take2_0 : decode cX12_take2 0 = .ok (.aload_n 0, 1) := by decide +kernel
theorem dX12_take2_1 : decode cX12_take2 1 = .ok (.iload_n 1, 1) := by decide +kernel
theorem dX12_take2_2 : decode cX12_take2 2 = .ok (.invokevirtual 278, 3) := by decide +kernel
theorem dX12_take2_5 : decode cX12_take2 5 = .ok (.istore_n 2, 1) := by decide +kernel
theorem dX12_take2_6 : decode cX12_take2 6 = .ok (.aload_n 0, 1) := by decide +kernel
theorem dX12_take2_7 : decode cX12_take2 7 = .ok (.iload_n 1, 1) := by decide +kernel
theorem dX12_take2_8 : decode cX12_take2 8 = .ok (.invokevirtual 283, 3) := by decide +kernel
theorem dX12_take2_11 : decode cX12_take2 11 = .ok (.istore_n 3, 1) := by decide +kernel
theorem dX12_take2_12 : decode cX12_take2 12 = .ok (.iload_n 3, 1) := by decide +kernel
theorem dX12_take2_13 : decode cX12_take2 13 = .ok (.iconst 1, 1) := by decide +kernel
theorem dX12_take2_14 : decode cX12_take2 14 = .ok (.iadd, 1) := by decide +kernel
theorem dX12_take2_15 : decode cX12_take2 15 = .ok (.aload_n 0, 1) := by decide +kernel
theorem dX12_take2_16 : decode cX12_take2 16 = .ok (.getfield 35, 3) := by decide +kernel
theorem dX12_take2_19 : decode cX12_take2 19 = .ok (.bipush 95, 2) := by decide +kernel
theorem dX12_take2_21 : decode cX12_take2 21 = .ok (.iload_n 2, 1) := by decide +kernel
theorem dX12_take2_22 : decode cX12_take2 22 = .ok (.iadd, 1) := by decide +kernel
theorem dX12_take2_23 : decode cX12_take2 23 = .ok (.iaload, 1) := by decide +kernel
theorem dX12_take2_24 : decode cX12_take2 24 = .ok (.if_icmp .ge 39, 3) := by decide +kernel
theorem dX12_take2_27 : decode cX12_take2 27 = .ok (.aload_n 0, 1) := by decide +kernel
theorem dX12_take2_28 : decode cX12_take2 28 = .ok (.getfield 35, 3) := by decide +kernel
theorem dX12_take2_31 : decode cX12_take2 31 = .ok (.bipush 98, 2) := by decide +kernel
theorem dX12_take2_33 : decode cX12_take2 33 = .ok (.bipush 10, 2) := by decide +kernel
theorem dX12_take2_35 : decode cX12_take2 35 = .ok (.iload_n 2, 1) := by decide +kernel
theorem dX12_take2_36 : decode cX12_take2 36 = .ok (.imul, 1) := by decide +kernel
theorem dX12_take2_37 : decode cX12_take2 37 = .ok (.iadd, 1) := by decide +kernel
theorem dX12_take2_38 : decode cX12_take2 38 = .ok (.iload_n 3, 1) := by decide +kernel
theorem dX12_take2_39 : decode cX12_take2 39 = .ok (.iadd, 1) := by decide +kernel
theorem dX12_take2_40 : decode cX12_take2 40 = .ok (.aload_n 0, 1) := by decide +kernel
theorem dX12_take2_41 : decode cX12_take2 41 = .ok (.getfield 35, 3) := by decide +kernel
theorem dX12_take2_44 : decode cX12_take2 44 = .ok (.bipush 98, 2) := by decide +kernel
theorem dX12_take2_46 : decode cX12_take2 46 = .ok (.bipush 10, 2) := by decide +kernel
theorem dX12_take2_48 : decode cX12_take2 48 = .ok (.iload_n 2, 1) := by decide +kernel
theorem dX12_take2_49 : decode cX12_take2 49 = .ok (.imul, 1) := by decide +kernel
theorem dX12_take2_50 : decode cX12_take2 50 = .ok (.iadd, 1) := by decide +kernel
theorem dX12_take2_51 : decode cX12_take2 51 = .ok (.iload_n 3, 1) := by decide +kernel
theorem dX12_take2_52 : decode cX12_take2 52 = .ok (.iadd, 1) := by decide +kernel
theorem dX12_take2_53 : decode cX12_take2 53 = .ok (.iconst 1, 1) := by decide +kernel
theorem dX12_take2_54 : decode cX12_take2 54 = .ok (.iadd, 1) := by decide +kernel
theorem dX12_take2_55 : decode cX12_take2 55 = .ok (.iaload, 1) := by decide +kernel
theorem dX12_take2_56 : decode cX12_take2 56 = .ok (.iastore, 1) := by decide +kernel
theorem dX12_take2_57 : decode cX12_take2 57 = .ok (.iinc 3 1, 3) := by decide +kernel
theorem dX12_take2_60 : decode cX12_take2 60 = .ok (.goto (-48), 3) := by decide +kernel
theorem dX12_take2_63 : decode cX12_take2 63 = .ok (.aload_n 0, 1) := by decide +kernel
theorem dX12_take2_64 : decode cX12_take2 64 = .ok (.getfield 35, 3) := by decide +kernel
theorem dX12_take2_67 : decode cX12_take2 67 = .ok (.bipush 95, 2) := by decide +kernel
theorem dX12_take2_69 : decode cX12_take2 69 = .ok (.iload_n 2, 1) := by decide +kernel
theorem dX12_take2_70 : decode cX12_take2 70 = .ok (.iadd, 1) := by decide +kernel
theorem dX12_take2_71 : decode cX12_take2 71 = .ok (.dup2, 1) := by decide +kernel
theorem dX12_take2_72 : decode cX12_take2 72 = .ok (.iaload, 1) := by decide +kernel
theorem dX12_take2_73 : decode cX12_take2 73 = .ok (.iconst 1, 1) := by decide +kernel
theorem dX12_take2_74 : decode cX12_take2 74 = .ok (.isub, 1) := by decide +kernel
theorem dX12_take2_75 : decode cX12_take2 75 = .ok (.iastore, 1) := by decide +kernel
theorem dX12_take2_76 : decode cX12_take2 76 = .ok (.return_, 1) := by decide +kernel
theorem dX12_tally_0 : decode cX12_tally 0 = .ok (.aload_n 0, 1) := by decide +kernel
theorem dX12_tally_1 : decode cX12_tally 1 = .ok (.iconst 0, 1) := by decide +kernel
theorem dX12_tally_2 : decode cX12_tally 2 = .ok (.putfield 82, 3) := by decide +kernel
theorem dX12_tally_5 : decode cX12_tally 5 = .ok (.aload_n 0, 1) := by decide +kernel
theorem dX12_tally_6 : decode cX12_tally 6 = .ok (.iconst 0, 1) := by decide +kernel
theorem dX12_tally_7 : decode cX12_tally 7 = .ok (.putfield 85, 3) := by decide +kernel
theorem dX12_tally_10 : decode cX12_tally 10 = .ok (.aload_n 0, 1) := by decide +kernel
theorem dX12_tally_11 : decode cX12_tally 11 = .ok (.iload_n 1, 1) := by decide +kernel
theorem dX12_tally_12 : decode cX12_tally 12 = .ok (.invokevirtual 289, 3) := by decide +kernel
theorem dX12_tally_15 : decode cX12_tally 15 = .ok (.ifCond .eq 11, 3) := by decide +kernel
theorem dX12_tally_18 : decode cX12_tally 18 = .ok (.aload_n 0, 1) := by decide +kernel
theorem dX12_tally_19 : decode cX12_tally 19 = .ok (.iload_n 2, 1) := by decide +kernel
theorem dX12_tally_20 : decode cX12_tally 20 = .ok (.invokevirtual 295, 3) := by decide +kernel
theorem dX12_tally_23 : decode cX12_tally 23 = .ok (.ifCond .ne 9, 3) := by decide +kernel
theorem dX12_tally_26 : decode cX12_tally 26 = .ok (.aload_n 0, 1) := by decide +kernel
theorem dX12_tally_27 : decode cX12_tally 27 = .ok (.iconst 2, 1) := by decide +kernel
theorem dX12_tally_28 : decode cX12_tally 28 = .ok (.invokevirtual 269, 3) := by decide +kernel
theorem dX12_tally_31 : decode cX12_tally 31 = .ok (.ireturn, 1) := by decide +kernel
theorem dX12_tally_32 : decode cX12_tally 32 = .ok (.iload 4, 2) := by decide +kernel
theorem dX12_tally_34 : decode cX12_tally 34 = .ok (.i2l, 1) := by decide +kernel
theorem dX12_tally_35 : decode cX12_tally 35 = .ok (.lconst 1, 1) := by decide +kernel
theorem dX12_tally_36 : decode cX12_tally 36 = .ok (.ldc2_w 592, 3) := by decide +kernel
theorem dX12_tally_39 : decode cX12_tally 39 = .ok (.invokestatic 117, 3) := by decide +kernel
theorem dX12_tally_42 : decode cX12_tally 42 = .ok (.ifCond .eq 19, 3) := by decide +kernel
theorem dX12_tally_45 : decode cX12_tally 45 = .ok (.iload_n 3, 1) := by decide +kernel
theorem dX12_tally_46 : decode cX12_tally 46 = .ok (.i2l, 1) := by decide +kernel
theorem dX12_tally_47 : decode cX12_tally 47 = .ok (.lconst 0, 1) := by decide +kernel
theorem dX12_tally_48 : decode cX12_tally 48 = .ok (.sipush 10000, 3) := by decide +kernel
theorem dX12_tally_51 : decode cX12_tally 51 = .ok (.iload 4, 2) := by decide +kernel
theorem dX12_tally_53 : decode cX12_tally 53 = .ok (.isub, 1) := by decide +kernel
theorem dX12_tally_54 : decode cX12_tally 54 = .ok (.i2l, 1) := by decide +kernel
theorem dX12_tally_55 : decode cX12_tally 55 = .ok (.invokestatic 117, 3) := by decide +kernel
theorem dX12_tally_58 : decode cX12_tally 58 = .ok (.ifCond .ne 9, 3) := by decide +kernel
theorem dX12_tally_61 : decode cX12_tally 61 = .ok (.aload_n 0, 1) := by decide +kernel
theorem dX12_tally_62 : decode cX12_tally 62 = .ok (.iconst 5, 1) := by decide +kernel
theorem dX12_tally_63 : decode cX12_tally 63 = .ok (.invokevirtual 269, 3) := by decide +kernel
theorem dX12_tally_66 : decode cX12_tally 66 = .ok (.ireturn, 1) := by decide +kernel
theorem dX12_tally_67 : decode cX12_tally 67 = .ok (.aload_n 0, 1) := by decide +kernel
theorem dX12_tally_68 : decode cX12_tally 68 = .ok (.iload_n 1, 1) := by decide +kernel
theorem dX12_tally_69 : decode cX12_tally 69 = .ok (.invokevirtual 292, 3) := by decide +kernel
theorem dX12_tally_72 : decode cX12_tally 72 = .ok (.aload_n 0, 1) := by decide +kernel
theorem dX12_tally_73 : decode cX12_tally 73 = .ok (.getfield 286, 3) := by decide +kernel
theorem dX12_tally_76 : decode cX12_tally 76 = .ok (.ifCond .ne 10, 3) := by decide +kernel
theorem dX12_tally_79 : decode cX12_tally 79 = .ok (.aload_n 0, 1) := by decide +kernel
theorem dX12_tally_80 : decode cX12_tally 80 = .ok (.bipush 8, 2) := by decide +kernel
theorem dX12_tally_82 : decode cX12_tally 82 = .ok (.invokevirtual 269, 3) := by decide +kernel
theorem dX12_tally_85 : decode cX12_tally 85 = .ok (.ireturn, 1) := by decide +kernel
theorem dX12_tally_86 : decode cX12_tally 86 = .ok (.iconst 0, 1) := by decide +kernel
theorem dX12_tally_87 : decode cX12_tally 87 = .ok (.istore 5, 2) := by decide +kernel
theorem dX12_tally_89 : decode cX12_tally 89 = .ok (.lconst 0, 1) := by decide +kernel
theorem dX12_tally_90 : decode cX12_tally 90 = .ok (.lstore 6, 2) := by decide +kernel
theorem dX12_tally_92 : decode cX12_tally 92 = .ok (.iconst 0, 1) := by decide +kernel
theorem dX12_tally_93 : decode cX12_tally 93 = .ok (.istore 8, 2) := by decide +kernel
theorem dX12_tally_95 : decode cX12_tally 95 = .ok (.iload 8, 2) := by decide +kernel
theorem dX12_tally_97 : decode cX12_tally 97 = .ok (.iload 4, 2) := by decide +kernel
theorem dX12_tally_99 : decode cX12_tally 99 = .ok (.if_icmp .ge 46, 3) := by decide +kernel
theorem dX12_tally_102 : decode cX12_tally 102 = .ok (.aload_n 0, 1) := by decide +kernel
theorem dX12_tally_103 : decode cX12_tally 103 = .ok (.iload_n 1, 1) := by decide +kernel
theorem dX12_tally_104 : decode cX12_tally 104 = .ok (.iload_n 2, 1) := by decide +kernel
theorem dX12_tally_105 : decode cX12_tally 105 = .ok (.iload_n 3, 1) := by decide +kernel
theorem dX12_tally_106 : decode cX12_tally 106 = .ok (.iload 8, 2) := by decide +kernel
theorem dX12_tally_108 : decode cX12_tally 108 = .ok (.iadd, 1) := by decide +kernel
theorem dX12_tally_109 : decode cX12_tally 109 = .ok (.invokevirtual 584, 3) := by decide +kernel
theorem dX12_tally_112 : decode cX12_tally 112 = .ok (.iload 5, 2) := by decide +kernel
theorem dX12_tally_114 : decode cX12_tally 114 = .ok (.aload_n 0, 1) := by decide +kernel
theorem dX12_tally_115 : decode cX12_tally 115 = .ok (.getfield 552, 3) := by decide +kernel
theorem dX12_tally_118 : decode cX12_tally 118 = .ok (.ifCond .eq 7, 3) := by decide +kernel
theorem dX12_tally_121 : decode cX12_tally 121 = .ok (.iconst 1, 1) := by decide +kernel
theorem dX12_tally_122 : decode cX12_tally 122 = .ok (.goto 4, 3) := by decide +kernel
theorem dX12_tally_125 : decode cX12_tally 125 = .ok (.iconst 0, 1) := by decide +kernel
theorem dX12_tally_126 : decode cX12_tally 126 = .ok (.iadd, 1) := by decide +kernel
theorem dX12_tally_127 : decode cX12_tally 127 = .ok (.istore 5, 2) := by decide +kernel
theorem dX12_tally_129 : decode cX12_tally 129 = .ok (.lload 6, 2) := by decide +kernel
theorem dX12_tally_131 : decode cX12_tally 131 = .ok (.aload_n 0, 1) := by decide +kernel
theorem dX12_tally_132 : decode cX12_tally 132 = .ok (.getfield 540, 3) := by decide +kernel
theorem dX12_tally_135 : decode cX12_tally 135 = .ok (.i2l, 1) := by decide +kernel
theorem dX12_tally_136 : decode cX12_tally 136 = .ok (.ladd, 1) := by decide +kernel
theorem dX12_tally_137 : decode cX12_tally 137 = .ok (.lstore 6, 2) := by decide +kernel
theorem dX12_tally_139 : decode cX12_tally 139 = .ok (.iinc 8 1, 3) := by decide +kernel
theorem dX12_tally_142 : decode cX12_tally 142 = .ok (.goto (-47), 3) := by decide +kernel
theorem dX12_tally_145 : decode cX12_tally 145 = .ok (.aload_n 0, 1) := by decide +kernel
theorem dX12_tally_146 : decode cX12_tally 146 = .ok (.lload 6, 2) := by decide +kernel
theorem dX12_tally_148 : decode cX12_tally 148 = .ok (.iload 4, 2) := by decide +kernel
theorem dX12_tally_150 : decode cX12_tally 150 = .ok (.i2l, 1) := by decide +kernel
theorem dX12_tally_151 : decode cX12_tally 151 = .ok (.invokevirtual 352, 3) := by decide +kernel
theorem dX12_tally_154 : decode cX12_tally 154 = .ok (.pop, 1) := by decide +kernel
theorem dX12_tally_155 : decode cX12_tally 155 = .ok (.iload 5, 2) := by decide +kernel
theorem dX12_tally_157 : decode cX12_tally 157 = .ok (.ireturn, 1) := by decide +kernel
theorem dX12_tellsAll_0 : decode cX12_tellsAll 0 = .ok (.iconst 0, 1) := by decide +kernel
theorem dX12_tellsAll_1 : decode cX12_tellsAll 1 = .ok (.istore_n 3, 1) := by decide +kernel
theorem dX12_tellsAll_2 : decode cX12_tellsAll 2 = .ok (.iload_n 3, 1) := by decide +kernel
theorem dX12_tellsAll_3 : decode cX12_tellsAll 3 = .ok (.aload_n 0, 1) := by decide +kernel
theorem dX12_tellsAll_4 : decode cX12_tellsAll 4 = .ok (.getfield 286, 3) := by decide +kernel
theorem dX12_tellsAll_7 : decode cX12_tellsAll 7 = .ok (.if_icmp .ge 120, 3) := by decide +kernel
theorem dX12_tellsAll_10 : decode cX12_tellsAll 10 = .ok (.iload_n 3, 1) := by decide +kernel
theorem dX12_tellsAll_11 : decode cX12_tellsAll 11 = .ok (.iconst 1, 1) := by decide +kernel
theorem dX12_tellsAll_12 : decode cX12_tellsAll 12 = .ok (.iadd, 1) := by decide +kernel
theorem dX12_tellsAll_13 : decode cX12_tellsAll 13 = .ok (.istore 4, 2) := by decide +kernel
theorem dX12_tellsAll_15 : decode cX12_tellsAll 15 = .ok (.iload 4, 2) := by decide +kernel
theorem dX12_tellsAll_17 : decode cX12_tellsAll 17 = .ok (.aload_n 0, 1) := by decide +kernel
theorem dX12_tellsAll_18 : decode cX12_tellsAll 18 = .ok (.getfield 286, 3) := by decide +kernel
theorem dX12_tellsAll_21 : decode cX12_tellsAll 21 = .ok (.if_icmp .ge 100, 3) := by decide +kernel
theorem dX12_tellsAll_24 : decode cX12_tellsAll 24 = .ok (.aload_n 0, 1) := by decide +kernel
theorem dX12_tellsAll_25 : decode cX12_tellsAll 25 = .ok (.aload_n 0, 1) := by decide +kernel
theorem dX12_tellsAll_26 : decode cX12_tellsAll 26 = .ok (.getfield 41, 3) := by decide +kernel
theorem dX12_tellsAll_29 : decode cX12_tellsAll 29 = .ok (.iload_n 3, 1) := by decide +kernel
theorem dX12_tellsAll_30 : decode cX12_tellsAll 30 = .ok (.iaload, 1) := by decide +kernel
theorem dX12_tellsAll_31 : decode cX12_tellsAll 31 = .ok (.iconst 0, 1) := by decide +kernel
theorem dX12_tellsAll_32 : decode cX12_tellsAll 32 = .ok (.aload_n 0, 1) := by decide +kernel
theorem dX12_tellsAll_33 : decode cX12_tellsAll 33 = .ok (.getfield 41, 3) := by decide +kernel
theorem dX12_tellsAll_36 : decode cX12_tellsAll 36 = .ok (.iload 4, 2) := by decide +kernel
theorem dX12_tellsAll_38 : decode cX12_tellsAll 38 = .ok (.iaload, 1) := by decide +kernel
theorem dX12_tellsAll_39 : decode cX12_tellsAll 39 = .ok (.iconst 0, 1) := by decide +kernel
theorem dX12_tellsAll_40 : decode cX12_tellsAll 40 = .ok (.iload_n 1, 1) := by decide +kernel
theorem dX12_tellsAll_41 : decode cX12_tellsAll 41 = .ok (.invokevirtual 453, 3) := by decide +kernel
theorem dX12_tellsAll_44 : decode cX12_tellsAll 44 = .ok (.istore 5, 2) := by decide +kernel
theorem dX12_tellsAll_46 : decode cX12_tellsAll 46 = .ok (.iload_n 2, 1) := by decide +kernel
theorem dX12_tellsAll_47 : decode cX12_tellsAll 47 = .ok (.ifCond .eq 61, 3) := by decide +kernel
theorem dX12_tellsAll_50 : decode cX12_tellsAll 50 = .ok (.iload 5, 2) := by decide +kernel
theorem dX12_tellsAll_52 : decode cX12_tellsAll 52 = .ok (.ifCond .eq 53, 3) := by decide +kernel
theorem dX12_tellsAll_55 : decode cX12_tellsAll 55 = .ok (.aload_n 0, 1) := by decide +kernel
theorem dX12_tellsAll_56 : decode cX12_tellsAll 56 = .ok (.aload_n 0, 1) := by decide +kernel
theorem dX12_tellsAll_57 : decode cX12_tellsAll 57 = .ok (.getfield 41, 3) := by decide +kernel
theorem dX12_tellsAll_60 : decode cX12_tellsAll 60 = .ok (.iload_n 3, 1) := by decide +kernel
theorem dX12_tellsAll_61 : decode cX12_tellsAll 61 = .ok (.iaload, 1) := by decide +kernel
theorem dX12_tellsAll_62 : decode cX12_tellsAll 62 = .ok (.iconst 0, 1) := by decide +kernel
theorem dX12_tellsAll_63 : decode cX12_tellsAll 63 = .ok (.aload_n 0, 1) := by decide +kernel
theorem dX12_tellsAll_64 : decode cX12_tellsAll 64 = .ok (.getfield 41, 3) := by decide +kernel
theorem dX12_tellsAll_67 : decode cX12_tellsAll 67 = .ok (.iload 4, 2) := by decide +kernel
theorem dX12_tellsAll_69 : decode cX12_tellsAll 69 = .ok (.iaload, 1) := by decide +kernel
theorem dX12_tellsAll_70 : decode cX12_tellsAll 70 = .ok (.iconst 1, 1) := by decide +kernel
theorem dX12_tellsAll_71 : decode cX12_tellsAll 71 = .ok (.iload_n 1, 1) := by decide +kernel
theorem dX12_tellsAll_72 : decode cX12_tellsAll 72 = .ok (.invokevirtual 453, 3) := by decide +kernel
theorem dX12_tellsAll_75 : decode cX12_tellsAll 75 = .ok (.ifCond .eq 30, 3) := by decide +kernel
theorem dX12_tellsAll_78 : decode cX12_tellsAll 78 = .ok (.aload_n 0, 1) := by decide +kernel
theorem dX12_tellsAll_79 : decode cX12_tellsAll 79 = .ok (.aload_n 0, 1) := by decide +kernel
theorem dX12_tellsAll_80 : decode cX12_tellsAll 80 = .ok (.getfield 41, 3) := by decide +kernel
theorem dX12_tellsAll_83 : decode cX12_tellsAll 83 = .ok (.iload_n 3, 1) := by decide +kernel
theorem dX12_tellsAll_84 : decode cX12_tellsAll 84 = .ok (.iaload, 1) := by decide +kernel
theorem dX12_tellsAll_85 : decode cX12_tellsAll 85 = .ok (.iconst 1, 1) := by decide +kernel
theorem dX12_tellsAll_86 : decode cX12_tellsAll 86 = .ok (.aload_n 0, 1) := by decide +kernel
theorem dX12_tellsAll_87 : decode cX12_tellsAll 87 = .ok (.getfield 41, 3) := by decide +kernel
theorem dX12_tellsAll_90 : decode cX12_tellsAll 90 = .ok (.iload 4, 2) := by decide +kernel
theorem dX12_tellsAll_92 : decode cX12_tellsAll 92 = .ok (.iaload, 1) := by decide +kernel
theorem dX12_tellsAll_93 : decode cX12_tellsAll 93 = .ok (.iconst 0, 1) := by decide +kernel
theorem dX12_tellsAll_94 : decode cX12_tellsAll 94 = .ok (.iload_n 1, 1) := by decide +kernel
theorem dX12_tellsAll_95 : decode cX12_tellsAll 95 = .ok (.invokevirtual 453, 3) := by decide +kernel
theorem dX12_tellsAll_98 : decode cX12_tellsAll 98 = .ok (.ifCond .eq 7, 3) := by decide +kernel
theorem dX12_tellsAll_101 : decode cX12_tellsAll 101 = .ok (.iconst 1, 1) := by decide +kernel
theorem dX12_tellsAll_102 : decode cX12_tellsAll 102 = .ok (.goto 4, 3) := by decide +kernel
theorem dX12_tellsAll_105 : decode cX12_tellsAll 105 = .ok (.iconst 0, 1) := by decide +kernel
theorem dX12_tellsAll_106 : decode cX12_tellsAll 106 = .ok (.istore 5, 2) := by decide +kernel
theorem dX12_tellsAll_108 : decode cX12_tellsAll 108 = .ok (.iload 5, 2) := by decide +kernel
theorem dX12_tellsAll_110 : decode cX12_tellsAll 110 = .ok (.ifCond .ne 5, 3) := by decide +kernel
theorem dX12_tellsAll_113 : decode cX12_tellsAll 113 = .ok (.iconst 0, 1) := by decide +kernel
theorem dX12_tellsAll_114 : decode cX12_tellsAll 114 = .ok (.ireturn, 1) := by decide +kernel
theorem dX12_tellsAll_115 : decode cX12_tellsAll 115 = .ok (.iinc 4 1, 3) := by decide +kernel
theorem dX12_tellsAll_118 : decode cX12_tellsAll 118 = .ok (.goto (-103), 3) := by decide +kernel
theorem dX12_tellsAll_121 : decode cX12_tellsAll 121 = .ok (.iinc 3 1, 3) := by decide +kernel
theorem dX12_tellsAll_124 : decode cX12_tellsAll 124 = .ok (.goto (-122), 3) := by decide +kernel
theorem dX12_tellsAll_127 : decode cX12_tellsAll 127 = .ok (.iconst 1, 1) := by decide +kernel
theorem dX12_tellsAll_128 : decode cX12_tellsAll 128 = .ok (.ireturn, 1) := by decide +kernel
theorem dX12_top_0 : decode cX12_top 0 = .ok (.aload_n 0, 1) := by decide +kernel
theorem dX12_top_1 : decode cX12_top 1 = .ok (.iconst 0, 1) := by decide +kernel
theorem dX12_top_2 : decode cX12_top 2 = .ok (.putfield 82, 3) := by decide +kernel
theorem dX12_top_5 : decode cX12_top 5 = .ok (.aload_n 0, 1) := by decide +kernel
theorem dX12_top_6 : decode cX12_top 6 = .ok (.getfield 88, 3) := by decide +kernel
theorem dX12_top_9 : decode cX12_top 9 = .ok (.lreturn, 1) := by decide +kernel
theorem dX12_tray_0 : decode cX12_tray 0 = .ok (.aload_n 0, 1) := by decide +kernel
theorem dX12_tray_1 : decode cX12_tray 1 = .ok (.iconst 0, 1) := by decide +kernel
theorem dX12_tray_2 : decode cX12_tray 2 = .ok (.putfield 82, 3) := by decide +kernel
theorem dX12_tray_5 : decode cX12_tray 5 = .ok (.aload_n 0, 1) := by decide +kernel
theorem dX12_tray_6 : decode cX12_tray 6 = .ok (.iconst 0, 1) := by decide +kernel
theorem dX12_tray_7 : decode cX12_tray 7 = .ok (.putfield 85, 3) := by decide +kernel
theorem dX12_tray_10 : decode cX12_tray 10 = .ok (.iload_n 1, 1) := by decide +kernel
theorem dX12_tray_11 : decode cX12_tray 11 = .ok (.ifCond .lt 17, 3) := by decide +kernel
theorem dX12_tray_14 : decode cX12_tray 14 = .ok (.iload_n 1, 1) := by decide +kernel
theorem dX12_tray_15 : decode cX12_tray 15 = .ok (.iconst 4, 1) := by decide +kernel
theorem dX12_tray_16 : decode cX12_tray 16 = .ok (.if_icmp .ge 12, 3) := by decide +kernel
theorem dX12_tray_19 : decode cX12_tray 19 = .ok (.iload_n 2, 1) := by decide +kernel
theorem dX12_tray_20 : decode cX12_tray 20 = .ok (.ifCond .lt 8, 3) := by decide +kernel
theorem dX12_tray_23 : decode cX12_tray 23 = .ok (.iload_n 2, 1) := by decide +kernel
theorem dX12_tray_24 : decode cX12_tray 24 = .ok (.iconst 3, 1) := by decide +kernel
theorem dX12_tray_25 : decode cX12_tray 25 = .ok (.if_icmp .le 9, 3) := by decide +kernel
theorem dX12_tray_28 : decode cX12_tray 28 = .ok (.aload_n 0, 1) := by decide +kernel
theorem dX12_tray_29 : decode cX12_tray 29 = .ok (.iconst 1, 1) := by decide +kernel
theorem dX12_tray_30 : decode cX12_tray 30 = .ok (.invokevirtual 97, 3) := by decide +kernel
theorem dX12_tray_33 : decode cX12_tray 33 = .ok (.ireturn, 1) := by decide +kernel
theorem dX12_tray_34 : decode cX12_tray 34 = .ok (.iload_n 3, 1) := by decide +kernel
theorem dX12_tray_35 : decode cX12_tray 35 = .ok (.bipush 60, 2) := by decide +kernel
theorem dX12_tray_37 : decode cX12_tray 37 = .ok (.if_icmp .le 9, 3) := by decide +kernel
theorem dX12_tray_40 : decode cX12_tray 40 = .ok (.aload_n 0, 1) := by decide +kernel
theorem dX12_tray_41 : decode cX12_tray 41 = .ok (.iconst 5, 1) := by decide +kernel
theorem dX12_tray_42 : decode cX12_tray 42 = .ok (.invokevirtual 97, 3) := by decide +kernel
theorem dX12_tray_45 : decode cX12_tray 45 = .ok (.ireturn, 1) := by decide +kernel
theorem dX12_tray_46 : decode cX12_tray 46 = .ok (.iload_n 3, 1) := by decide +kernel
theorem dX12_tray_47 : decode cX12_tray 47 = .ok (.ifCond .ge 10, 3) := by decide +kernel
theorem dX12_tray_50 : decode cX12_tray 50 = .ok (.aload_n 0, 1) := by decide +kernel
theorem dX12_tray_51 : decode cX12_tray 51 = .ok (.bipush 6, 2) := by decide +kernel
theorem dX12_tray_53 : decode cX12_tray 53 = .ok (.invokevirtual 97, 3) := by decide +kernel
theorem dX12_tray_56 : decode cX12_tray 56 = .ok (.ireturn, 1) := by decide +kernel
theorem dX12_tray_57 : decode cX12_tray 57 = .ok (.aload_n 0, 1) := by decide +kernel
theorem dX12_tray_58 : decode cX12_tray 58 = .ok (.getfield 13, 3) := by decide +kernel
theorem dX12_tray_61 : decode cX12_tray 61 = .ok (.iload_n 1, 1) := by decide +kernel
theorem dX12_tray_62 : decode cX12_tray 62 = .ok (.iload_n 2, 1) := by decide +kernel
theorem dX12_tray_63 : decode cX12_tray 63 = .ok (.iastore, 1) := by decide +kernel
theorem dX12_tray_64 : decode cX12_tray 64 = .ok (.aload_n 0, 1) := by decide +kernel
theorem dX12_tray_65 : decode cX12_tray 65 = .ok (.getfield 17, 3) := by decide +kernel
theorem dX12_tray_68 : decode cX12_tray 68 = .ok (.iload_n 1, 1) := by decide +kernel
theorem dX12_tray_69 : decode cX12_tray 69 = .ok (.iload_n 3, 1) := by decide +kernel
theorem dX12_tray_70 : decode cX12_tray 70 = .ok (.iastore, 1) := by decide +kernel
theorem dX12_tray_71 : decode cX12_tray 71 = .ok (.iconst 0, 1) := by decide +kernel
theorem dX12_tray_72 : decode cX12_tray 72 = .ok (.istore 4, 2) := by decide +kernel
theorem dX12_tray_74 : decode cX12_tray 74 = .ok (.iload 4, 2) := by decide +kernel
theorem dX12_tray_76 : decode cX12_tray 76 = .ok (.iload_n 3, 1) := by decide +kernel
theorem dX12_tray_77 : decode cX12_tray 77 = .ok (.if_icmp .ge 22, 3) := by decide +kernel
theorem dX12_tray_80 : decode cX12_tray 80 = .ok (.aload_n 0, 1) := by decide +kernel
theorem dX12_tray_81 : decode cX12_tray 81 = .ok (.getfield 20, 3) := by decide +kernel
theorem dX12_tray_84 : decode cX12_tray 84 = .ok (.bipush 60, 2) := by decide +kernel
theorem dX12_tray_86 : decode cX12_tray 86 = .ok (.iload_n 1, 1) := by decide +kernel
theorem dX12_tray_87 : decode cX12_tray 87 = .ok (.imul, 1) := by decide +kernel
theorem dX12_tray_88 : decode cX12_tray 88 = .ok (.iload 4, 2) := by decide +kernel
theorem dX12_tray_90 : decode cX12_tray 90 = .ok (.iadd, 1) := by decide +kernel
theorem dX12_tray_91 : decode cX12_tray 91 = .ok (.lconst 0, 1) := by decide +kernel
theorem dX12_tray_92 : decode cX12_tray 92 = .ok (.lastore, 1) := by decide +kernel
theorem dX12_tray_93 : decode cX12_tray 93 = .ok (.iinc 4 1, 3) := by decide +kernel
theorem dX12_tray_96 : decode cX12_tray 96 = .ok (.goto (-22), 3) := by decide +kernel
theorem dX12_tray_99 : decode cX12_tray 99 = .ok (.iconst 1, 1) := by decide +kernel
theorem dX12_tray_100 : decode cX12_tray 100 = .ok (.ireturn, 1) := by decide +kernel
theorem dX12_trayed_0 : decode cX12_trayed 0 = .ok (.iload_n 1, 1) := by decide +kernel
theorem dX12_trayed_1 : decode cX12_trayed 1 = .ok (.ifCond .lt 8, 3) := by decide +kernel
theorem dX12_trayed_4 : decode cX12_trayed 4 = .ok (.iload_n 1, 1) := by decide +kernel
theorem dX12_trayed_5 : decode cX12_trayed 5 = .ok (.iconst 4, 1) := by decide +kernel
theorem dX12_trayed_6 : decode cX12_trayed 6 = .ok (.if_icmp .lt 7, 3) := by decide +kernel
theorem dX12_trayed_9 : decode cX12_trayed 9 = .ok (.iconst 1, 1) := by decide +kernel
theorem dX12_trayed_10 : decode cX12_trayed 10 = .ok (.goto 17, 3) := by decide +kernel
theorem dX12_trayed_13 : decode cX12_trayed 13 = .ok (.aload_n 0, 1) := by decide +kernel
theorem dX12_trayed_14 : decode cX12_trayed 14 = .ok (.getfield 17, 3) := by decide +kernel
theorem dX12_trayed_17 : decode cX12_trayed 17 = .ok (.iload_n 1, 1) := by decide +kernel
theorem dX12_trayed_18 : decode cX12_trayed 18 = .ok (.iaload, 1) := by decide +kernel
theorem dX12_trayed_19 : decode cX12_trayed 19 = .ok (.ifCond .ge 7, 3) := by decide +kernel
theorem dX12_trayed_22 : decode cX12_trayed 22 = .ok (.iconst 3, 1) := by decide +kernel
theorem dX12_trayed_23 : decode cX12_trayed 23 = .ok (.goto 4, 3) := by decide +kernel
theorem dX12_trayed_26 : decode cX12_trayed 26 = .ok (.iconst 0, 1) := by decide +kernel
theorem dX12_trayed_27 : decode cX12_trayed 27 = .ok (.ireturn, 1) := by decide +kernel
theorem dX12_tried_0 : decode cX12_tried 0 = .ok (.aload_n 0, 1) := by decide +kernel
theorem dX12_tried_1 : decode cX12_tried 1 = .ok (.iconst 0, 1) := by decide +kernel
theorem dX12_tried_2 : decode cX12_tried 2 = .ok (.putfield 82, 3) := by decide +kernel
theorem dX12_tried_5 : decode cX12_tried 5 = .ok (.aload_n 0, 1) := by decide +kernel
theorem dX12_tried_6 : decode cX12_tried 6 = .ok (.iconst 0, 1) := by decide +kernel
theorem dX12_tried_7 : decode cX12_tried 7 = .ok (.putfield 85, 3) := by decide +kernel
theorem dX12_tried_10 : decode cX12_tried 10 = .ok (.aload_n 0, 1) := by decide +kernel
theorem dX12_tried_11 : decode cX12_tried 11 = .ok (.iload_n 1, 1) := by decide +kernel
theorem dX12_tried_12 : decode cX12_tried 12 = .ok (.invokevirtual 295, 3) := by decide +kernel
theorem dX12_tried_15 : decode cX12_tried 15 = .ok (.ifCond .ne 9, 3) := by decide +kernel
theorem dX12_tried_18 : decode cX12_tried 18 = .ok (.aload_n 0, 1) := by decide +kernel
theorem dX12_tried_19 : decode cX12_tried 19 = .ok (.iconst 2, 1) := by decide +kernel
theorem dX12_tried_20 : decode cX12_tried 20 = .ok (.invokevirtual 97, 3) := by decide +kernel
theorem dX12_tried_23 : decode cX12_tried 23 = .ok (.ireturn, 1) := by decide +kernel
theorem dX12_tried_24 : decode cX12_tried 24 = .ok (.aload_n 0, 1) := by decide +kernel
theorem dX12_tried_25 : decode cX12_tried 25 = .ok (.invokevirtual 323, 3) := by decide +kernel
theorem dX12_tried_28 : decode cX12_tried 28 = .ok (.ifCond .ne 10, 3) := by decide +kernel
theorem dX12_tried_31 : decode cX12_tried 31 = .ok (.aload_n 0, 1) := by decide +kernel
theorem dX12_tried_32 : decode cX12_tried 32 = .ok (.bipush 8, 2) := by decide +kernel
theorem dX12_tried_34 : decode cX12_tried 34 = .ok (.invokevirtual 97, 3) := by decide +kernel
theorem dX12_tried_37 : decode cX12_tried 37 = .ok (.ireturn, 1) := by decide +kernel
theorem dX12_tried_38 : decode cX12_tried 38 = .ok (.aload_n 0, 1) := by decide +kernel
theorem dX12_tried_39 : decode cX12_tried 39 = .ok (.iload_n 1, 1) := by decide +kernel
theorem dX12_tried_40 : decode cX12_tried 40 = .ok (.iload_n 2, 1) := by decide +kernel
theorem dX12_tried_41 : decode cX12_tried 41 = .ok (.invokevirtual 348, 3) := by decide +kernel
theorem dX12_tried_44 : decode cX12_tried 44 = .ok (.ifCond .ne 12, 3) := by decide +kernel
theorem dX12_tried_47 : decode cX12_tried 47 = .ok (.aload_n 0, 1) := by decide +kernel
theorem dX12_tried_48 : decode cX12_tried 48 = .ok (.bipush 9, 2) := by decide +kernel
theorem dX12_tried_50 : decode cX12_tried 50 = .ok (.invokevirtual 97, 3) := by decide +kernel
theorem dX12_tried_53 : decode cX12_tried 53 = .ok (.ifCond .eq 7, 3) := by decide +kernel
theorem dX12_tried_56 : decode cX12_tried 56 = .ok (.iconst 1, 1) := by decide +kernel
theorem dX12_tried_57 : decode cX12_tried 57 = .ok (.goto 4, 3) := by decide +kernel
theorem dX12_tried_60 : decode cX12_tried 60 = .ok (.iconst 0, 1) := by decide +kernel
theorem dX12_tried_61 : decode cX12_tried 61 = .ok (.ireturn, 1) := by decide +kernel
theorem dX12_triedWorth_0 : decode cX12_triedWorth 0 = .ok (.lconst 0, 1) := by decide +kernel
theorem dX12_triedWorth_1 : decode cX12_triedWorth 1 = .ok (.lstore 4, 2) := by decide +kernel
theorem dX12_triedWorth_3 : decode cX12_triedWorth 3 = .ok (.iconst 0, 1) := by decide +kernel
theorem dX12_triedWorth_4 : decode cX12_triedWorth 4 = .ok (.istore 6, 2) := by decide +kernel
theorem dX12_triedWorth_6 : decode cX12_triedWorth 6 = .ok (.iload 6, 2) := by decide +kernel
theorem dX12_triedWorth_8 : decode cX12_triedWorth 8 = .ok (.iconst 2, 1) := by decide +kernel
theorem dX12_triedWorth_9 : decode cX12_triedWorth 9 = .ok (.aload_n 0, 1) := by decide +kernel
theorem dX12_triedWorth_10 : decode cX12_triedWorth 10 = .ok (.getfield 286, 3) := by decide +kernel
theorem dX12_triedWorth_13 : decode cX12_triedWorth 13 = .ok (.imul, 1) := by decide +kernel
theorem dX12_triedWorth_14 : decode cX12_triedWorth 14 = .ok (.if_icmp .ge 87, 3) := by decide +kernel
theorem dX12_triedWorth_17 : decode cX12_triedWorth 17 = .ok (.aload_n 0, 1) := by decide +kernel
theorem dX12_triedWorth_18 : decode cX12_triedWorth 18 = .ok (.aload_n 0, 1) := by decide +kernel
theorem dX12_triedWorth_19 : decode cX12_triedWorth 19 = .ok (.getfield 41, 3) := by decide +kernel
theorem dX12_triedWorth_22 : decode cX12_triedWorth 22 = .ok (.iload 6, 2) := by decide +kernel
theorem dX12_triedWorth_24 : decode cX12_triedWorth 24 = .ok (.iconst 2, 1) := by decide +kernel
theorem dX12_triedWorth_25 : decode cX12_triedWorth 25 = .ok (.idiv, 1) := by decide +kernel
theorem dX12_triedWorth_26 : decode cX12_triedWorth 26 = .ok (.iaload, 1) := by decide +kernel
theorem dX12_triedWorth_27 : decode cX12_triedWorth 27 = .ok (.iload_n 3, 1) := by decide +kernel
theorem dX12_triedWorth_28 : decode cX12_triedWorth 28 = .ok (.invokevirtual 345, 3) := by decide +kernel
theorem dX12_triedWorth_31 : decode cX12_triedWorth 31 = .ok (.istore 7, 2) := by decide +kernel
theorem dX12_triedWorth_33 : decode cX12_triedWorth 33 = .ok (.lload 4, 2) := by decide +kernel
theorem dX12_triedWorth_35 : decode cX12_triedWorth 35 = .ok (.iload 7, 2) := by decide +kernel
theorem dX12_triedWorth_37 : decode cX12_triedWorth 37 = .ok (.ifCond .eq 18, 3) := by decide +kernel
theorem dX12_triedWorth_40 : decode cX12_triedWorth 40 = .ok (.aload_n 0, 1) := by decide +kernel
theorem dX12_triedWorth_41 : decode cX12_triedWorth 41 = .ok (.getfield 53, 3) := by decide +kernel
theorem dX12_triedWorth_44 : decode cX12_triedWorth 44 = .ok (.bipush 20, 2) := by decide +kernel
theorem dX12_triedWorth_46 : decode cX12_triedWorth 46 = .ok (.iload_n 1, 1) := by decide +kernel
theorem dX12_triedWorth_47 : decode cX12_triedWorth 47 = .ok (.imul, 1) := by decide +kernel
theorem dX12_triedWorth_48 : decode cX12_triedWorth 48 = .ok (.iload 6, 2) := by decide +kernel
theorem dX12_triedWorth_50 : decode cX12_triedWorth 50 = .ok (.iadd, 1) := by decide +kernel
theorem dX12_triedWorth_51 : decode cX12_triedWorth 51 = .ok (.laload, 1) := by decide +kernel
theorem dX12_triedWorth_52 : decode cX12_triedWorth 52 = .ok (.goto 4, 3) := by decide +kernel
theorem dX12_triedWorth_55 : decode cX12_triedWorth 55 = .ok (.lconst 0, 1) := by decide +kernel
theorem dX12_triedWorth_56 : decode cX12_triedWorth 56 = .ok (.ladd, 1) := by decide +kernel
theorem dX12_triedWorth_57 : decode cX12_triedWorth 57 = .ok (.lstore 4, 2) := by decide +kernel
theorem dX12_triedWorth_59 : decode cX12_triedWorth 59 = .ok (.aload_n 0, 1) := by decide +kernel
theorem dX12_triedWorth_60 : decode cX12_triedWorth 60 = .ok (.getfield 53, 3) := by decide +kernel
theorem dX12_triedWorth_63 : decode cX12_triedWorth 63 = .ok (.bipush 20, 2) := by decide +kernel
theorem dX12_triedWorth_65 : decode cX12_triedWorth 65 = .ok (.iload_n 1, 1) := by decide +kernel
theorem dX12_triedWorth_66 : decode cX12_triedWorth 66 = .ok (.imul, 1) := by decide +kernel
theorem dX12_triedWorth_67 : decode cX12_triedWorth 67 = .ok (.bipush 20, 2) := by decide +kernel
theorem dX12_triedWorth_69 : decode cX12_triedWorth 69 = .ok (.iadd, 1) := by decide +kernel
theorem dX12_triedWorth_70 : decode cX12_triedWorth 70 = .ok (.iload 6, 2) := by decide +kernel
theorem dX12_triedWorth_72 : decode cX12_triedWorth 72 = .ok (.iadd, 1) := by decide +kernel
theorem dX12_triedWorth_73 : decode cX12_triedWorth 73 = .ok (.iload 7, 2) := by decide +kernel
theorem dX12_triedWorth_75 : decode cX12_triedWorth 75 = .ok (.ifCond .eq 7, 3) := by decide +kernel
theorem dX12_triedWorth_78 : decode cX12_triedWorth 78 = .ok (.lconst 0, 1) := by decide +kernel
theorem dX12_triedWorth_79 : decode cX12_triedWorth 79 = .ok (.goto 15, 3) := by decide +kernel
theorem dX12_triedWorth_82 : decode cX12_triedWorth 82 = .ok (.aload_n 0, 1) := by decide +kernel
theorem dX12_triedWorth_83 : decode cX12_triedWorth 83 = .ok (.getfield 53, 3) := by decide +kernel
theorem dX12_triedWorth_86 : decode cX12_triedWorth 86 = .ok (.bipush 20, 2) := by decide +kernel
theorem dX12_triedWorth_88 : decode cX12_triedWorth 88 = .ok (.iload_n 1, 1) := by decide +kernel
theorem dX12_triedWorth_89 : decode cX12_triedWorth 89 = .ok (.imul, 1) := by decide +kernel
theorem dX12_triedWorth_90 : decode cX12_triedWorth 90 = .ok (.iload 6, 2) := by decide +kernel
theorem dX12_triedWorth_92 : decode cX12_triedWorth 92 = .ok (.iadd, 1) := by decide +kernel
theorem dX12_triedWorth_93 : decode cX12_triedWorth 93 = .ok (.laload, 1) := by decide +kernel
theorem dX12_triedWorth_94 : decode cX12_triedWorth 94 = .ok (.lastore, 1) := by decide +kernel
theorem dX12_triedWorth_95 : decode cX12_triedWorth 95 = .ok (.iinc 6 1, 3) := by decide +kernel
theorem dX12_triedWorth_98 : decode cX12_triedWorth 98 = .ok (.goto (-92), 3) := by decide +kernel
theorem dX12_triedWorth_101 : decode cX12_triedWorth 101 = .ok (.lload 4, 2) := by decide +kernel
theorem dX12_triedWorth_103 : decode cX12_triedWorth 103 = .ok (.iload_n 2, 1) := by decide +kernel
theorem dX12_triedWorth_104 : decode cX12_triedWorth 104 = .ok (.invokestatic 376, 3) := by decide +kernel
theorem dX12_triedWorth_107 : decode cX12_triedWorth 107 = .ok (.lmul, 1) := by decide +kernel
theorem dX12_triedWorth_108 : decode cX12_triedWorth 108 = .ok (.ldc2_w 360, 3) := by decide +kernel
theorem dX12_triedWorth_111 : decode cX12_triedWorth 111 = .ok (.aload_n 0, 1) := by decide +kernel
theorem dX12_triedWorth_112 : decode cX12_triedWorth 112 = .ok (.iload_n 1, 1) := by decide +kernel
theorem dX12_triedWorth_113 : decode cX12_triedWorth 113 = .ok (.iconst 1, 1) := by decide +kernel
theorem dX12_triedWorth_114 : decode cX12_triedWorth 114 = .ok (.iadd, 1) := by decide +kernel
theorem dX12_triedWorth_115 : decode cX12_triedWorth 115 = .ok (.iload_n 2, 1) := by decide +kernel
theorem dX12_triedWorth_116 : decode cX12_triedWorth 116 = .ok (.iconst 1, 1) := by decide +kernel
theorem dX12_triedWorth_117 : decode cX12_triedWorth 117 = .ok (.isub, 1) := by decide +kernel
theorem dX12_triedWorth_118 : decode cX12_triedWorth 118 = .ok (.iload_n 3, 1) := by decide +kernel
theorem dX12_triedWorth_119 : decode cX12_triedWorth 119 = .ok (.invokevirtual 379, 3) := by decide +kernel
theorem dX12_triedWorth_122 : decode cX12_triedWorth 122 = .ok (.lmul, 1) := by decide +kernel
theorem dX12_triedWorth_123 : decode cX12_triedWorth 123 = .ok (.ladd, 1) := by decide +kernel
theorem dX12_triedWorth_124 : decode cX12_triedWorth 124 = .ok (.lreturn, 1) := by decide +kernel
theorem dX12_tryAs_0 : decode cX12_tryAs 0 = .ok (.iconst 0, 1) := by decide +kernel
theorem dX12_tryAs_1 : decode cX12_tryAs 1 = .ok (.istore_n 3, 1) := by decide +kernel
theorem dX12_tryAs_2 : decode cX12_tryAs 2 = .ok (.iload_n 3, 1) := by decide +kernel
theorem dX12_tryAs_3 : decode cX12_tryAs 3 = .ok (.iconst 2, 1) := by decide +kernel
theorem dX12_tryAs_4 : decode cX12_tryAs 4 = .ok (.aload_n 0, 1) := by decide +kernel
theorem dX12_tryAs_5 : decode cX12_tryAs 5 = .ok (.getfield 286, 3) := by decide +kernel
theorem dX12_tryAs_8 : decode cX12_tryAs 8 = .ok (.imul, 1) := by decide +kernel
theorem dX12_tryAs_9 : decode cX12_tryAs 9 = .ok (.if_icmp .ge 47, 3) := by decide +kernel
theorem dX12_tryAs_12 : decode cX12_tryAs 12 = .ok (.aload_n 0, 1) := by decide +kernel
theorem dX12_tryAs_13 : decode cX12_tryAs 13 = .ok (.getfield 56, 3) := by decide +kernel
theorem dX12_tryAs_16 : decode cX12_tryAs 16 = .ok (.iload_n 3, 1) := by decide +kernel
theorem dX12_tryAs_17 : decode cX12_tryAs 17 = .ok (.aload_n 0, 1) := by decide +kernel
theorem dX12_tryAs_18 : decode cX12_tryAs 18 = .ok (.aload_n 0, 1) := by decide +kernel
theorem dX12_tryAs_19 : decode cX12_tryAs 19 = .ok (.getfield 41, 3) := by decide +kernel
theorem dX12_tryAs_22 : decode cX12_tryAs 22 = .ok (.iload_n 3, 1) := by decide +kernel
theorem dX12_tryAs_23 : decode cX12_tryAs 23 = .ok (.iconst 2, 1) := by decide +kernel
theorem dX12_tryAs_24 : decode cX12_tryAs 24 = .ok (.idiv, 1) := by decide +kernel
theorem dX12_tryAs_25 : decode cX12_tryAs 25 = .ok (.iaload, 1) := by decide +kernel
theorem dX12_tryAs_26 : decode cX12_tryAs 26 = .ok (.iload_n 1, 1) := by decide +kernel
theorem dX12_tryAs_27 : decode cX12_tryAs 27 = .ok (.invokevirtual 345, 3) := by decide +kernel
theorem dX12_tryAs_30 : decode cX12_tryAs 30 = .ok (.iload_n 2, 1) := by decide +kernel
theorem dX12_tryAs_31 : decode cX12_tryAs 31 = .ok (.if_icmp .ne 17, 3) := by decide +kernel
theorem dX12_tryAs_34 : decode cX12_tryAs 34 = .ok (.aload_n 0, 1) := by decide +kernel
theorem dX12_tryAs_35 : decode cX12_tryAs 35 = .ok (.getfield 35, 3) := by decide +kernel
theorem dX12_tryAs_38 : decode cX12_tryAs 38 = .ok (.sipush 160, 3) := by decide +kernel
theorem dX12_tryAs_41 : decode cX12_tryAs 41 = .ok (.iload_n 3, 1) := by decide +kernel
theorem dX12_tryAs_42 : decode cX12_tryAs 42 = .ok (.iadd, 1) := by decide +kernel
theorem dX12_tryAs_43 : decode cX12_tryAs 43 = .ok (.iaload, 1) := by decide +kernel
theorem dX12_tryAs_44 : decode cX12_tryAs 44 = .ok (.i2l, 1) := by decide +kernel
theorem dX12_tryAs_45 : decode cX12_tryAs 45 = .ok (.goto 4, 3) := by decide +kernel
theorem dX12_tryAs_48 : decode cX12_tryAs 48 = .ok (.lconst 0, 1) := by decide +kernel
theorem dX12_tryAs_49 : decode cX12_tryAs 49 = .ok (.lastore, 1) := by decide +kernel
theorem dX12_tryAs_50 : decode cX12_tryAs 50 = .ok (.iinc 3 1, 3) := by decide +kernel
theorem dX12_tryAs_53 : decode cX12_tryAs 53 = .ok (.goto (-51), 3) := by decide +kernel
theorem dX12_tryAs_56 : decode cX12_tryAs 56 = .ok (.aload_n 0, 1) := by decide +kernel
theorem dX12_tryAs_57 : decode cX12_tryAs 57 = .ok (.invokevirtual 317, 3) := by decide +kernel
theorem dX12_tryAs_60 : decode cX12_tryAs 60 = .ok (.ireturn, 1) := by decide +kernel
theorem dX12_turn_0 : decode cX12_turn 0 = .ok (.aload_n 0, 1) := by decide +kernel
theorem dX12_turn_1 : decode cX12_turn 1 = .ok (.iconst 0, 1) := by decide +kernel
theorem dX12_turn_2 : decode cX12_turn 2 = .ok (.putfield 82, 3) := by decide +kernel
theorem dX12_turn_5 : decode cX12_turn 5 = .ok (.aload_n 0, 1) := by decide +kernel
theorem dX12_turn_6 : decode cX12_turn 6 = .ok (.iconst 0, 1) := by decide +kernel
theorem dX12_turn_7 : decode cX12_turn 7 = .ok (.putfield 85, 3) := by decide +kernel
theorem dX12_turn_10 : decode cX12_turn 10 = .ok (.aload_n 0, 1) := by decide +kernel
theorem dX12_turn_11 : decode cX12_turn 11 = .ok (.invokevirtual 323, 3) := by decide +kernel
theorem dX12_turn_14 : decode cX12_turn 14 = .ok (.ifCond .ne 10, 3) := by decide +kernel
theorem dX12_turn_17 : decode cX12_turn 17 = .ok (.aload_n 0, 1) := by decide +kernel
theorem dX12_turn_18 : decode cX12_turn 18 = .ok (.bipush 8, 2) := by decide +kernel
theorem dX12_turn_20 : decode cX12_turn 20 = .ok (.invokevirtual 97, 3) := by decide +kernel
theorem dX12_turn_23 : decode cX12_turn 23 = .ok (.ireturn, 1) := by decide +kernel
theorem dX12_turn_24 : decode cX12_turn 24 = .ok (.aload_n 0, 1) := by decide +kernel
theorem dX12_turn_25 : decode cX12_turn 25 = .ok (.invokevirtual 342, 3) := by decide +kernel
theorem dX12_turn_28 : decode cX12_turn 28 = .ok (.iconst 1, 1) := by decide +kernel
theorem dX12_turn_29 : decode cX12_turn 29 = .ok (.ireturn, 1) := by decide +kernel
theorem dX12_turnAs_0 : decode cX12_turnAs 0 = .ok (.iconst 0, 1) := by decide +kernel
theorem dX12_turnAs_1 : decode cX12_turnAs 1 = .ok (.istore_n 1, 1) := by decide +kernel
theorem dX12_turnAs_2 : decode cX12_turnAs 2 = .ok (.iload_n 1, 1) := by decide +kernel
theorem dX12_turnAs_3 : decode cX12_turnAs 3 = .ok (.iconst 2, 1) := by decide +kernel
theorem dX12_turnAs_4 : decode cX12_turnAs 4 = .ok (.aload_n 0, 1) := by decide +kernel
theorem dX12_turnAs_5 : decode cX12_turnAs 5 = .ok (.getfield 286, 3) := by decide +kernel
theorem dX12_turnAs_8 : decode cX12_turnAs 8 = .ok (.imul, 1) := by decide +kernel
theorem dX12_turnAs_9 : decode cX12_turnAs 9 = .ok (.if_icmp .ge 55, 3) := by decide +kernel
theorem dX12_turnAs_12 : decode cX12_turnAs 12 = .ok (.aload_n 0, 1) := by decide +kernel
theorem dX12_turnAs_13 : decode cX12_turnAs 13 = .ok (.getfield 35, 3) := by decide +kernel
theorem dX12_turnAs_16 : decode cX12_turnAs 16 = .ok (.sipush 160, 3) := by decide +kernel
theorem dX12_turnAs_19 : decode cX12_turnAs 19 = .ok (.iload_n 1, 1) := by decide +kernel
theorem dX12_turnAs_20 : decode cX12_turnAs 20 = .ok (.iadd, 1) := by decide +kernel
theorem dX12_turnAs_21 : decode cX12_turnAs 21 = .ok (.iaload, 1) := by decide +kernel
theorem dX12_turnAs_22 : decode cX12_turnAs 22 = .ok (.istore_n 2, 1) := by decide +kernel
theorem dX12_turnAs_23 : decode cX12_turnAs 23 = .ok (.aload_n 0, 1) := by decide +kernel
theorem dX12_turnAs_24 : decode cX12_turnAs 24 = .ok (.getfield 35, 3) := by decide +kernel
theorem dX12_turnAs_27 : decode cX12_turnAs 27 = .ok (.sipush 160, 3) := by decide +kernel
theorem dX12_turnAs_30 : decode cX12_turnAs 30 = .ok (.iload_n 1, 1) := by decide +kernel
theorem dX12_turnAs_31 : decode cX12_turnAs 31 = .ok (.iadd, 1) := by decide +kernel
theorem dX12_turnAs_32 : decode cX12_turnAs 32 = .ok (.aload_n 0, 1) := by decide +kernel
theorem dX12_turnAs_33 : decode cX12_turnAs 33 = .ok (.getfield 35, 3) := by decide +kernel
theorem dX12_turnAs_36 : decode cX12_turnAs 36 = .ok (.sipush 160, 3) := by decide +kernel
theorem dX12_turnAs_39 : decode cX12_turnAs 39 = .ok (.iload_n 1, 1) := by decide +kernel
theorem dX12_turnAs_40 : decode cX12_turnAs 40 = .ok (.iadd, 1) := by decide +kernel
theorem dX12_turnAs_41 : decode cX12_turnAs 41 = .ok (.iconst 1, 1) := by decide +kernel
theorem dX12_turnAs_42 : decode cX12_turnAs 42 = .ok (.iadd, 1) := by decide +kernel
theorem dX12_turnAs_43 : decode cX12_turnAs 43 = .ok (.iaload, 1) := by decide +kernel
theorem dX12_turnAs_44 : decode cX12_turnAs 44 = .ok (.iastore, 1) := by decide +kernel
theorem dX12_turnAs_45 : decode cX12_turnAs 45 = .ok (.aload_n 0, 1) := by decide +kernel
theorem dX12_turnAs_46 : decode cX12_turnAs 46 = .ok (.getfield 35, 3) := by decide +kernel
theorem dX12_turnAs_49 : decode cX12_turnAs 49 = .ok (.sipush 160, 3) := by decide +kernel
theorem dX12_turnAs_52 : decode cX12_turnAs 52 = .ok (.iload_n 1, 1) := by decide +kernel
theorem dX12_turnAs_53 : decode cX12_turnAs 53 = .ok (.iadd, 1) := by decide +kernel
theorem dX12_turnAs_54 : decode cX12_turnAs 54 = .ok (.iconst 1, 1) := by decide +kernel
theorem dX12_turnAs_55 : decode cX12_turnAs 55 = .ok (.iadd, 1) := by decide +kernel
theorem dX12_turnAs_56 : decode cX12_turnAs 56 = .ok (.iload_n 2, 1) := by decide +kernel
theorem dX12_turnAs_57 : decode cX12_turnAs 57 = .ok (.iastore, 1) := by decide +kernel
theorem dX12_turnAs_58 : decode cX12_turnAs 58 = .ok (.iinc 1 2, 3) := by decide +kernel
theorem dX12_turnAs_61 : decode cX12_turnAs 61 = .ok (.goto (-59), 3) := by decide +kernel
theorem dX12_turnAs_64 : decode cX12_turnAs 64 = .ok (.return_, 1) := by decide +kernel
theorem dX12_walk_0 : decode cX12_walk 0 = .ok (.iconst 0, 1) := by decide +kernel
theorem dX12_walk_1 : decode cX12_walk 1 = .ok (.istore_n 1, 1) := by decide +kernel
theorem dX12_walk_2 : decode cX12_walk 2 = .ok (.iconst 0, 1) := by decide +kernel
theorem dX12_walk_3 : decode cX12_walk 3 = .ok (.istore_n 2, 1) := by decide +kernel
theorem dX12_walk_4 : decode cX12_walk 4 = .ok (.iconst 0, 1) := by decide +kernel
theorem dX12_walk_5 : decode cX12_walk 5 = .ok (.istore_n 3, 1) := by decide +kernel
theorem dX12_walk_6 : decode cX12_walk 6 = .ok (.iload_n 3, 1) := by decide +kernel
theorem dX12_walk_7 : decode cX12_walk 7 = .ok (.aload_n 0, 1) := by decide +kernel
theorem dX12_walk_8 : decode cX12_walk 8 = .ok (.getfield 35, 3) := by decide +kernel
theorem dX12_walk_11 : decode cX12_walk 11 = .ok (.iconst 4, 1) := by decide +kernel
theorem dX12_walk_12 : decode cX12_walk 12 = .ok (.iaload, 1) := by decide +kernel
theorem dX12_walk_13 : decode cX12_walk 13 = .ok (.if_icmp .ge 139, 3) := by decide +kernel
theorem dX12_walk_16 : decode cX12_walk 16 = .ok (.iconst (-1), 1) := by decide +kernel
theorem dX12_walk_17 : decode cX12_walk 17 = .ok (.istore 4, 2) := by decide +kernel
theorem dX12_walk_19 : decode cX12_walk 19 = .ok (.iconst 0, 1) := by decide +kernel
theorem dX12_walk_20 : decode cX12_walk 20 = .ok (.istore 5, 2) := by decide +kernel
theorem dX12_walk_22 : decode cX12_walk 22 = .ok (.iconst 0, 1) := by decide +kernel
theorem dX12_walk_23 : decode cX12_walk 23 = .ok (.istore 6, 2) := by decide +kernel
theorem dX12_walk_25 : decode cX12_walk 25 = .ok (.iload 6, 2) := by decide +kernel
theorem dX12_walk_27 : decode cX12_walk 27 = .ok (.aload_n 0, 1) := by decide +kernel
theorem dX12_walk_28 : decode cX12_walk 28 = .ok (.getfield 286, 3) := by decide +kernel
theorem dX12_walk_31 : decode cX12_walk 31 = .ok (.if_icmp .ge 84, 3) := by decide +kernel
theorem dX12_walk_34 : decode cX12_walk 34 = .ok (.iload 6, 2) := by decide +kernel
theorem dX12_walk_36 : decode cX12_walk 36 = .ok (.aload_n 0, 1) := by decide +kernel
theorem dX12_walk_37 : decode cX12_walk 37 = .ok (.getfield 286, 3) := by decide +kernel
theorem dX12_walk_40 : decode cX12_walk 40 = .ok (.iload 6, 2) := by decide +kernel
theorem dX12_walk_42 : decode cX12_walk 42 = .ok (.isub, 1) := by decide +kernel
theorem dX12_walk_43 : decode cX12_walk 43 = .ok (.invokestatic 450, 3) := by decide +kernel
theorem dX12_walk_46 : decode cX12_walk 46 = .ok (.istore 7, 2) := by decide +kernel
theorem dX12_walk_48 : decode cX12_walk 48 = .ok (.aload_n 0, 1) := by decide +kernel
theorem dX12_walk_49 : decode cX12_walk 49 = .ok (.aload_n 0, 1) := by decide +kernel
theorem dX12_walk_50 : decode cX12_walk 50 = .ok (.getfield 41, 3) := by decide +kernel
theorem dX12_walk_53 : decode cX12_walk 53 = .ok (.iload_n 1, 1) := by decide +kernel
theorem dX12_walk_54 : decode cX12_walk 54 = .ok (.iload 6, 2) := by decide +kernel
theorem dX12_walk_56 : decode cX12_walk 56 = .ok (.iadd, 1) := by decide +kernel
theorem dX12_walk_57 : decode cX12_walk 57 = .ok (.aload_n 0, 1) := by decide +kernel
theorem dX12_walk_58 : decode cX12_walk 58 = .ok (.getfield 286, 3) := by decide +kernel
theorem dX12_walk_61 : decode cX12_walk 61 = .ok (.irem, 1) := by decide +kernel
theorem dX12_walk_62 : decode cX12_walk 62 = .ok (.iaload, 1) := by decide +kernel
theorem dX12_walk_63 : decode cX12_walk 63 = .ok (.aload_n 0, 1) := by decide +kernel
theorem dX12_walk_64 : decode cX12_walk 64 = .ok (.getfield 35, 3) := by decide +kernel
theorem dX12_walk_67 : decode cX12_walk 67 = .ok (.sipush 138, 3) := by decide +kernel
theorem dX12_walk_70 : decode cX12_walk 70 = .ok (.iload_n 3, 1) := by decide +kernel
theorem dX12_walk_71 : decode cX12_walk 71 = .ok (.iadd, 1) := by decide +kernel
theorem dX12_walk_72 : decode cX12_walk 72 = .ok (.iaload, 1) := by decide +kernel
theorem dX12_walk_73 : decode cX12_walk 73 = .ok (.invokevirtual 345, 3) := by decide +kernel
theorem dX12_walk_76 : decode cX12_walk 76 = .ok (.ifCond .eq 33, 3) := by decide +kernel
theorem dX12_walk_79 : decode cX12_walk 79 = .ok (.iload 4, 2) := by decide +kernel
theorem dX12_walk_81 : decode cX12_walk 81 = .ok (.ifCond .lt 13, 3) := by decide +kernel
theorem dX12_walk_84 : decode cX12_walk 84 = .ok (.iload 7, 2) := by decide +kernel
theorem dX12_walk_86 : decode cX12_walk 86 = .ok (.iload 5, 2) := by decide +kernel
theorem dX12_walk_88 : decode cX12_walk 88 = .ok (.if_icmp .lt 6, 3) := by decide +kernel
theorem dX12_walk_91 : decode cX12_walk 91 = .ok (.goto 18, 3) := by decide +kernel
theorem dX12_walk_94 : decode cX12_walk 94 = .ok (.iload_n 1, 1) := by decide +kernel
theorem dX12_walk_95 : decode cX12_walk 95 = .ok (.iload 6, 2) := by decide +kernel
theorem dX12_walk_97 : decode cX12_walk 97 = .ok (.iadd, 1) := by decide +kernel
theorem dX12_walk_98 : decode cX12_walk 98 = .ok (.aload_n 0, 1) := by decide +kernel
theorem dX12_walk_99 : decode cX12_walk 99 = .ok (.getfield 286, 3) := by decide +kernel
theorem dX12_walk_102 : decode cX12_walk 102 = .ok (.irem, 1) := by decide +kernel
theorem dX12_walk_103 : decode cX12_walk 103 = .ok (.istore 4, 2) := by decide +kernel
theorem dX12_walk_105 : decode cX12_walk 105 = .ok (.iload 7, 2) := by decide +kernel
theorem dX12_walk_107 : decode cX12_walk 107 = .ok (.istore 5, 2) := by decide +kernel
theorem dX12_walk_109 : decode cX12_walk 109 = .ok (.iinc 6 1, 3) := by decide +kernel
theorem dX12_walk_112 : decode cX12_walk 112 = .ok (.goto (-87), 3) := by decide +kernel
theorem dX12_walk_115 : decode cX12_walk 115 = .ok (.iload 4, 2) := by decide +kernel
theorem dX12_walk_117 : decode cX12_walk 117 = .ok (.ifCond .ge 5, 3) := by decide +kernel
theorem dX12_walk_120 : decode cX12_walk 120 = .ok (.iconst (-1), 1) := by decide +kernel
theorem dX12_walk_121 : decode cX12_walk 121 = .ok (.ireturn, 1) := by decide +kernel
theorem dX12_walk_122 : decode cX12_walk 122 = .ok (.iload_n 2, 1) := by decide +kernel
theorem dX12_walk_123 : decode cX12_walk 123 = .ok (.iload 5, 2) := by decide +kernel
theorem dX12_walk_125 : decode cX12_walk 125 = .ok (.aload_n 0, 1) := by decide +kernel
theorem dX12_walk_126 : decode cX12_walk 126 = .ok (.getfield 35, 3) := by decide +kernel
theorem dX12_walk_129 : decode cX12_walk 129 = .ok (.bipush 7, 2) := by decide +kernel
theorem dX12_walk_131 : decode cX12_walk 131 = .ok (.iaload, 1) := by decide +kernel
theorem dX12_walk_132 : decode cX12_walk 132 = .ok (.imul, 1) := by decide +kernel
theorem dX12_walk_133 : decode cX12_walk 133 = .ok (.aload_n 0, 1) := by decide +kernel
theorem dX12_walk_134 : decode cX12_walk 134 = .ok (.getfield 35, 3) := by decide +kernel
theorem dX12_walk_137 : decode cX12_walk 137 = .ok (.bipush 6, 2) := by decide +kernel
theorem dX12_walk_139 : decode cX12_walk 139 = .ok (.iaload, 1) := by decide +kernel
theorem dX12_walk_140 : decode cX12_walk 140 = .ok (.iadd, 1) := by decide +kernel
theorem dX12_walk_141 : decode cX12_walk 141 = .ok (.iadd, 1) := by decide +kernel
theorem dX12_walk_142 : decode cX12_walk 142 = .ok (.istore_n 2, 1) := by decide +kernel
theorem dX12_walk_143 : decode cX12_walk 143 = .ok (.iload 4, 2) := by decide +kernel
theorem dX12_walk_145 : decode cX12_walk 145 = .ok (.istore_n 1, 1) := by decide +kernel
theorem dX12_walk_146 : decode cX12_walk 146 = .ok (.iinc 3 1, 3) := by decide +kernel
theorem dX12_walk_149 : decode cX12_walk 149 = .ok (.goto (-143), 3) := by decide +kernel
theorem dX12_walk_152 : decode cX12_walk 152 = .ok (.iload_n 2, 1) := by decide +kernel
theorem dX12_walk_153 : decode cX12_walk 153 = .ok (.ireturn, 1) := by decide +kernel
theorem dX12_walked_0 : decode cX12_walked 0 = .ok (.aload_n 0, 1) := by decide +kernel
theorem dX12_walked_1 : decode cX12_walked 1 = .ok (.iconst 0, 1) := by decide +kernel
theorem dX12_walked_2 : decode cX12_walked 2 = .ok (.putfield 82, 3) := by decide +kernel
theorem dX12_walked_5 : decode cX12_walked 5 = .ok (.aload_n 0, 1) := by decide +kernel
theorem dX12_walked_6 : decode cX12_walked 6 = .ok (.iconst 0, 1) := by decide +kernel
theorem dX12_walked_7 : decode cX12_walked 7 = .ok (.putfield 85, 3) := by decide +kernel
theorem dX12_walked_10 : decode cX12_walked 10 = .ok (.aload_n 0, 1) := by decide +kernel
theorem dX12_walked_11 : decode cX12_walked 11 = .ok (.iload_n 1, 1) := by decide +kernel
theorem dX12_walked_12 : decode cX12_walked 12 = .ok (.invokevirtual 289, 3) := by decide +kernel
theorem dX12_walked_15 : decode cX12_walked 15 = .ok (.ifCond .ne 9, 3) := by decide +kernel
theorem dX12_walked_18 : decode cX12_walked 18 = .ok (.aload_n 0, 1) := by decide +kernel
theorem dX12_walked_19 : decode cX12_walked 19 = .ok (.iconst 2, 1) := by decide +kernel
theorem dX12_walked_20 : decode cX12_walked 20 = .ok (.invokevirtual 269, 3) := by decide +kernel
theorem dX12_walked_23 : decode cX12_walked 23 = .ok (.ireturn, 1) := by decide +kernel
theorem dX12_walked_24 : decode cX12_walked 24 = .ok (.aload_n 0, 1) := by decide +kernel
theorem dX12_walked_25 : decode cX12_walked 25 = .ok (.iload_n 1, 1) := by decide +kernel
theorem dX12_walked_26 : decode cX12_walked 26 = .ok (.invokevirtual 292, 3) := by decide +kernel
theorem dX12_walked_29 : decode cX12_walked 29 = .ok (.aload_n 0, 1) := by decide +kernel
theorem dX12_walked_30 : decode cX12_walked 30 = .ok (.getfield 35, 3) := by decide +kernel
theorem dX12_walked_33 : decode cX12_walked 33 = .ok (.iconst 4, 1) := by decide +kernel
theorem dX12_walked_34 : decode cX12_walked 34 = .ok (.iaload, 1) := by decide +kernel
theorem dX12_walked_35 : decode cX12_walked 35 = .ok (.ifCond .ne 7, 3) := by decide +kernel
theorem dX12_walked_38 : decode cX12_walked 38 = .ok (.iconst (-1), 1) := by decide +kernel
theorem dX12_walked_39 : decode cX12_walked 39 = .ok (.goto 7, 3) := by decide +kernel
theorem dX12_walked_42 : decode cX12_walked 42 = .ok (.aload_n 0, 1) := by decide +kernel
theorem dX12_walked_43 : decode cX12_walked 43 = .ok (.invokevirtual 408, 3) := by decide +kernel
theorem dX12_walked_46 : decode cX12_walked 46 = .ok (.istore_n 2, 1) := by decide +kernel
theorem dX12_walked_47 : decode cX12_walked 47 = .ok (.iload_n 2, 1) := by decide +kernel
theorem dX12_walked_48 : decode cX12_walked 48 = .ok (.ifCond .ge 12, 3) := by decide +kernel
theorem dX12_walked_51 : decode cX12_walked 51 = .ok (.aload_n 0, 1) := by decide +kernel
theorem dX12_walked_52 : decode cX12_walked 52 = .ok (.bipush 8, 2) := by decide +kernel
theorem dX12_walked_54 : decode cX12_walked 54 = .ok (.invokevirtual 269, 3) := by decide +kernel
theorem dX12_walked_57 : decode cX12_walked 57 = .ok (.goto 4, 3) := by decide +kernel
theorem dX12_walked_60 : decode cX12_walked 60 = .ok (.iload_n 2, 1) := by decide +kernel
theorem dX12_walked_61 : decode cX12_walked 61 = .ok (.ireturn, 1) := by decide +kernel
theorem dX12_worth_0 : decode cX12_worth 0 = .ok (.aload_n 0, 1) := by decide +kernel
theorem dX12_worth_1 : decode cX12_worth 1 = .ok (.iconst 0, 1) := by decide +kernel
theorem dX12_worth_2 : decode cX12_worth 2 = .ok (.putfield 82, 3) := by decide +kernel
theorem dX12_worth_5 : decode cX12_worth 5 = .ok (.aload_n 0, 1) := by decide +kernel
theorem dX12_worth_6 : decode cX12_worth 6 = .ok (.iconst 0, 1) := by decide +kernel
theorem dX12_worth_7 : decode cX12_worth 7 = .ok (.putfield 85, 3) := by decide +kernel
theorem dX12_worth_10 : decode cX12_worth 10 = .ok (.aload_n 0, 1) := by decide +kernel
theorem dX12_worth_11 : decode cX12_worth 11 = .ok (.iload_n 1, 1) := by decide +kernel
theorem dX12_worth_12 : decode cX12_worth 12 = .ok (.invokevirtual 295, 3) := by decide +kernel
theorem dX12_worth_15 : decode cX12_worth 15 = .ok (.ifCond .ne 9, 3) := by decide +kernel
theorem dX12_worth_18 : decode cX12_worth 18 = .ok (.aload_n 0, 1) := by decide +kernel
theorem dX12_worth_19 : decode cX12_worth 19 = .ok (.iconst 2, 1) := by decide +kernel
theorem dX12_worth_20 : decode cX12_worth 20 = .ok (.invokevirtual 97, 3) := by decide +kernel
theorem dX12_worth_23 : decode cX12_worth 23 = .ok (.ireturn, 1) := by decide +kernel
theorem dX12_worth_24 : decode cX12_worth 24 = .ok (.iload_n 2, 1) := by decide +kernel
theorem dX12_worth_25 : decode cX12_worth 25 = .ok (.i2l, 1) := by decide +kernel
theorem dX12_worth_26 : decode cX12_worth 26 = .ok (.lconst 0, 1) := by decide +kernel
theorem dX12_worth_27 : decode cX12_worth 27 = .ok (.ldc2_w 382, 3) := by decide +kernel
theorem dX12_worth_30 : decode cX12_worth 30 = .ok (.invokestatic 117, 3) := by decide +kernel
theorem dX12_worth_33 : decode cX12_worth 33 = .ok (.ifCond .ne 9, 3) := by decide +kernel
theorem dX12_worth_36 : decode cX12_worth 36 = .ok (.aload_n 0, 1) := by decide +kernel
theorem dX12_worth_37 : decode cX12_worth 37 = .ok (.iconst 5, 1) := by decide +kernel
theorem dX12_worth_38 : decode cX12_worth 38 = .ok (.invokevirtual 97, 3) := by decide +kernel
theorem dX12_worth_41 : decode cX12_worth 41 = .ok (.ireturn, 1) := by decide +kernel
theorem dX12_worth_42 : decode cX12_worth 42 = .ok (.aload_n 0, 1) := by decide +kernel
theorem dX12_worth_43 : decode cX12_worth 43 = .ok (.invokevirtual 323, 3) := by decide +kernel
theorem dX12_worth_46 : decode cX12_worth 46 = .ok (.ifCond .ne 10, 3) := by decide +kernel
theorem dX12_worth_49 : decode cX12_worth 49 = .ok (.aload_n 0, 1) := by decide +kernel
theorem dX12_worth_50 : decode cX12_worth 50 = .ok (.bipush 8, 2) := by decide +kernel
theorem dX12_worth_52 : decode cX12_worth 52 = .ok (.invokevirtual 97, 3) := by decide +kernel
theorem dX12_worth_55 : decode cX12_worth 55 = .ok (.ireturn, 1) := by decide +kernel
theorem dX12_worth_56 : decode cX12_worth 56 = .ok (.aload_n 0, 1) := by decide +kernel
theorem dX12_worth_57 : decode cX12_worth 57 = .ok (.aload_n 0, 1) := by decide +kernel
theorem dX12_worth_58 : decode cX12_worth 58 = .ok (.iload_n 1, 1) := by decide +kernel
theorem dX12_worth_59 : decode cX12_worth 59 = .ok (.iload_n 2, 1) := by decide +kernel
theorem dX12_worth_60 : decode cX12_worth 60 = .ok (.invokevirtual 384, 3) := by decide +kernel
theorem dX12_worth_63 : decode cX12_worth 63 = .ok (.ldc2_w 315, 3) := by decide +kernel
theorem dX12_worth_66 : decode cX12_worth 66 = .ok (.iload_n 2, 1) := by decide +kernel
theorem dX12_worth_67 : decode cX12_worth 67 = .ok (.invokestatic 376, 3) := by decide +kernel
theorem dX12_worth_70 : decode cX12_worth 70 = .ok (.lmul, 1) := by decide +kernel
theorem dX12_worth_71 : decode cX12_worth 71 = .ok (.invokevirtual 352, 3) := by decide +kernel
theorem dX12_worth_74 : decode cX12_worth 74 = .ok (.ireturn, 1) := by decide +kernel
theorem dX12_worthOf_0 : decode cX12_worthOf 0 = .ok (.iload_n 2, 1) := by decide +kernel
theorem dX12_worthOf_1 : decode cX12_worthOf 1 = .ok (.ifCond .ne 5, 3) := by decide +kernel
theorem dX12_worthOf_4 : decode cX12_worthOf 4 = .ok (.lconst 0, 1) := by decide +kernel
theorem dX12_worthOf_5 : decode cX12_worthOf 5 = .ok (.lreturn, 1) := by decide +kernel
theorem dX12_worthOf_6 : decode cX12_worthOf 6 = .ok (.aload_n 0, 1) := by decide +kernel
theorem dX12_worthOf_7 : decode cX12_worthOf 7 = .ok (.iload_n 1, 1) := by decide +kernel
theorem dX12_worthOf_8 : decode cX12_worthOf 8 = .ok (.iload_n 2, 1) := by decide +kernel
theorem dX12_worthOf_9 : decode cX12_worthOf 9 = .ok (.iload_n 3, 1) := by decide +kernel
theorem dX12_worthOf_10 : decode cX12_worthOf 10 = .ok (.invokevirtual 362, 3) := by decide +kernel
theorem dX12_worthOf_13 : decode cX12_worthOf 13 = .ok (.lstore 4, 2) := by decide +kernel
theorem dX12_worthOf_15 : decode cX12_worthOf 15 = .ok (.iconst 0, 1) := by decide +kernel
theorem dX12_worthOf_16 : decode cX12_worthOf 16 = .ok (.istore 6, 2) := by decide +kernel
theorem dX12_worthOf_18 : decode cX12_worthOf 18 = .ok (.aload_n 0, 1) := by decide +kernel
theorem dX12_worthOf_19 : decode cX12_worthOf 19 = .ok (.iload_n 1, 1) := by decide +kernel
theorem dX12_worthOf_20 : decode cX12_worthOf 20 = .ok (.iload_n 2, 1) := by decide +kernel
theorem dX12_worthOf_21 : decode cX12_worthOf 21 = .ok (.iload_n 3, 1) := by decide +kernel
theorem dX12_worthOf_22 : decode cX12_worthOf 22 = .ok (.invokevirtual 366, 3) := by decide +kernel
theorem dX12_worthOf_25 : decode cX12_worthOf 25 = .ok (.lstore 7, 2) := by decide +kernel
theorem dX12_worthOf_27 : decode cX12_worthOf 27 = .ok (.lload 7, 2) := by decide +kernel
theorem dX12_worthOf_29 : decode cX12_worthOf 29 = .ok (.lload 4, 2) := by decide +kernel
theorem dX12_worthOf_31 : decode cX12_worthOf 31 = .ok (.lcmp, 1) := by decide +kernel
theorem dX12_worthOf_32 : decode cX12_worthOf 32 = .ok (.ifCond .le 10, 3) := by decide +kernel
theorem dX12_worthOf_35 : decode cX12_worthOf 35 = .ok (.lload 7, 2) := by decide +kernel
theorem dX12_worthOf_37 : decode cX12_worthOf 37 = .ok (.lstore 4, 2) := by decide +kernel
theorem dX12_worthOf_39 : decode cX12_worthOf 39 = .ok (.iconst 1, 1) := by decide +kernel
theorem dX12_worthOf_40 : decode cX12_worthOf 40 = .ok (.istore 6, 2) := by decide +kernel
theorem dX12_worthOf_42 : decode cX12_worthOf 42 = .ok (.iconst 0, 1) := by decide +kernel
theorem dX12_worthOf_43 : decode cX12_worthOf 43 = .ok (.istore 9, 2) := by decide +kernel
theorem dX12_worthOf_45 : decode cX12_worthOf 45 = .ok (.iload 9, 2) := by decide +kernel
theorem dX12_worthOf_47 : decode cX12_worthOf 47 = .ok (.aload_n 0, 1) := by decide +kernel
theorem dX12_worthOf_48 : decode cX12_worthOf 48 = .ok (.getfield 35, 3) := by decide +kernel
theorem dX12_worthOf_51 : decode cX12_worthOf 51 = .ok (.iconst 0, 1) := by decide +kernel
theorem dX12_worthOf_52 : decode cX12_worthOf 52 = .ok (.iaload, 1) := by decide +kernel
theorem dX12_worthOf_53 : decode cX12_worthOf 53 = .ok (.if_icmp .ge 41, 3) := by decide +kernel
theorem dX12_worthOf_56 : decode cX12_worthOf 56 = .ok (.aload_n 0, 1) := by decide +kernel
theorem dX12_worthOf_57 : decode cX12_worthOf 57 = .ok (.iload_n 1, 1) := by decide +kernel
theorem dX12_worthOf_58 : decode cX12_worthOf 58 = .ok (.iload_n 2, 1) := by decide +kernel
theorem dX12_worthOf_59 : decode cX12_worthOf 59 = .ok (.iload_n 3, 1) := by decide +kernel
theorem dX12_worthOf_60 : decode cX12_worthOf 60 = .ok (.iload 9, 2) := by decide +kernel
theorem dX12_worthOf_62 : decode cX12_worthOf 62 = .ok (.invokevirtual 369, 3) := by decide +kernel
theorem dX12_worthOf_65 : decode cX12_worthOf 65 = .ok (.lstore 7, 2) := by decide +kernel
theorem dX12_worthOf_67 : decode cX12_worthOf 67 = .ok (.lload 7, 2) := by decide +kernel
theorem dX12_worthOf_69 : decode cX12_worthOf 69 = .ok (.lload 4, 2) := by decide +kernel
theorem dX12_worthOf_71 : decode cX12_worthOf 71 = .ok (.lcmp, 1) := by decide +kernel
theorem dX12_worthOf_72 : decode cX12_worthOf 72 = .ok (.ifCond .gt 6, 3) := by decide +kernel
theorem dX12_worthOf_75 : decode cX12_worthOf 75 = .ok (.goto 13, 3) := by decide +kernel
theorem dX12_worthOf_78 : decode cX12_worthOf 78 = .ok (.lload 7, 2) := by decide +kernel
theorem dX12_worthOf_80 : decode cX12_worthOf 80 = .ok (.lstore 4, 2) := by decide +kernel
theorem dX12_worthOf_82 : decode cX12_worthOf 82 = .ok (.iconst 2, 1) := by decide +kernel
theorem dX12_worthOf_83 : decode cX12_worthOf 83 = .ok (.iload 9, 2) := by decide +kernel
theorem dX12_worthOf_85 : decode cX12_worthOf 85 = .ok (.iadd, 1) := by decide +kernel
theorem dX12_worthOf_86 : decode cX12_worthOf 86 = .ok (.istore 6, 2) := by decide +kernel
theorem dX12_worthOf_88 : decode cX12_worthOf 88 = .ok (.iinc 9 1, 3) := by decide +kernel
theorem dX12_worthOf_91 : decode cX12_worthOf 91 = .ok (.goto (-46), 3) := by decide +kernel
theorem dX12_worthOf_94 : decode cX12_worthOf 94 = .ok (.iload_n 1, 1) := by decide +kernel
theorem dX12_worthOf_95 : decode cX12_worthOf 95 = .ok (.ifCond .ne 9, 3) := by decide +kernel
theorem dX12_worthOf_98 : decode cX12_worthOf 98 = .ok (.aload_n 0, 1) := by decide +kernel
theorem dX12_worthOf_99 : decode cX12_worthOf 99 = .ok (.iload 6, 2) := by decide +kernel
theorem dX12_worthOf_101 : decode cX12_worthOf 101 = .ok (.putfield 373, 3) := by decide +kernel
theorem dX12_worthOf_104 : decode cX12_worthOf 104 = .ok (.lload 4, 2) := by decide +kernel
theorem dX12_worthOf_106 : decode cX12_worthOf 106 = .ok (.lreturn, 1) := by decide +kernel
theorem dX12_write_0 : decode cX12_write 0 = .ok (.aload_n 0, 1) := by decide +kernel
theorem dX12_write_1 : decode cX12_write 1 = .ok (.iconst 0, 1) := by decide +kernel
theorem dX12_write_2 : decode cX12_write 2 = .ok (.putfield 82, 3) := by decide +kernel
theorem dX12_write_5 : decode cX12_write 5 = .ok (.aload_n 0, 1) := by decide +kernel
theorem dX12_write_6 : decode cX12_write 6 = .ok (.aload_n 0, 1) := by decide +kernel
theorem dX12_write_7 : decode cX12_write 7 = .ok (.iload_n 1, 1) := by decide +kernel
theorem dX12_write_8 : decode cX12_write 8 = .ok (.iload_n 2, 1) := by decide +kernel
theorem dX12_write_9 : decode cX12_write 9 = .ok (.invokevirtual 105, 3) := by decide +kernel
theorem dX12_write_12 : decode cX12_write 12 = .ok (.putfield 85, 3) := by decide +kernel
theorem dX12_write_15 : decode cX12_write 15 = .ok (.aload_n 0, 1) := by decide +kernel
theorem dX12_write_16 : decode cX12_write 16 = .ok (.getfield 85, 3) := by decide +kernel
theorem dX12_write_19 : decode cX12_write 19 = .ok (.ifCond .le 5, 3) := by decide +kernel
theorem dX12_write_22 : decode cX12_write 22 = .ok (.iconst 0, 1) := by decide +kernel
theorem dX12_write_23 : decode cX12_write 23 = .ok (.ireturn, 1) := by decide +kernel
theorem dX12_write_24 : decode cX12_write 24 = .ok (.aload_n 0, 1) := by decide +kernel
theorem dX12_write_25 : decode cX12_write 25 = .ok (.getfield 20, 3) := by decide +kernel
theorem dX12_write_28 : decode cX12_write 28 = .ok (.bipush 60, 2) := by decide +kernel
theorem dX12_write_30 : decode cX12_write 30 = .ok (.iload_n 1, 1) := by decide +kernel
theorem dX12_write_31 : decode cX12_write 31 = .ok (.imul, 1) := by decide +kernel
theorem dX12_write_32 : decode cX12_write 32 = .ok (.iload_n 2, 1) := by decide +kernel
theorem dX12_write_33 : decode cX12_write 33 = .ok (.iadd, 1) := by decide +kernel
theorem dX12_write_34 : decode cX12_write 34 = .ok (.aload_n 0, 1) := by decide +kernel
theorem dX12_write_35 : decode cX12_write 35 = .ok (.getfield 13, 3) := by decide +kernel
theorem dX12_write_38 : decode cX12_write 38 = .ok (.iload_n 1, 1) := by decide +kernel
theorem dX12_write_39 : decode cX12_write 39 = .ok (.iaload, 1) := by decide +kernel
theorem dX12_write_40 : decode cX12_write 40 = .ok (.lload_n 3, 1) := by decide +kernel
theorem dX12_write_41 : decode cX12_write 41 = .ok (.invokestatic 109, 3) := by decide +kernel
theorem dX12_write_44 : decode cX12_write 44 = .ok (.lastore, 1) := by decide +kernel
theorem dX12_write_45 : decode cX12_write 45 = .ok (.iconst 1, 1) := by decide +kernel
theorem dX12_write_46 : decode cX12_write 46 = .ok (.ireturn, 1) := by decide +kernel
theorem dX12_wrong_0 : decode cX12_wrong 0 = .ok (.aload_n 0, 1) := by decide +kernel
theorem dX12_wrong_1 : decode cX12_wrong 1 = .ok (.aload_n 0, 1) := by decide +kernel
theorem dX12_wrong_2 : decode cX12_wrong 2 = .ok (.getfield 133, 3) := by decide +kernel
theorem dX12_wrong_5 : decode cX12_wrong 5 = .ok (.iconst 4, 1) := by decide +kernel
theorem dX12_wrong_6 : decode cX12_wrong 6 = .ok (.if_icmp .ne 7, 3) := by decide +kernel
theorem dX12_wrong_9 : decode cX12_wrong 9 = .ok (.iconst 1, 1) := by decide +kernel
theorem dX12_wrong_10 : decode cX12_wrong 10 = .ok (.goto 4, 3) := by decide +kernel
theorem dX12_wrong_13 : decode cX12_wrong 13 = .ok (.iconst 2, 1) := by decide +kernel
theorem dX12_wrong_14 : decode cX12_wrong 14 = .ok (.aload_n 0, 1) := by decide +kernel
theorem dX12_wrong_15 : decode cX12_wrong 15 = .ok (.getfield 127, 3) := by decide +kernel
theorem dX12_wrong_18 : decode cX12_wrong 18 = .ok (.invokevirtual 180, 3) := by decide +kernel
theorem dX12_wrong_21 : decode cX12_wrong 21 = .ok (.return_, 1) := by decide +kernel
