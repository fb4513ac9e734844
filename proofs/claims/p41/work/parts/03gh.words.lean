theorem dX7_findPlace_0 : decode cX7_findPlace 0 = .ok (.iconst (-1), 1) := by decide +kernel
theorem dX7_findPlace_1 : decode cX7_findPlace 1 = .ok (.istore 4, 2) := by decide +kernel
theorem dX7_findPlace_3 : decode cX7_findPlace 3 = .ok (.iconst 0, 1) := by decide +kernel
theorem dX7_findPlace_4 : decode cX7_findPlace 4 = .ok (.istore 5, 2) := by decide +kernel
theorem dX7_findPlace_6 : decode cX7_findPlace 6 = .ok (.iconst 0, 1) := by decide +kernel
theorem dX7_findPlace_7 : decode cX7_findPlace 7 = .ok (.istore 6, 2) := by decide +kernel
theorem dX7_findPlace_9 : decode cX7_findPlace 9 = .ok (.iload 6, 2) := by decide +kernel
theorem dX7_findPlace_11 : decode cX7_findPlace 11 = .ok (.aload_n 0, 1) := by decide +kernel
theorem dX7_findPlace_12 : decode cX7_findPlace 12 = .ok (.getfield 42, 3) := by decide +kernel
theorem dX7_findPlace_15 : decode cX7_findPlace 15 = .ok (.iload_n 2, 1) := by decide +kernel
theorem dX7_findPlace_16 : decode cX7_findPlace 16 = .ok (.invokevirtual 158, 3) := by decide +kernel
theorem dX7_findPlace_19 : decode cX7_findPlace 19 = .ok (.if_icmp .gt 55, 3) := by decide +kernel
theorem dX7_findPlace_22 : decode cX7_findPlace 22 = .ok (.aload_n 0, 1) := by decide +kernel
theorem dX7_findPlace_23 : decode cX7_findPlace 23 = .ok (.iload_n 1, 1) := by decide +kernel
theorem dX7_findPlace_24 : decode cX7_findPlace 24 = .ok (.iload_n 2, 1) := by decide +kernel
theorem dX7_findPlace_25 : decode cX7_findPlace 25 = .ok (.iload 6, 2) := by decide +kernel
theorem dX7_findPlace_27 : decode cX7_findPlace 27 = .ok (.invokevirtual 161, 3) := by decide +kernel
theorem dX7_findPlace_30 : decode cX7_findPlace 30 = .ok (.aload_n 0, 1) := by decide +kernel
theorem dX7_findPlace_31 : decode cX7_findPlace 31 = .ok (.iload_n 3, 1) := by decide +kernel
theorem dX7_findPlace_32 : decode cX7_findPlace 32 = .ok (.invokevirtual 80, 3) := by decide +kernel
theorem dX7_findPlace_35 : decode cX7_findPlace 35 = .ok (.ifCond .ne 5, 3) := by decide +kernel
theorem dX7_findPlace_38 : decode cX7_findPlace 38 = .ok (.iconst (-1), 1) := by decide +kernel
theorem dX7_findPlace_39 : decode cX7_findPlace 39 = .ok (.ireturn, 1) := by decide +kernel
theorem dX7_findPlace_40 : decode cX7_findPlace 40 = .ok (.aload_n 0, 1) := by decide +kernel
theorem dX7_findPlace_41 : decode cX7_findPlace 41 = .ok (.iload_n 3, 1) := by decide +kernel
theorem dX7_findPlace_42 : decode cX7_findPlace 42 = .ok (.invokevirtual 91, 3) := by decide +kernel
theorem dX7_findPlace_45 : decode cX7_findPlace 45 = .ok (.istore 7, 2) := by decide +kernel
theorem dX7_findPlace_47 : decode cX7_findPlace 47 = .ok (.iload 4, 2) := by decide +kernel
theorem dX7_findPlace_49 : decode cX7_findPlace 49 = .ok (.iconst (-1), 1) := by decide +kernel
theorem dX7_findPlace_50 : decode cX7_findPlace 50 = .ok (.if_icmp .eq 10, 3) := by decide +kernel
theorem dX7_findPlace_53 : decode cX7_findPlace 53 = .ok (.iload 7, 2) := by decide +kernel
theorem dX7_findPlace_55 : decode cX7_findPlace 55 = .ok (.iload 5, 2) := by decide +kernel
theorem dX7_findPlace_57 : decode cX7_findPlace 57 = .ok (.if_icmp .ge 11, 3) := by decide +kernel
theorem dX7_findPlace_60 : decode cX7_findPlace 60 = .ok (.iload 6, 2) := by decide +kernel
theorem dX7_findPlace_62 : decode cX7_findPlace 62 = .ok (.istore 4, 2) := by decide +kernel
theorem dX7_findPlace_64 : decode cX7_findPlace 64 = .ok (.iload 7, 2) := by decide +kernel
theorem dX7_findPlace_66 : decode cX7_findPlace 66 = .ok (.istore 5, 2) := by decide +kernel
theorem dX7_findPlace_68 : decode cX7_findPlace 68 = .ok (.iinc 6 1, 3) := by decide +kernel
theorem dX7_findPlace_71 : decode cX7_findPlace 71 = .ok (.goto (-62), 3) := by decide +kernel
theorem dX7_findPlace_74 : decode cX7_findPlace 74 = .ok (.aload_n 0, 1) := by decide +kernel
theorem dX7_findPlace_75 : decode cX7_findPlace 75 = .ok (.iload 5, 2) := by decide +kernel
theorem dX7_findPlace_77 : decode cX7_findPlace 77 = .ok (.i2l, 1) := by decide +kernel
theorem dX7_findPlace_78 : decode cX7_findPlace 78 = .ok (.putfield 35, 3) := by decide +kernel
theorem dX7_findPlace_81 : decode cX7_findPlace 81 = .ok (.aload_n 0, 1) := by decide +kernel
theorem dX7_findPlace_82 : decode cX7_findPlace 82 = .ok (.aload_n 0, 1) := by decide +kernel
theorem dX7_findPlace_83 : decode cX7_findPlace 83 = .ok (.getfield 52, 3) := by decide +kernel
theorem dX7_findPlace_86 : decode cX7_findPlace 86 = .ok (.i2l, 1) := by decide +kernel
theorem dX7_findPlace_87 : decode cX7_findPlace 87 = .ok (.putfield 39, 3) := by decide +kernel
theorem dX7_findPlace_90 : decode cX7_findPlace 90 = .ok (.iload 4, 2) := by decide +kernel
theorem dX7_findPlace_92 : decode cX7_findPlace 92 = .ok (.ireturn, 1) := by decide +kernel
theorem dX7_findRings_0 : decode cX7_findRings 0 = .ok (.aload_n 0, 1) := by decide +kernel
theorem dX7_findRings_1 : decode cX7_findRings 1 = .ok (.iload_n 1, 1) := by decide +kernel
theorem dX7_findRings_2 : decode cX7_findRings 2 = .ok (.invokevirtual 139, 3) := by decide +kernel
theorem dX7_findRings_5 : decode cX7_findRings 5 = .ok (.istore_n 2, 1) := by decide +kernel
theorem dX7_findRings_6 : decode cX7_findRings 6 = .ok (.aload_n 0, 1) := by decide +kernel
theorem dX7_findRings_7 : decode cX7_findRings 7 = .ok (.iload_n 2, 1) := by decide +kernel
theorem dX7_findRings_8 : decode cX7_findRings 8 = .ok (.invokevirtual 142, 3) := by decide +kernel
theorem dX7_findRings_11 : decode cX7_findRings 11 = .ok (.ifCond .ne 5, 3) := by decide +kernel
theorem dX7_findRings_14 : decode cX7_findRings 14 = .ok (.iconst 0, 1) := by decide +kernel
theorem dX7_findRings_15 : decode cX7_findRings 15 = .ok (.ireturn, 1) := by decide +kernel
theorem dX7_findRings_16 : decode cX7_findRings 16 = .ok (.iconst 1, 1) := by decide +kernel
theorem dX7_findRings_17 : decode cX7_findRings 17 = .ok (.istore_n 3, 1) := by decide +kernel
theorem dX7_findRings_18 : decode cX7_findRings 18 = .ok (.iconst 1, 1) := by decide +kernel
theorem dX7_findRings_19 : decode cX7_findRings 19 = .ok (.istore 4, 2) := by decide +kernel
theorem dX7_findRings_21 : decode cX7_findRings 21 = .ok (.lconst 0, 1) := by decide +kernel
theorem dX7_findRings_22 : decode cX7_findRings 22 = .ok (.lstore 5, 2) := by decide +kernel
theorem dX7_findRings_24 : decode cX7_findRings 24 = .ok (.lconst 1, 1) := by decide +kernel
theorem dX7_findRings_25 : decode cX7_findRings 25 = .ok (.lstore 7, 2) := by decide +kernel
theorem dX7_findRings_27 : decode cX7_findRings 27 = .ok (.iconst 0, 1) := by decide +kernel
theorem dX7_findRings_28 : decode cX7_findRings 28 = .ok (.istore 9, 2) := by decide +kernel
theorem dX7_findRings_30 : decode cX7_findRings 30 = .ok (.iload 9, 2) := by decide +kernel
theorem dX7_findRings_32 : decode cX7_findRings 32 = .ok (.sipush 720, 3) := by decide +kernel
theorem dX7_findRings_35 : decode cX7_findRings 35 = .ok (.if_icmp .ge 74, 3) := by decide +kernel
theorem dX7_findRings_38 : decode cX7_findRings 38 = .ok (.iload 4, 2) := by decide +kernel
theorem dX7_findRings_40 : decode cX7_findRings 40 = .ok (.ifCond .eq 69, 3) := by decide +kernel
theorem dX7_findRings_43 : decode cX7_findRings 43 = .ok (.aload_n 0, 1) := by decide +kernel
theorem dX7_findRings_44 : decode cX7_findRings 44 = .ok (.iload_n 2, 1) := by decide +kernel
theorem dX7_findRings_45 : decode cX7_findRings 45 = .ok (.invokevirtual 145, 3) := by decide +kernel
theorem dX7_findRings_48 : decode cX7_findRings 48 = .ok (.iload_n 3, 1) := by decide +kernel
theorem dX7_findRings_49 : decode cX7_findRings 49 = .ok (.ifCond .ne 21, 3) := by decide +kernel
theorem dX7_findRings_52 : decode cX7_findRings 52 = .ok (.aload_n 0, 1) := by decide +kernel
theorem dX7_findRings_53 : decode cX7_findRings 53 = .ok (.getfield 35, 3) := by decide +kernel
theorem dX7_findRings_56 : decode cX7_findRings 56 = .ok (.lload 7, 2) := by decide +kernel
theorem dX7_findRings_58 : decode cX7_findRings 58 = .ok (.lmul, 1) := by decide +kernel
theorem dX7_findRings_59 : decode cX7_findRings 59 = .ok (.lload 5, 2) := by decide +kernel
theorem dX7_findRings_61 : decode cX7_findRings 61 = .ok (.aload_n 0, 1) := by decide +kernel
theorem dX7_findRings_62 : decode cX7_findRings 62 = .ok (.getfield 39, 3) := by decide +kernel
theorem dX7_findRings_65 : decode cX7_findRings 65 = .ok (.lmul, 1) := by decide +kernel
theorem dX7_findRings_66 : decode cX7_findRings 66 = .ok (.lcmp, 1) := by decide +kernel
theorem dX7_findRings_67 : decode cX7_findRings 67 = .ok (.ifCond .ge 26, 3) := by decide +kernel
theorem dX7_findRings_70 : decode cX7_findRings 70 = .ok (.iconst 0, 1) := by decide +kernel
theorem dX7_findRings_71 : decode cX7_findRings 71 = .ok (.istore_n 3, 1) := by decide +kernel
theorem dX7_findRings_72 : decode cX7_findRings 72 = .ok (.aload_n 0, 1) := by decide +kernel
theorem dX7_findRings_73 : decode cX7_findRings 73 = .ok (.getfield 35, 3) := by decide +kernel
theorem dX7_findRings_76 : decode cX7_findRings 76 = .ok (.lstore 5, 2) := by decide +kernel
theorem dX7_findRings_78 : decode cX7_findRings 78 = .ok (.aload_n 0, 1) := by decide +kernel
theorem dX7_findRings_79 : decode cX7_findRings 79 = .ok (.getfield 39, 3) := by decide +kernel
theorem dX7_findRings_82 : decode cX7_findRings 82 = .ok (.lstore 7, 2) := by decide +kernel
theorem dX7_findRings_84 : decode cX7_findRings 84 = .ok (.aload_n 0, 1) := by decide +kernel
theorem dX7_findRings_85 : decode cX7_findRings 85 = .ok (.aload_n 0, 1) := by decide +kernel
theorem dX7_findRings_86 : decode cX7_findRings 86 = .ok (.getfield 22, 3) := by decide +kernel
theorem dX7_findRings_89 : decode cX7_findRings 89 = .ok (.iload_n 2, 1) := by decide +kernel
theorem dX7_findRings_90 : decode cX7_findRings 90 = .ok (.invokevirtual 125, 3) := by decide +kernel
theorem dX7_findRings_93 : decode cX7_findRings 93 = .ok (.aload_n 0, 1) := by decide +kernel
theorem dX7_findRings_94 : decode cX7_findRings 94 = .ok (.getfield 22, 3) := by decide +kernel
theorem dX7_findRings_97 : decode cX7_findRings 97 = .ok (.iload_n 2, 1) := by decide +kernel
theorem dX7_findRings_98 : decode cX7_findRings 98 = .ok (.invokestatic 128, 3) := by decide +kernel
theorem dX7_findRings_101 : decode cX7_findRings 101 = .ok (.istore 4, 2) := by decide +kernel
theorem dX7_findRings_103 : decode cX7_findRings 103 = .ok (.iinc 9 1, 3) := by decide +kernel
theorem dX7_findRings_106 : decode cX7_findRings 106 = .ok (.goto (-76), 3) := by decide +kernel
theorem dX7_findRings_109 : decode cX7_findRings 109 = .ok (.aload_n 0, 1) := by decide +kernel
theorem dX7_findRings_110 : decode cX7_findRings 110 = .ok (.lload 5, 2) := by decide +kernel
theorem dX7_findRings_112 : decode cX7_findRings 112 = .ok (.putfield 35, 3) := by decide +kernel
theorem dX7_findRings_115 : decode cX7_findRings 115 = .ok (.aload_n 0, 1) := by decide +kernel
theorem dX7_findRings_116 : decode cX7_findRings 116 = .ok (.lload 7, 2) := by decide +kernel
theorem dX7_findRings_118 : decode cX7_findRings 118 = .ok (.putfield 39, 3) := by decide +kernel
theorem dX7_findRings_121 : decode cX7_findRings 121 = .ok (.iconst 1, 1) := by decide +kernel
theorem dX7_findRings_122 : decode cX7_findRings 122 = .ok (.ireturn, 1) := by decide +kernel
theorem dX7_foundAt_0 : decode cX7_foundAt 0 = .ok (.iload_n 1, 1) := by decide +kernel
theorem dX7_foundAt_1 : decode cX7_foundAt 1 = .ok (.ifCond .lt 22, 3) := by decide +kernel
theorem dX7_foundAt_4 : decode cX7_foundAt 4 = .ok (.iload_n 1, 1) := by decide +kernel
theorem dX7_foundAt_5 : decode cX7_foundAt 5 = .ok (.aload_n 0, 1) := by decide +kernel
theorem dX7_foundAt_6 : decode cX7_foundAt 6 = .ok (.getfield 18, 3) := by decide +kernel
theorem dX7_foundAt_9 : decode cX7_foundAt 9 = .ok (.if_icmp .ge 14, 3) := by decide +kernel
theorem dX7_foundAt_12 : decode cX7_foundAt 12 = .ok (.aload_n 0, 1) := by decide +kernel
theorem dX7_foundAt_13 : decode cX7_foundAt 13 = .ok (.getfield 15, 3) := by decide +kernel
theorem dX7_foundAt_16 : decode cX7_foundAt 16 = .ok (.iload_n 1, 1) := by decide +kernel
theorem dX7_foundAt_17 : decode cX7_foundAt 17 = .ok (.invokestatic 55, 3) := by decide +kernel
theorem dX7_foundAt_20 : decode cX7_foundAt 20 = .ok (.goto 4, 3) := by decide +kernel
theorem dX7_foundAt_23 : decode cX7_foundAt 23 = .ok (.iconst (-1), 1) := by decide +kernel
theorem dX7_foundAt_24 : decode cX7_foundAt 24 = .ok (.ireturn, 1) := by decide +kernel
theorem dX7_hasPlace_0 : decode cX7_hasPlace 0 = .ok (.iload_n 1, 1) := by decide +kernel
theorem dX7_hasPlace_1 : decode cX7_hasPlace 1 = .ok (.ifCond .lt 15, 3) := by decide +kernel
theorem dX7_hasPlace_4 : decode cX7_hasPlace 4 = .ok (.iload_n 1, 1) := by decide +kernel
theorem dX7_hasPlace_5 : decode cX7_hasPlace 5 = .ok (.aload_n 0, 1) := by decide +kernel
theorem dX7_hasPlace_6 : decode cX7_hasPlace 6 = .ok (.getfield 52, 3) := by decide +kernel
theorem dX7_hasPlace_9 : decode cX7_hasPlace 9 = .ok (.if_icmp .ge 7, 3) := by decide +kernel
theorem dX7_hasPlace_12 : decode cX7_hasPlace 12 = .ok (.iconst 1, 1) := by decide +kernel
theorem dX7_hasPlace_13 : decode cX7_hasPlace 13 = .ok (.goto 4, 3) := by decide +kernel
theorem dX7_hasPlace_16 : decode cX7_hasPlace 16 = .ok (.iconst 0, 1) := by decide +kernel
theorem dX7_hasPlace_17 : decode cX7_hasPlace 17 = .ok (.ireturn, 1) := by decide +kernel
theorem dX7_hasRingThatOpens_0 : decode cX7_hasRingThatOpens 0 = .ok (.iconst 0, 1) := by decide +kernel
theorem dX7_hasRingThatOpens_1 : decode cX7_hasRingThatOpens 1 = .ok (.istore_n 2, 1) := by decide +kernel
theorem dX7_hasRingThatOpens_2 : decode cX7_hasRingThatOpens 2 = .ok (.iload_n 2, 1) := by decide +kernel
theorem dX7_hasRingThatOpens_3 : decode cX7_hasRingThatOpens 3 = .ok (.iload_n 1, 1) := by decide +kernel
theorem dX7_hasRingThatOpens_4 : decode cX7_hasRingThatOpens 4 = .ok (.if_icmp .ge 26, 3) := by decide +kernel
theorem dX7_hasRingThatOpens_7 : decode cX7_hasRingThatOpens 7 = .ok (.aload_n 0, 1) := by decide +kernel
theorem dX7_hasRingThatOpens_8 : decode cX7_hasRingThatOpens 8 = .ok (.aload_n 0, 1) := by decide +kernel
theorem dX7_hasRingThatOpens_9 : decode cX7_hasRingThatOpens 9 = .ok (.getfield 22, 3) := by decide +kernel
theorem dX7_hasRingThatOpens_12 : decode cX7_hasRingThatOpens 12 = .ok (.iload_n 2, 1) := by decide +kernel
theorem dX7_hasRingThatOpens_13 : decode cX7_hasRingThatOpens 13 = .ok (.invokestatic 55, 3) := by decide +kernel
theorem dX7_hasRingThatOpens_16 : decode cX7_hasRingThatOpens 16 = .ok (.invokevirtual 155, 3) := by decide +kernel
theorem dX7_hasRingThatOpens_19 : decode cX7_hasRingThatOpens 19 = .ok (.ifCond .eq 5, 3) := by decide +kernel
theorem dX7_hasRingThatOpens_22 : decode cX7_hasRingThatOpens 22 = .ok (.iconst 1, 1) := by decide +kernel
theorem dX7_hasRingThatOpens_23 : decode cX7_hasRingThatOpens 23 = .ok (.ireturn, 1) := by decide +kernel
theorem dX7_hasRingThatOpens_24 : decode cX7_hasRingThatOpens 24 = .ok (.iinc 2 1, 3) := by decide +kernel
theorem dX7_hasRingThatOpens_27 : decode cX7_hasRingThatOpens 27 = .ok (.goto (-25), 3) := by decide +kernel
theorem dX7_hasRingThatOpens_30 : decode cX7_hasRingThatOpens 30 = .ok (.iconst 0, 1) := by decide +kernel
theorem dX7_hasRingThatOpens_31 : decode cX7_hasRingThatOpens 31 = .ok (.ireturn, 1) := by decide +kernel
theorem dX7_isOf_0 : decode cX7_isOf 0 = .ok (.aload_n 0, 1) := by decide +kernel
theorem dX7_isOf_1 : decode cX7_isOf 1 = .ok (.getfield 9, 3) := by decide +kernel
theorem dX7_isOf_4 : decode cX7_isOf 4 = .ok (.iload_n 2, 1) := by decide +kernel
theorem dX7_isOf_5 : decode cX7_isOf 5 = .ok (.invokestatic 55, 3) := by decide +kernel
theorem dX7_isOf_8 : decode cX7_isOf 8 = .ok (.istore_n 3, 1) := by decide +kernel
theorem dX7_isOf_9 : decode cX7_isOf 9 = .ok (.iload_n 3, 1) := by decide +kernel
theorem dX7_isOf_10 : decode cX7_isOf 10 = .ok (.iconst (-1), 1) := by decide +kernel
theorem dX7_isOf_11 : decode cX7_isOf 11 = .ok (.if_icmp .eq 16, 3) := by decide +kernel
theorem dX7_isOf_14 : decode cX7_isOf 14 = .ok (.iload_n 1, 1) := by decide +kernel
theorem dX7_isOf_15 : decode cX7_isOf 15 = .ok (.iload_n 3, 1) := by decide +kernel
theorem dX7_isOf_16 : decode cX7_isOf 16 = .ok (.ishr, 1) := by decide +kernel
theorem dX7_isOf_17 : decode cX7_isOf 17 = .ok (.iconst 1, 1) := by decide +kernel
theorem dX7_isOf_18 : decode cX7_isOf 18 = .ok (.iand, 1) := by decide +kernel
theorem dX7_isOf_19 : decode cX7_isOf 19 = .ok (.iconst 1, 1) := by decide +kernel
theorem dX7_isOf_20 : decode cX7_isOf 20 = .ok (.if_icmp .ne 7, 3) := by decide +kernel
theorem dX7_isOf_23 : decode cX7_isOf 23 = .ok (.iconst 1, 1) := by decide +kernel
theorem dX7_isOf_24 : decode cX7_isOf 24 = .ok (.goto 4, 3) := by decide +kernel
theorem dX7_isOf_27 : decode cX7_isOf 27 = .ok (.iconst 0, 1) := by decide +kernel
theorem dX7_isOf_28 : decode cX7_isOf 28 = .ok (.ireturn, 1) := by decide +kernel
theorem dX7_keepFound_0 : decode cX7_keepFound 0 = .ok (.aload_n 0, 1) := by decide +kernel
theorem dX7_keepFound_1 : decode cX7_keepFound 1 = .ok (.iload_n 2, 1) := by decide +kernel
theorem dX7_keepFound_2 : decode cX7_keepFound 2 = .ok (.putfield 18, 3) := by decide +kernel
theorem dX7_keepFound_5 : decode cX7_keepFound 5 = .ok (.iconst 0, 1) := by decide +kernel
theorem dX7_keepFound_6 : decode cX7_keepFound 6 = .ok (.istore_n 3, 1) := by decide +kernel
theorem dX7_keepFound_7 : decode cX7_keepFound 7 = .ok (.iload_n 3, 1) := by decide +kernel
theorem dX7_keepFound_8 : decode cX7_keepFound 8 = .ok (.iload_n 2, 1) := by decide +kernel
theorem dX7_keepFound_9 : decode cX7_keepFound 9 = .ok (.if_icmp .ge 22, 3) := by decide +kernel
theorem dX7_keepFound_12 : decode cX7_keepFound 12 = .ok (.aload_n 0, 1) := by decide +kernel
theorem dX7_keepFound_13 : decode cX7_keepFound 13 = .ok (.getfield 15, 3) := by decide +kernel
theorem dX7_keepFound_16 : decode cX7_keepFound 16 = .ok (.iload_n 3, 1) := by decide +kernel
theorem dX7_keepFound_17 : decode cX7_keepFound 17 = .ok (.aload_n 1, 1) := by decide +kernel
theorem dX7_keepFound_18 : decode cX7_keepFound 18 = .ok (.iload_n 3, 1) := by decide +kernel
theorem dX7_keepFound_19 : decode cX7_keepFound 19 = .ok (.invokestatic 55, 3) := by decide +kernel
theorem dX7_keepFound_22 : decode cX7_keepFound 22 = .ok (.invokestatic 132, 3) := by decide +kernel
theorem dX7_keepFound_25 : decode cX7_keepFound 25 = .ok (.iinc 3 1, 3) := by decide +kernel
theorem dX7_keepFound_28 : decode cX7_keepFound 28 = .ok (.goto (-21), 3) := by decide +kernel
theorem dX7_keepFound_31 : decode cX7_keepFound 31 = .ok (.return_, 1) := by decide +kernel
theorem dX7_load_0 : decode cX7_load 0 = .ok (.aload_n 0, 1) := by decide +kernel
theorem dX7_load_1 : decode cX7_load 1 = .ok (.aload_n 0, 1) := by decide +kernel
theorem dX7_load_2 : decode cX7_load 2 = .ok (.getfield 42, 3) := by decide +kernel
theorem dX7_load_5 : decode cX7_load 5 = .ok (.iload_n 1, 1) := by decide +kernel
theorem dX7_load_6 : decode cX7_load 6 = .ok (.aload_n 0, 1) := by decide +kernel
theorem dX7_load_7 : decode cX7_load 7 = .ok (.getfield 9, 3) := by decide +kernel
theorem dX7_load_10 : decode cX7_load 10 = .ok (.invokevirtual 46, 3) := by decide +kernel
theorem dX7_load_13 : decode cX7_load 13 = .ok (.putfield 52, 3) := by decide +kernel
theorem dX7_load_16 : decode cX7_load 16 = .ok (.return_, 1) := by decide +kernel
theorem dX7_loadRings_0 : decode cX7_loadRings 0 = .ok (.iconst 0, 1) := by decide +kernel
theorem dX7_loadRings_1 : decode cX7_loadRings 1 = .ok (.istore_n 2, 1) := by decide +kernel
theorem dX7_loadRings_2 : decode cX7_loadRings 2 = .ok (.iconst 0, 1) := by decide +kernel
theorem dX7_loadRings_3 : decode cX7_loadRings 3 = .ok (.istore_n 3, 1) := by decide +kernel
theorem dX7_loadRings_4 : decode cX7_loadRings 4 = .ok (.iload_n 3, 1) := by decide +kernel
theorem dX7_loadRings_5 : decode cX7_loadRings 5 = .ok (.aload_n 0, 1) := by decide +kernel
theorem dX7_loadRings_6 : decode cX7_loadRings 6 = .ok (.getfield 42, 3) := by decide +kernel
theorem dX7_loadRings_9 : decode cX7_loadRings 9 = .ok (.getfield 149, 3) := by decide +kernel
theorem dX7_loadRings_12 : decode cX7_loadRings 12 = .ok (.if_icmp .ge 90, 3) := by decide +kernel
theorem dX7_loadRings_15 : decode cX7_loadRings 15 = .ok (.iload_n 3, 1) := by decide +kernel
theorem dX7_loadRings_16 : decode cX7_loadRings 16 = .ok (.iconst 3, 1) := by decide +kernel
theorem dX7_loadRings_17 : decode cX7_loadRings 17 = .ok (.if_icmp .ge 85, 3) := by decide +kernel
theorem dX7_loadRings_20 : decode cX7_loadRings 20 = .ok (.aload_n 0, 1) := by decide +kernel
theorem dX7_loadRings_21 : decode cX7_loadRings 21 = .ok (.iload_n 3, 1) := by decide +kernel
theorem dX7_loadRings_22 : decode cX7_loadRings 22 = .ok (.invokevirtual 152, 3) := by decide +kernel
theorem dX7_loadRings_25 : decode cX7_loadRings 25 = .ok (.aload_n 0, 1) := by decide +kernel
theorem dX7_loadRings_26 : decode cX7_loadRings 26 = .ok (.getfield 25, 3) := by decide +kernel
theorem dX7_loadRings_29 : decode cX7_loadRings 29 = .ok (.iload_n 3, 1) := by decide +kernel
theorem dX7_loadRings_30 : decode cX7_loadRings 30 = .ok (.aload_n 0, 1) := by decide +kernel
theorem dX7_loadRings_31 : decode cX7_loadRings 31 = .ok (.getfield 52, 3) := by decide +kernel
theorem dX7_loadRings_34 : decode cX7_loadRings 34 = .ok (.iastore, 1) := by decide +kernel
theorem dX7_loadRings_35 : decode cX7_loadRings 35 = .ok (.aload_n 0, 1) := by decide +kernel
theorem dX7_loadRings_36 : decode cX7_loadRings 36 = .ok (.getfield 31, 3) := by decide +kernel
theorem dX7_loadRings_39 : decode cX7_loadRings 39 = .ok (.iload_n 3, 1) := by decide +kernel
theorem dX7_loadRings_40 : decode cX7_loadRings 40 = .ok (.aload_n 0, 1) := by decide +kernel
theorem dX7_loadRings_41 : decode cX7_loadRings 41 = .ok (.iload_n 1, 1) := by decide +kernel
theorem dX7_loadRings_42 : decode cX7_loadRings 42 = .ok (.invokevirtual 80, 3) := by decide +kernel
theorem dX7_loadRings_45 : decode cX7_loadRings 45 = .ok (.bastore, 1) := by decide +kernel
theorem dX7_loadRings_46 : decode cX7_loadRings 46 = .ok (.aload_n 0, 1) := by decide +kernel
theorem dX7_loadRings_47 : decode cX7_loadRings 47 = .ok (.getfield 28, 3) := by decide +kernel
theorem dX7_loadRings_50 : decode cX7_loadRings 50 = .ok (.iload_n 3, 1) := by decide +kernel
theorem dX7_loadRings_51 : decode cX7_loadRings 51 = .ok (.aload_n 0, 1) := by decide +kernel
theorem dX7_loadRings_52 : decode cX7_loadRings 52 = .ok (.getfield 31, 3) := by decide +kernel
theorem dX7_loadRings_55 : decode cX7_loadRings 55 = .ok (.iload_n 3, 1) := by decide +kernel
theorem dX7_loadRings_56 : decode cX7_loadRings 56 = .ok (.baload, 1) := by decide +kernel
theorem dX7_loadRings_57 : decode cX7_loadRings 57 = .ok (.ifCond .eq 11, 3) := by decide +kernel
theorem dX7_loadRings_60 : decode cX7_loadRings 60 = .ok (.aload_n 0, 1) := by decide +kernel
theorem dX7_loadRings_61 : decode cX7_loadRings 61 = .ok (.iload_n 1, 1) := by decide +kernel
theorem dX7_loadRings_62 : decode cX7_loadRings 62 = .ok (.invokevirtual 91, 3) := by decide +kernel
theorem dX7_loadRings_65 : decode cX7_loadRings 65 = .ok (.goto 11, 3) := by decide +kernel
theorem dX7_loadRings_68 : decode cX7_loadRings 68 = .ok (.aload_n 0, 1) := by decide +kernel
theorem dX7_loadRings_69 : decode cX7_loadRings 69 = .ok (.aload_n 0, 1) := by decide +kernel
theorem dX7_loadRings_70 : decode cX7_loadRings 70 = .ok (.getfield 52, 3) := by decide +kernel
theorem dX7_loadRings_73 : decode cX7_loadRings 73 = .ok (.invokevirtual 74, 3) := by decide +kernel
theorem dX7_loadRings_76 : decode cX7_loadRings 76 = .ok (.iastore, 1) := by decide +kernel
theorem dX7_loadRings_77 : decode cX7_loadRings 77 = .ok (.aload_n 0, 1) := by decide +kernel
theorem dX7_loadRings_78 : decode cX7_loadRings 78 = .ok (.getfield 52, 3) := by decide +kernel
theorem dX7_loadRings_81 : decode cX7_loadRings 81 = .ok (.ifCond .le 15, 3) := by decide +kernel
theorem dX7_loadRings_84 : decode cX7_loadRings 84 = .ok (.aload_n 0, 1) := by decide +kernel
theorem dX7_loadRings_85 : decode cX7_loadRings 85 = .ok (.getfield 22, 3) := by decide +kernel
theorem dX7_loadRings_88 : decode cX7_loadRings 88 = .ok (.iload_n 2, 1) := by decide +kernel
theorem dX7_loadRings_89 : decode cX7_loadRings 89 = .ok (.iload_n 3, 1) := by decide +kernel
theorem dX7_loadRings_90 : decode cX7_loadRings 90 = .ok (.invokestatic 132, 3) := by decide +kernel
theorem dX7_loadRings_93 : decode cX7_loadRings 93 = .ok (.iinc 2 1, 3) := by decide +kernel
theorem dX7_loadRings_96 : decode cX7_loadRings 96 = .ok (.iinc 3 1, 3) := by decide +kernel
theorem dX7_loadRings_99 : decode cX7_loadRings 99 = .ok (.goto (-95), 3) := by decide +kernel
theorem dX7_loadRings_102 : decode cX7_loadRings 102 = .ok (.iload_n 2, 1) := by decide +kernel
theorem dX7_loadRings_103 : decode cX7_loadRings 103 = .ok (.ireturn, 1) := by decide +kernel
theorem dX7_loadWith_0 : decode cX7_loadWith 0 = .ok (.aload_n 0, 1) := by decide +kernel
theorem dX7_loadWith_1 : decode cX7_loadWith 1 = .ok (.iconst 0, 1) := by decide +kernel
theorem dX7_loadWith_2 : decode cX7_loadWith 2 = .ok (.putfield 52, 3) := by decide +kernel
theorem dX7_loadWith_5 : decode cX7_loadWith 5 = .ok (.iconst 0, 1) := by decide +kernel
theorem dX7_loadWith_6 : decode cX7_loadWith 6 = .ok (.istore 4, 2) := by decide +kernel
theorem dX7_loadWith_8 : decode cX7_loadWith 8 = .ok (.iload 4, 2) := by decide +kernel
theorem dX7_loadWith_10 : decode cX7_loadWith 10 = .ok (.aload_n 0, 1) := by decide +kernel
theorem dX7_loadWith_11 : decode cX7_loadWith 11 = .ok (.getfield 42, 3) := by decide +kernel
theorem dX7_loadWith_14 : decode cX7_loadWith 14 = .ok (.iload_n 2, 1) := by decide +kernel
theorem dX7_loadWith_15 : decode cX7_loadWith 15 = .ok (.invokevirtual 158, 3) := by decide +kernel
theorem dX7_loadWith_18 : decode cX7_loadWith 18 = .ok (.if_icmp .gt 56, 3) := by decide +kernel
theorem dX7_loadWith_21 : decode cX7_loadWith 21 = .ok (.iload 4, 2) := by decide +kernel
theorem dX7_loadWith_23 : decode cX7_loadWith 23 = .ok (.iload_n 3, 1) := by decide +kernel
theorem dX7_loadWith_24 : decode cX7_loadWith 24 = .ok (.if_icmp .ne 8, 3) := by decide +kernel
theorem dX7_loadWith_27 : decode cX7_loadWith 27 = .ok (.aload_n 0, 1) := by decide +kernel
theorem dX7_loadWith_28 : decode cX7_loadWith 28 = .ok (.iload_n 1, 1) := by decide +kernel
theorem dX7_loadWith_29 : decode cX7_loadWith 29 = .ok (.invokevirtual 165, 3) := by decide +kernel
theorem dX7_loadWith_32 : decode cX7_loadWith 32 = .ok (.aload_n 0, 1) := by decide +kernel
theorem dX7_loadWith_33 : decode cX7_loadWith 33 = .ok (.getfield 42, 3) := by decide +kernel
theorem dX7_loadWith_36 : decode cX7_loadWith 36 = .ok (.iload_n 2, 1) := by decide +kernel
theorem dX7_loadWith_37 : decode cX7_loadWith 37 = .ok (.iload 4, 2) := by decide +kernel
theorem dX7_loadWith_39 : decode cX7_loadWith 39 = .ok (.invokevirtual 168, 3) := by decide +kernel
theorem dX7_loadWith_42 : decode cX7_loadWith 42 = .ok (.istore 5, 2) := by decide +kernel
theorem dX7_loadWith_44 : decode cX7_loadWith 44 = .ok (.iload 5, 2) := by decide +kernel
theorem dX7_loadWith_46 : decode cX7_loadWith 46 = .ok (.iconst (-1), 1) := by decide +kernel
theorem dX7_loadWith_47 : decode cX7_loadWith 47 = .ok (.if_icmp .eq 21, 3) := by decide +kernel
theorem dX7_loadWith_50 : decode cX7_loadWith 50 = .ok (.aload_n 0, 1) := by decide +kernel
theorem dX7_loadWith_51 : decode cX7_loadWith 51 = .ok (.getfield 42, 3) := by decide +kernel
theorem dX7_loadWith_54 : decode cX7_loadWith 54 = .ok (.iload 5, 2) := by decide +kernel
theorem dX7_loadWith_56 : decode cX7_loadWith 56 = .ok (.invokevirtual 171, 3) := by decide +kernel
theorem dX7_loadWith_59 : decode cX7_loadWith 59 = .ok (.ifCond .ne 9, 3) := by decide +kernel
theorem dX7_loadWith_62 : decode cX7_loadWith 62 = .ok (.aload_n 0, 1) := by decide +kernel
theorem dX7_loadWith_63 : decode cX7_loadWith 63 = .ok (.iload 5, 2) := by decide +kernel
theorem dX7_loadWith_65 : decode cX7_loadWith 65 = .ok (.invokevirtual 165, 3) := by decide +kernel
theorem dX7_loadWith_68 : decode cX7_loadWith 68 = .ok (.iinc 4 1, 3) := by decide +kernel
theorem dX7_loadWith_71 : decode cX7_loadWith 71 = .ok (.goto (-63), 3) := by decide +kernel
theorem dX7_loadWith_74 : decode cX7_loadWith 74 = .ok (.return_, 1) := by decide +kernel
theorem dX7_measureRings_0 : decode cX7_measureRings 0 = .ok (.iconst 0, 1) := by decide +kernel
theorem dX7_measureRings_1 : decode cX7_measureRings 1 = .ok (.istore_n 2, 1) := by decide +kernel
theorem dX7_measureRings_2 : decode cX7_measureRings 2 = .ok (.iconst 0, 1) := by decide +kernel
theorem dX7_measureRings_3 : decode cX7_measureRings 3 = .ok (.istore_n 3, 1) := by decide +kernel
theorem dX7_measureRings_4 : decode cX7_measureRings 4 = .ok (.iload_n 3, 1) := by decide +kernel
theorem dX7_measureRings_5 : decode cX7_measureRings 5 = .ok (.iload_n 1, 1) := by decide +kernel
theorem dX7_measureRings_6 : decode cX7_measureRings 6 = .ok (.if_icmp .ge 92, 3) := by decide +kernel
theorem dX7_measureRings_9 : decode cX7_measureRings 9 = .ok (.aload_n 0, 1) := by decide +kernel
theorem dX7_measureRings_10 : decode cX7_measureRings 10 = .ok (.getfield 22, 3) := by decide +kernel
theorem dX7_measureRings_13 : decode cX7_measureRings 13 = .ok (.iload_n 3, 1) := by decide +kernel
theorem dX7_measureRings_14 : decode cX7_measureRings 14 = .ok (.invokestatic 55, 3) := by decide +kernel
theorem dX7_measureRings_17 : decode cX7_measureRings 17 = .ok (.istore 4, 2) := by decide +kernel
theorem dX7_measureRings_19 : decode cX7_measureRings 19 = .ok (.iload_n 3, 1) := by decide +kernel
theorem dX7_measureRings_20 : decode cX7_measureRings 20 = .ok (.ifCond .le 14, 3) := by decide +kernel
theorem dX7_measureRings_23 : decode cX7_measureRings 23 = .ok (.iload_n 2, 1) := by decide +kernel
theorem dX7_measureRings_24 : decode cX7_measureRings 24 = .ok (.aload_n 0, 1) := by decide +kernel
theorem dX7_measureRings_25 : decode cX7_measureRings 25 = .ok (.getfield 42, 3) := by decide +kernel
theorem dX7_measureRings_28 : decode cX7_measureRings 28 = .ok (.iconst 3, 1) := by decide +kernel
theorem dX7_measureRings_29 : decode cX7_measureRings 29 = .ok (.invokevirtual 67, 3) := by decide +kernel
theorem dX7_measureRings_32 : decode cX7_measureRings 32 = .ok (.iadd, 1) := by decide +kernel
theorem dX7_measureRings_33 : decode cX7_measureRings 33 = .ok (.istore_n 2, 1) := by decide +kernel
theorem dX7_measureRings_34 : decode cX7_measureRings 34 = .ok (.aload_n 0, 1) := by decide +kernel
theorem dX7_measureRings_35 : decode cX7_measureRings 35 = .ok (.iload 4, 2) := by decide +kernel
theorem dX7_measureRings_37 : decode cX7_measureRings 37 = .ok (.invokevirtual 155, 3) := by decide +kernel
theorem dX7_measureRings_40 : decode cX7_measureRings 40 = .ok (.ifCond .eq 40, 3) := by decide +kernel
theorem dX7_measureRings_43 : decode cX7_measureRings 43 = .ok (.aload_n 0, 1) := by decide +kernel
theorem dX7_measureRings_44 : decode cX7_measureRings 44 = .ok (.aload_n 0, 1) := by decide +kernel
theorem dX7_measureRings_45 : decode cX7_measureRings 45 = .ok (.getfield 25, 3) := by decide +kernel
theorem dX7_measureRings_48 : decode cX7_measureRings 48 = .ok (.iload 4, 2) := by decide +kernel
theorem dX7_measureRings_50 : decode cX7_measureRings 50 = .ok (.invokestatic 55, 3) := by decide +kernel
theorem dX7_measureRings_53 : decode cX7_measureRings 53 = .ok (.i2l, 1) := by decide +kernel
theorem dX7_measureRings_54 : decode cX7_measureRings 54 = .ok (.putfield 39, 3) := by decide +kernel
theorem dX7_measureRings_57 : decode cX7_measureRings 57 = .ok (.aload_n 0, 1) := by decide +kernel
theorem dX7_measureRings_58 : decode cX7_measureRings 58 = .ok (.iload_n 2, 1) := by decide +kernel
theorem dX7_measureRings_59 : decode cX7_measureRings 59 = .ok (.i2l, 1) := by decide +kernel
theorem dX7_measureRings_60 : decode cX7_measureRings 60 = .ok (.aload_n 0, 1) := by decide +kernel
theorem dX7_measureRings_61 : decode cX7_measureRings 61 = .ok (.getfield 39, 3) := by decide +kernel
theorem dX7_measureRings_64 : decode cX7_measureRings 64 = .ok (.lmul, 1) := by decide +kernel
theorem dX7_measureRings_65 : decode cX7_measureRings 65 = .ok (.aload_n 0, 1) := by decide +kernel
theorem dX7_measureRings_66 : decode cX7_measureRings 66 = .ok (.getfield 28, 3) := by decide +kernel
theorem dX7_measureRings_69 : decode cX7_measureRings 69 = .ok (.iload 4, 2) := by decide +kernel
theorem dX7_measureRings_71 : decode cX7_measureRings 71 = .ok (.invokestatic 55, 3) := by decide +kernel
theorem dX7_measureRings_74 : decode cX7_measureRings 74 = .ok (.i2l, 1) := by decide +kernel
theorem dX7_measureRings_75 : decode cX7_measureRings 75 = .ok (.ladd, 1) := by decide +kernel
theorem dX7_measureRings_76 : decode cX7_measureRings 76 = .ok (.putfield 35, 3) := by decide +kernel
theorem dX7_measureRings_79 : decode cX7_measureRings 79 = .ok (.return_, 1) := by decide +kernel
theorem dX7_measureRings_80 : decode cX7_measureRings 80 = .ok (.iload_n 2, 1) := by decide +kernel
theorem dX7_measureRings_81 : decode cX7_measureRings 81 = .ok (.aload_n 0, 1) := by decide +kernel
theorem dX7_measureRings_82 : decode cX7_measureRings 82 = .ok (.getfield 28, 3) := by decide +kernel
theorem dX7_measureRings_85 : decode cX7_measureRings 85 = .ok (.iload 4, 2) := by decide +kernel
theorem dX7_measureRings_87 : decode cX7_measureRings 87 = .ok (.invokestatic 55, 3) := by decide +kernel
theorem dX7_measureRings_90 : decode cX7_measureRings 90 = .ok (.iadd, 1) := by decide +kernel
theorem dX7_measureRings_91 : decode cX7_measureRings 91 = .ok (.istore_n 2, 1) := by decide +kernel
theorem dX7_measureRings_92 : decode cX7_measureRings 92 = .ok (.iinc 3 1, 3) := by decide +kernel
theorem dX7_measureRings_95 : decode cX7_measureRings 95 = .ok (.goto (-91), 3) := by decide +kernel
theorem dX7_measureRings_98 : decode cX7_measureRings 98 = .ok (.return_, 1) := by decide +kernel
theorem dX7_measured_0 : decode cX7_measured 0 = .ok (.iload_n 1, 1) := by decide +kernel
theorem dX7_measured_1 : decode cX7_measured 1 = .ok (.ifCond .ne 10, 3) := by decide +kernel
theorem dX7_measured_4 : decode cX7_measured 4 = .ok (.aload_n 0, 1) := by decide +kernel
theorem dX7_measured_5 : decode cX7_measured 5 = .ok (.iconst 0, 1) := by decide +kernel
theorem dX7_measured_6 : decode cX7_measured 6 = .ok (.iconst 0, 1) := by decide +kernel
theorem dX7_measured_7 : decode cX7_measured 7 = .ok (.invokevirtual 108, 3) := by decide +kernel
theorem dX7_measured_10 : decode cX7_measured 10 = .ok (.ireturn, 1) := by decide +kernel
theorem dX7_measured_11 : decode cX7_measured 11 = .ok (.iload_n 1, 1) := by decide +kernel
theorem dX7_measured_12 : decode cX7_measured 12 = .ok (.iconst 1, 1) := by decide +kernel
theorem dX7_measured_13 : decode cX7_measured 13 = .ok (.if_icmp .ne 8, 3) := by decide +kernel
theorem dX7_measured_16 : decode cX7_measured 16 = .ok (.aload_n 0, 1) := by decide +kernel
theorem dX7_measured_17 : decode cX7_measured 17 = .ok (.invokevirtual 111, 3) := by decide +kernel
theorem dX7_measured_20 : decode cX7_measured 20 = .ok (.ireturn, 1) := by decide +kernel
theorem dX7_measured_21 : decode cX7_measured 21 = .ok (.aload_n 0, 1) := by decide +kernel
theorem dX7_measured_22 : decode cX7_measured 22 = .ok (.invokevirtual 115, 3) := by decide +kernel
theorem dX7_measured_25 : decode cX7_measured 25 = .ok (.ireturn, 1) := by decide +kernel
theorem dX7_nextOrder_0 : decode cX7_nextOrder 0 = .ok (.iload_n 1, 1) := by decide +kernel
theorem dX7_nextOrder_1 : decode cX7_nextOrder 1 = .ok (.iconst 2, 1) := by decide +kernel
theorem dX7_nextOrder_2 : decode cX7_nextOrder 2 = .ok (.isub, 1) := by decide +kernel
theorem dX7_nextOrder_3 : decode cX7_nextOrder 3 = .ok (.istore_n 2, 1) := by decide +kernel
theorem dX7_nextOrder_4 : decode cX7_nextOrder 4 = .ok (.iload_n 2, 1) := by decide +kernel
theorem dX7_nextOrder_5 : decode cX7_nextOrder 5 = .ok (.ifCond .lt 24, 3) := by decide +kernel
theorem dX7_nextOrder_8 : decode cX7_nextOrder 8 = .ok (.aload_n 0, 1) := by decide +kernel
theorem dX7_nextOrder_9 : decode cX7_nextOrder 9 = .ok (.iload_n 2, 1) := by decide +kernel
theorem dX7_nextOrder_10 : decode cX7_nextOrder 10 = .ok (.invokestatic 55, 3) := by decide +kernel
theorem dX7_nextOrder_13 : decode cX7_nextOrder 13 = .ok (.aload_n 0, 1) := by decide +kernel
theorem dX7_nextOrder_14 : decode cX7_nextOrder 14 = .ok (.iload_n 2, 1) := by decide +kernel
theorem dX7_nextOrder_15 : decode cX7_nextOrder 15 = .ok (.iconst 1, 1) := by decide +kernel
theorem dX7_nextOrder_16 : decode cX7_nextOrder 16 = .ok (.iadd, 1) := by decide +kernel
theorem dX7_nextOrder_17 : decode cX7_nextOrder 17 = .ok (.invokestatic 55, 3) := by decide +kernel
theorem dX7_nextOrder_20 : decode cX7_nextOrder 20 = .ok (.if_icmp .le 9, 3) := by decide +kernel
theorem dX7_nextOrder_23 : decode cX7_nextOrder 23 = .ok (.iinc 2 (-1), 3) := by decide +kernel
theorem dX7_nextOrder_26 : decode cX7_nextOrder 26 = .ok (.goto (-22), 3) := by decide +kernel
theorem dX7_nextOrder_29 : decode cX7_nextOrder 29 = .ok (.iload_n 2, 1) := by decide +kernel
theorem dX7_nextOrder_30 : decode cX7_nextOrder 30 = .ok (.ifCond .ge 5, 3) := by decide +kernel
theorem dX7_nextOrder_33 : decode cX7_nextOrder 33 = .ok (.iconst 0, 1) := by decide +kernel
theorem dX7_nextOrder_34 : decode cX7_nextOrder 34 = .ok (.ireturn, 1) := by decide +kernel
theorem dX7_nextOrder_35 : decode cX7_nextOrder 35 = .ok (.iload_n 1, 1) := by decide +kernel
theorem dX7_nextOrder_36 : decode cX7_nextOrder 36 = .ok (.iconst 1, 1) := by decide +kernel
theorem dX7_nextOrder_37 : decode cX7_nextOrder 37 = .ok (.isub, 1) := by decide +kernel
theorem dX7_nextOrder_38 : decode cX7_nextOrder 38 = .ok (.istore_n 3, 1) := by decide +kernel
theorem dX7_nextOrder_39 : decode cX7_nextOrder 39 = .ok (.iload_n 3, 1) := by decide +kernel
theorem dX7_nextOrder_40 : decode cX7_nextOrder 40 = .ok (.iload_n 2, 1) := by decide +kernel
theorem dX7_nextOrder_41 : decode cX7_nextOrder 41 = .ok (.if_icmp .le 22, 3) := by decide +kernel
theorem dX7_nextOrder_44 : decode cX7_nextOrder 44 = .ok (.aload_n 0, 1) := by decide +kernel
theorem dX7_nextOrder_45 : decode cX7_nextOrder 45 = .ok (.iload_n 3, 1) := by decide +kernel
theorem dX7_nextOrder_46 : decode cX7_nextOrder 46 = .ok (.invokestatic 55, 3) := by decide +kernel
theorem dX7_nextOrder_49 : decode cX7_nextOrder 49 = .ok (.aload_n 0, 1) := by decide +kernel
theorem dX7_nextOrder_50 : decode cX7_nextOrder 50 = .ok (.iload_n 2, 1) := by decide +kernel
theorem dX7_nextOrder_51 : decode cX7_nextOrder 51 = .ok (.invokestatic 55, 3) := by decide +kernel
theorem dX7_nextOrder_54 : decode cX7_nextOrder 54 = .ok (.if_icmp .ge 9, 3) := by decide +kernel
theorem dX7_nextOrder_57 : decode cX7_nextOrder 57 = .ok (.iinc 3 (-1), 3) := by decide +kernel
theorem dX7_nextOrder_60 : decode cX7_nextOrder 60 = .ok (.goto (-21), 3) := by decide +kernel
theorem dX7_nextOrder_63 : decode cX7_nextOrder 63 = .ok (.aload_n 0, 1) := by decide +kernel
theorem dX7_nextOrder_64 : decode cX7_nextOrder 64 = .ok (.iload_n 2, 1) := by decide +kernel
theorem dX7_nextOrder_65 : decode cX7_nextOrder 65 = .ok (.iload_n 3, 1) := by decide +kernel
theorem dX7_nextOrder_66 : decode cX7_nextOrder 66 = .ok (.invokestatic 136, 3) := by decide +kernel
theorem dX7_nextOrder_69 : decode cX7_nextOrder 69 = .ok (.iload_n 1, 1) := by decide +kernel
theorem dX7_nextOrder_70 : decode cX7_nextOrder 70 = .ok (.iconst 1, 1) := by decide +kernel
theorem dX7_nextOrder_71 : decode cX7_nextOrder 71 = .ok (.isub, 1) := by decide +kernel
theorem dX7_nextOrder_72 : decode cX7_nextOrder 72 = .ok (.istore 4, 2) := by decide +kernel
theorem dX7_nextOrder_74 : decode cX7_nextOrder 74 = .ok (.iload_n 2, 1) := by decide +kernel
theorem dX7_nextOrder_75 : decode cX7_nextOrder 75 = .ok (.iconst 1, 1) := by decide +kernel
theorem dX7_nextOrder_76 : decode cX7_nextOrder 76 = .ok (.iadd, 1) := by decide +kernel
theorem dX7_nextOrder_77 : decode cX7_nextOrder 77 = .ok (.istore 5, 2) := by decide +kernel
theorem dX7_nextOrder_79 : decode cX7_nextOrder 79 = .ok (.iload 5, 2) := by decide +kernel
theorem dX7_nextOrder_81 : decode cX7_nextOrder 81 = .ok (.iload 4, 2) := by decide +kernel
theorem dX7_nextOrder_83 : decode cX7_nextOrder 83 = .ok (.if_icmp .ge 20, 3) := by decide +kernel
theorem dX7_nextOrder_86 : decode cX7_nextOrder 86 = .ok (.aload_n 0, 1) := by decide +kernel
theorem dX7_nextOrder_87 : decode cX7_nextOrder 87 = .ok (.iload 5, 2) := by decide +kernel
theorem dX7_nextOrder_89 : decode cX7_nextOrder 89 = .ok (.iload 4, 2) := by decide +kernel
theorem dX7_nextOrder_91 : decode cX7_nextOrder 91 = .ok (.invokestatic 136, 3) := by decide +kernel
theorem dX7_nextOrder_94 : decode cX7_nextOrder 94 = .ok (.iinc 4 (-1), 3) := by decide +kernel
theorem dX7_nextOrder_97 : decode cX7_nextOrder 97 = .ok (.iinc 5 1, 3) := by decide +kernel
theorem dX7_nextOrder_100 : decode cX7_nextOrder 100 = .ok (.goto (-21), 3) := by decide +kernel
theorem dX7_nextOrder_103 : decode cX7_nextOrder 103 = .ok (.iconst 1, 1) := by decide +kernel
theorem dX7_nextOrder_104 : decode cX7_nextOrder 104 = .ok (.ireturn, 1) := by decide +kernel
theorem dX7_opensAsRing_0 : decode cX7_opensAsRing 0 = .ok (.iload_n 1, 1) := by decide +kernel
theorem dX7_opensAsRing_1 : decode cX7_opensAsRing 1 = .ok (.ifCond .lt 21, 3) := by decide +kernel
theorem dX7_opensAsRing_4 : decode cX7_opensAsRing 4 = .ok (.iload_n 1, 1) := by decide +kernel
theorem dX7_opensAsRing_5 : decode cX7_opensAsRing 5 = .ok (.iconst 3, 1) := by decide +kernel
theorem dX7_opensAsRing_6 : decode cX7_opensAsRing 6 = .ok (.if_icmp .ge 16, 3) := by decide +kernel
theorem dX7_opensAsRing_9 : decode cX7_opensAsRing 9 = .ok (.aload_n 0, 1) := by decide +kernel
theorem dX7_opensAsRing_10 : decode cX7_opensAsRing 10 = .ok (.getfield 31, 3) := by decide +kernel
theorem dX7_opensAsRing_13 : decode cX7_opensAsRing 13 = .ok (.iload_n 1, 1) := by decide +kernel
theorem dX7_opensAsRing_14 : decode cX7_opensAsRing 14 = .ok (.baload, 1) := by decide +kernel
theorem dX7_opensAsRing_15 : decode cX7_opensAsRing 15 = .ok (.ifCond .eq 7, 3) := by decide +kernel
theorem dX7_opensAsRing_18 : decode cX7_opensAsRing 18 = .ok (.iconst 1, 1) := by decide +kernel
theorem dX7_opensAsRing_19 : decode cX7_opensAsRing 19 = .ok (.goto 4, 3) := by decide +kernel
theorem dX7_opensAsRing_22 : decode cX7_opensAsRing 22 = .ok (.iconst 0, 1) := by decide +kernel
theorem dX7_opensAsRing_23 : decode cX7_opensAsRing 23 = .ok (.ireturn, 1) := by decide +kernel
theorem dX7_secondsFrom_0 : decode cX7_secondsFrom 0 = .ok (.aload_n 0, 1) := by decide +kernel
theorem dX7_secondsFrom_1 : decode cX7_secondsFrom 1 = .ok (.getfield 42, 3) := by decide +kernel
theorem dX7_secondsFrom_4 : decode cX7_secondsFrom 4 = .ok (.iload_n 1, 1) := by decide +kernel
theorem dX7_secondsFrom_5 : decode cX7_secondsFrom 5 = .ok (.invokevirtual 59, 3) := by decide +kernel
theorem dX7_secondsFrom_8 : decode cX7_secondsFrom 8 = .ok (.istore 4, 2) := by decide +kernel
theorem dX7_secondsFrom_10 : decode cX7_secondsFrom 10 = .ok (.iconst 1, 1) := by decide +kernel
theorem dX7_secondsFrom_11 : decode cX7_secondsFrom 11 = .ok (.istore 5, 2) := by decide +kernel
theorem dX7_secondsFrom_13 : decode cX7_secondsFrom 13 = .ok (.iload_n 2, 1) := by decide +kernel
theorem dX7_secondsFrom_14 : decode cX7_secondsFrom 14 = .ok (.istore 6, 2) := by decide +kernel
theorem dX7_secondsFrom_16 : decode cX7_secondsFrom 16 = .ok (.iload 5, 2) := by decide +kernel
theorem dX7_secondsFrom_18 : decode cX7_secondsFrom 18 = .ok (.aload_n 0, 1) := by decide +kernel
theorem dX7_secondsFrom_19 : decode cX7_secondsFrom 19 = .ok (.getfield 52, 3) := by decide +kernel
theorem dX7_secondsFrom_22 : decode cX7_secondsFrom 22 = .ok (.if_icmp .ge 44, 3) := by decide +kernel
theorem dX7_secondsFrom_25 : decode cX7_secondsFrom 25 = .ok (.aload_n 0, 1) := by decide +kernel
theorem dX7_secondsFrom_26 : decode cX7_secondsFrom 26 = .ok (.iload 4, 2) := by decide +kernel
theorem dX7_secondsFrom_28 : decode cX7_secondsFrom 28 = .ok (.iload 6, 2) := by decide +kernel
theorem dX7_secondsFrom_30 : decode cX7_secondsFrom 30 = .ok (.invokevirtual 63, 3) := by decide +kernel
theorem dX7_secondsFrom_33 : decode cX7_secondsFrom 33 = .ok (.ifCond .ne 33, 3) := by decide +kernel
theorem dX7_secondsFrom_36 : decode cX7_secondsFrom 36 = .ok (.iload_n 3, 1) := by decide +kernel
theorem dX7_secondsFrom_37 : decode cX7_secondsFrom 37 = .ok (.ifCond .ne 10, 3) := by decide +kernel
theorem dX7_secondsFrom_40 : decode cX7_secondsFrom 40 = .ok (.iload 6, 2) := by decide +kernel
theorem dX7_secondsFrom_42 : decode cX7_secondsFrom 42 = .ok (.iconst 1, 1) := by decide +kernel
theorem dX7_secondsFrom_43 : decode cX7_secondsFrom 43 = .ok (.iadd, 1) := by decide +kernel
theorem dX7_secondsFrom_44 : decode cX7_secondsFrom 44 = .ok (.goto 7, 3) := by decide +kernel
theorem dX7_secondsFrom_47 : decode cX7_secondsFrom 47 = .ok (.iload 6, 2) := by decide +kernel
theorem dX7_secondsFrom_49 : decode cX7_secondsFrom 49 = .ok (.iconst 1, 1) := by decide +kernel
theorem dX7_secondsFrom_50 : decode cX7_secondsFrom 50 = .ok (.isub, 1) := by decide +kernel
theorem dX7_secondsFrom_51 : decode cX7_secondsFrom 51 = .ok (.aload_n 0, 1) := by decide +kernel
theorem dX7_secondsFrom_52 : decode cX7_secondsFrom 52 = .ok (.getfield 52, 3) := by decide +kernel
theorem dX7_secondsFrom_55 : decode cX7_secondsFrom 55 = .ok (.invokestatic 70, 3) := by decide +kernel
theorem dX7_secondsFrom_58 : decode cX7_secondsFrom 58 = .ok (.istore 6, 2) := by decide +kernel
theorem dX7_secondsFrom_60 : decode cX7_secondsFrom 60 = .ok (.iinc 5 1, 3) := by decide +kernel
theorem dX7_secondsFrom_63 : decode cX7_secondsFrom 63 = .ok (.goto (-47), 3) := by decide +kernel
theorem dX7_secondsFrom_66 : decode cX7_secondsFrom 66 = .ok (.aload_n 0, 1) := by decide +kernel
theorem dX7_secondsFrom_67 : decode cX7_secondsFrom 67 = .ok (.iload 5, 2) := by decide +kernel
theorem dX7_secondsFrom_69 : decode cX7_secondsFrom 69 = .ok (.invokevirtual 74, 3) := by decide +kernel
theorem dX7_secondsFrom_72 : decode cX7_secondsFrom 72 = .ok (.ireturn, 1) := by decide +kernel
theorem dX7_secondsFromAll_0 : decode cX7_secondsFromAll 0 = .ok (.aload_n 0, 1) := by decide +kernel
theorem dX7_secondsFromAll_1 : decode cX7_secondsFromAll 1 = .ok (.getfield 42, 3) := by decide +kernel
theorem dX7_secondsFromAll_4 : decode cX7_secondsFromAll 4 = .ok (.iload_n 1, 1) := by decide +kernel
theorem dX7_secondsFromAll_5 : decode cX7_secondsFromAll 5 = .ok (.invokevirtual 59, 3) := by decide +kernel
theorem dX7_secondsFromAll_8 : decode cX7_secondsFromAll 8 = .ok (.istore_n 2, 1) := by decide +kernel
theorem dX7_secondsFromAll_9 : decode cX7_secondsFromAll 9 = .ok (.iconst 0, 1) := by decide +kernel
theorem dX7_secondsFromAll_10 : decode cX7_secondsFromAll 10 = .ok (.istore_n 3, 1) := by decide +kernel
theorem dX7_secondsFromAll_11 : decode cX7_secondsFromAll 11 = .ok (.iconst 0, 1) := by decide +kernel
theorem dX7_secondsFromAll_12 : decode cX7_secondsFromAll 12 = .ok (.istore 4, 2) := by decide +kernel
theorem dX7_secondsFromAll_14 : decode cX7_secondsFromAll 14 = .ok (.iconst 2, 1) := by decide +kernel
theorem dX7_secondsFromAll_15 : decode cX7_secondsFromAll 15 = .ok (.aload_n 0, 1) := by decide +kernel
theorem dX7_secondsFromAll_16 : decode cX7_secondsFromAll 16 = .ok (.getfield 52, 3) := by decide +kernel
theorem dX7_secondsFromAll_19 : decode cX7_secondsFromAll 19 = .ok (.imul, 1) := by decide +kernel
theorem dX7_secondsFromAll_20 : decode cX7_secondsFromAll 20 = .ok (.iconst 1, 1) := by decide +kernel
theorem dX7_secondsFromAll_21 : decode cX7_secondsFromAll 21 = .ok (.isub, 1) := by decide +kernel
theorem dX7_secondsFromAll_22 : decode cX7_secondsFromAll 22 = .ok (.istore 5, 2) := by decide +kernel
theorem dX7_secondsFromAll_24 : decode cX7_secondsFromAll 24 = .ok (.iload 5, 2) := by decide +kernel
theorem dX7_secondsFromAll_26 : decode cX7_secondsFromAll 26 = .ok (.ifCond .lt 61, 3) := by decide +kernel
theorem dX7_secondsFromAll_29 : decode cX7_secondsFromAll 29 = .ok (.aload_n 0, 1) := by decide +kernel
theorem dX7_secondsFromAll_30 : decode cX7_secondsFromAll 30 = .ok (.iload_n 2, 1) := by decide +kernel
theorem dX7_secondsFromAll_31 : decode cX7_secondsFromAll 31 = .ok (.iload 5, 2) := by decide +kernel
theorem dX7_secondsFromAll_33 : decode cX7_secondsFromAll 33 = .ok (.aload_n 0, 1) := by decide +kernel
theorem dX7_secondsFromAll_34 : decode cX7_secondsFromAll 34 = .ok (.getfield 52, 3) := by decide +kernel
theorem dX7_secondsFromAll_37 : decode cX7_secondsFromAll 37 = .ok (.if_icmp .ge 8, 3) := by decide +kernel
theorem dX7_secondsFromAll_40 : decode cX7_secondsFromAll 40 = .ok (.iload 5, 2) := by decide +kernel
theorem dX7_secondsFromAll_42 : decode cX7_secondsFromAll 42 = .ok (.goto 10, 3) := by decide +kernel
theorem dX7_secondsFromAll_45 : decode cX7_secondsFromAll 45 = .ok (.iload 5, 2) := by decide +kernel
theorem dX7_secondsFromAll_47 : decode cX7_secondsFromAll 47 = .ok (.aload_n 0, 1) := by decide +kernel
theorem dX7_secondsFromAll_48 : decode cX7_secondsFromAll 48 = .ok (.getfield 52, 3) := by decide +kernel
theorem dX7_secondsFromAll_51 : decode cX7_secondsFromAll 51 = .ok (.isub, 1) := by decide +kernel
theorem dX7_secondsFromAll_52 : decode cX7_secondsFromAll 52 = .ok (.invokevirtual 63, 3) := by decide +kernel
theorem dX7_secondsFromAll_55 : decode cX7_secondsFromAll 55 = .ok (.ifCond .eq 7, 3) := by decide +kernel
theorem dX7_secondsFromAll_58 : decode cX7_secondsFromAll 58 = .ok (.iconst 1, 1) := by decide +kernel
theorem dX7_secondsFromAll_59 : decode cX7_secondsFromAll 59 = .ok (.goto 6, 3) := by decide +kernel
theorem dX7_secondsFromAll_62 : decode cX7_secondsFromAll 62 = .ok (.iload_n 3, 1) := by decide +kernel
theorem dX7_secondsFromAll_63 : decode cX7_secondsFromAll 63 = .ok (.iconst 1, 1) := by decide +kernel
theorem dX7_secondsFromAll_64 : decode cX7_secondsFromAll 64 = .ok (.iadd, 1) := by decide +kernel
theorem dX7_secondsFromAll_65 : decode cX7_secondsFromAll 65 = .ok (.istore_n 3, 1) := by decide +kernel
theorem dX7_secondsFromAll_66 : decode cX7_secondsFromAll 66 = .ok (.iload 5, 2) := by decide +kernel
theorem dX7_secondsFromAll_68 : decode cX7_secondsFromAll 68 = .ok (.aload_n 0, 1) := by decide +kernel
theorem dX7_secondsFromAll_69 : decode cX7_secondsFromAll 69 = .ok (.getfield 52, 3) := by decide +kernel
theorem dX7_secondsFromAll_72 : decode cX7_secondsFromAll 72 = .ok (.if_icmp .ge 9, 3) := by decide +kernel
theorem dX7_secondsFromAll_75 : decode cX7_secondsFromAll 75 = .ok (.iload 4, 2) := by decide +kernel
theorem dX7_secondsFromAll_77 : decode cX7_secondsFromAll 77 = .ok (.iload_n 3, 1) := by decide +kernel
theorem dX7_secondsFromAll_78 : decode cX7_secondsFromAll 78 = .ok (.iadd, 1) := by decide +kernel
theorem dX7_secondsFromAll_79 : decode cX7_secondsFromAll 79 = .ok (.istore 4, 2) := by decide +kernel
theorem dX7_secondsFromAll_81 : decode cX7_secondsFromAll 81 = .ok (.iinc 5 (-1), 3) := by decide +kernel
theorem dX7_secondsFromAll_84 : decode cX7_secondsFromAll 84 = .ok (.goto (-60), 3) := by decide +kernel
theorem dX7_secondsFromAll_87 : decode cX7_secondsFromAll 87 = .ok (.iload 4, 2) := by decide +kernel
theorem dX7_secondsFromAll_89 : decode cX7_secondsFromAll 89 = .ok (.aload_n 0, 1) := by decide +kernel
theorem dX7_secondsFromAll_90 : decode cX7_secondsFromAll 90 = .ok (.getfield 42, 3) := by decide +kernel
theorem dX7_secondsFromAll_93 : decode cX7_secondsFromAll 93 = .ok (.iconst 1, 1) := by decide +kernel
theorem dX7_secondsFromAll_94 : decode cX7_secondsFromAll 94 = .ok (.invokevirtual 67, 3) := by decide +kernel
theorem dX7_secondsFromAll_97 : decode cX7_secondsFromAll 97 = .ok (.imul, 1) := by decide +kernel
theorem dX7_secondsFromAll_98 : decode cX7_secondsFromAll 98 = .ok (.iload 4, 2) := by decide +kernel
theorem dX7_secondsFromAll_100 : decode cX7_secondsFromAll 100 = .ok (.aload_n 0, 1) := by decide +kernel
theorem dX7_secondsFromAll_101 : decode cX7_secondsFromAll 101 = .ok (.getfield 52, 3) := by decide +kernel
theorem dX7_secondsFromAll_104 : decode cX7_secondsFromAll 104 = .ok (.isub, 1) := by decide +kernel
theorem dX7_secondsFromAll_105 : decode cX7_secondsFromAll 105 = .ok (.aload_n 0, 1) := by decide +kernel
theorem dX7_secondsFromAll_106 : decode cX7_secondsFromAll 106 = .ok (.getfield 42, 3) := by decide +kernel
theorem dX7_secondsFromAll_109 : decode cX7_secondsFromAll 109 = .ok (.iconst 2, 1) := by decide +kernel
theorem dX7_secondsFromAll_110 : decode cX7_secondsFromAll 110 = .ok (.invokevirtual 67, 3) := by decide +kernel
theorem dX7_secondsFromAll_113 : decode cX7_secondsFromAll 113 = .ok (.imul, 1) := by decide +kernel
theorem dX7_secondsFromAll_114 : decode cX7_secondsFromAll 114 = .ok (.iadd, 1) := by decide +kernel
theorem dX7_secondsFromAll_115 : decode cX7_secondsFromAll 115 = .ok (.ireturn, 1) := by decide +kernel
theorem dX7_secondsOfRound_0 : decode cX7_secondsOfRound 0 = .ok (.iconst 0, 1) := by decide +kernel
theorem dX7_secondsOfRound_1 : decode cX7_secondsOfRound 1 = .ok (.istore_n 1, 1) := by decide +kernel
theorem dX7_secondsOfRound_2 : decode cX7_secondsOfRound 2 = .ok (.iconst 0, 1) := by decide +kernel
theorem dX7_secondsOfRound_3 : decode cX7_secondsOfRound 3 = .ok (.istore_n 2, 1) := by decide +kernel
theorem dX7_secondsOfRound_4 : decode cX7_secondsOfRound 4 = .ok (.iconst 0, 1) := by decide +kernel
theorem dX7_secondsOfRound_5 : decode cX7_secondsOfRound 5 = .ok (.istore_n 3, 1) := by decide +kernel
theorem dX7_secondsOfRound_6 : decode cX7_secondsOfRound 6 = .ok (.iload_n 3, 1) := by decide +kernel
theorem dX7_secondsOfRound_7 : decode cX7_secondsOfRound 7 = .ok (.aload_n 0, 1) := by decide +kernel
theorem dX7_secondsOfRound_8 : decode cX7_secondsOfRound 8 = .ok (.getfield 42, 3) := by decide +kernel
theorem dX7_secondsOfRound_11 : decode cX7_secondsOfRound 11 = .ok (.getfield 94, 3) := by decide +kernel
theorem dX7_secondsOfRound_14 : decode cX7_secondsOfRound 14 = .ok (.if_icmp .ge 72, 3) := by decide +kernel
theorem dX7_secondsOfRound_17 : decode cX7_secondsOfRound 17 = .ok (.aload_n 0, 1) := by decide +kernel
theorem dX7_secondsOfRound_18 : decode cX7_secondsOfRound 18 = .ok (.iload_n 1, 1) := by decide +kernel
theorem dX7_secondsOfRound_19 : decode cX7_secondsOfRound 19 = .ok (.aload_n 0, 1) := by decide +kernel
theorem dX7_secondsOfRound_20 : decode cX7_secondsOfRound 20 = .ok (.getfield 42, 3) := by decide +kernel
theorem dX7_secondsOfRound_23 : decode cX7_secondsOfRound 23 = .ok (.getfield 97, 3) := by decide +kernel
theorem dX7_secondsOfRound_26 : decode cX7_secondsOfRound 26 = .ok (.iload_n 3, 1) := by decide +kernel
theorem dX7_secondsOfRound_27 : decode cX7_secondsOfRound 27 = .ok (.invokestatic 55, 3) := by decide +kernel
theorem dX7_secondsOfRound_30 : decode cX7_secondsOfRound 30 = .ok (.invokevirtual 100, 3) := by decide +kernel
theorem dX7_secondsOfRound_33 : decode cX7_secondsOfRound 33 = .ok (.istore 4, 2) := by decide +kernel
theorem dX7_secondsOfRound_35 : decode cX7_secondsOfRound 35 = .ok (.iload_n 2, 1) := by decide +kernel
theorem dX7_secondsOfRound_36 : decode cX7_secondsOfRound 36 = .ok (.iload 4, 2) := by decide +kernel
theorem dX7_secondsOfRound_38 : decode cX7_secondsOfRound 38 = .ok (.aload_n 0, 1) := by decide +kernel
theorem dX7_secondsOfRound_39 : decode cX7_secondsOfRound 39 = .ok (.getfield 52, 3) := by decide +kernel
theorem dX7_secondsOfRound_42 : decode cX7_secondsOfRound 42 = .ok (.iload 4, 2) := by decide +kernel
theorem dX7_secondsOfRound_44 : decode cX7_secondsOfRound 44 = .ok (.isub, 1) := by decide +kernel
theorem dX7_secondsOfRound_45 : decode cX7_secondsOfRound 45 = .ok (.invokestatic 103, 3) := by decide +kernel
theorem dX7_secondsOfRound_48 : decode cX7_secondsOfRound 48 = .ok (.aload_n 0, 1) := by decide +kernel
theorem dX7_secondsOfRound_49 : decode cX7_secondsOfRound 49 = .ok (.getfield 42, 3) := by decide +kernel
theorem dX7_secondsOfRound_52 : decode cX7_secondsOfRound 52 = .ok (.iconst 2, 1) := by decide +kernel
theorem dX7_secondsOfRound_53 : decode cX7_secondsOfRound 53 = .ok (.invokevirtual 67, 3) := by decide +kernel
theorem dX7_secondsOfRound_56 : decode cX7_secondsOfRound 56 = .ok (.imul, 1) := by decide +kernel
theorem dX7_secondsOfRound_57 : decode cX7_secondsOfRound 57 = .ok (.aload_n 0, 1) := by decide +kernel
theorem dX7_secondsOfRound_58 : decode cX7_secondsOfRound 58 = .ok (.getfield 42, 3) := by decide +kernel
theorem dX7_secondsOfRound_61 : decode cX7_secondsOfRound 61 = .ok (.iconst 1, 1) := by decide +kernel
theorem dX7_secondsOfRound_62 : decode cX7_secondsOfRound 62 = .ok (.invokevirtual 67, 3) := by decide +kernel
theorem dX7_secondsOfRound_65 : decode cX7_secondsOfRound 65 = .ok (.iadd, 1) := by decide +kernel
theorem dX7_secondsOfRound_66 : decode cX7_secondsOfRound 66 = .ok (.iadd, 1) := by decide +kernel
theorem dX7_secondsOfRound_67 : decode cX7_secondsOfRound 67 = .ok (.istore_n 2, 1) := by decide +kernel
theorem dX7_secondsOfRound_68 : decode cX7_secondsOfRound 68 = .ok (.iload_n 1, 1) := by decide +kernel
theorem dX7_secondsOfRound_69 : decode cX7_secondsOfRound 69 = .ok (.iload 4, 2) := by decide +kernel
theorem dX7_secondsOfRound_71 : decode cX7_secondsOfRound 71 = .ok (.iadd, 1) := by decide +kernel
theorem dX7_secondsOfRound_72 : decode cX7_secondsOfRound 72 = .ok (.aload_n 0, 1) := by decide +kernel
theorem dX7_secondsOfRound_73 : decode cX7_secondsOfRound 73 = .ok (.getfield 52, 3) := by decide +kernel
theorem dX7_secondsOfRound_76 : decode cX7_secondsOfRound 76 = .ok (.invokestatic 70, 3) := by decide +kernel
theorem dX7_secondsOfRound_79 : decode cX7_secondsOfRound 79 = .ok (.istore_n 1, 1) := by decide +kernel
theorem dX7_secondsOfRound_80 : decode cX7_secondsOfRound 80 = .ok (.iinc 3 1, 3) := by decide +kernel
theorem dX7_secondsOfRound_83 : decode cX7_secondsOfRound 83 = .ok (.goto (-77), 3) := by decide +kernel
theorem dX7_secondsOfRound_86 : decode cX7_secondsOfRound 86 = .ok (.iload_n 2, 1) := by decide +kernel
theorem dX7_secondsOfRound_87 : decode cX7_secondsOfRound 87 = .ok (.ireturn, 1) := by decide +kernel
theorem dX7_secondsOfTries_0 : decode cX7_secondsOfTries 0 = .ok (.iload_n 1, 1) := by decide +kernel
theorem dX7_secondsOfTries_1 : decode cX7_secondsOfTries 1 = .ok (.aload_n 0, 1) := by decide +kernel
theorem dX7_secondsOfTries_2 : decode cX7_secondsOfTries 2 = .ok (.getfield 42, 3) := by decide +kernel
theorem dX7_secondsOfTries_5 : decode cX7_secondsOfTries 5 = .ok (.iconst 1, 1) := by decide +kernel
theorem dX7_secondsOfTries_6 : decode cX7_secondsOfTries 6 = .ok (.invokevirtual 67, 3) := by decide +kernel
theorem dX7_secondsOfTries_9 : decode cX7_secondsOfTries 9 = .ok (.imul, 1) := by decide +kernel
theorem dX7_secondsOfTries_10 : decode cX7_secondsOfTries 10 = .ok (.iload_n 1, 1) := by decide +kernel
theorem dX7_secondsOfTries_11 : decode cX7_secondsOfTries 11 = .ok (.iconst 1, 1) := by decide +kernel
theorem dX7_secondsOfTries_12 : decode cX7_secondsOfTries 12 = .ok (.isub, 1) := by decide +kernel
theorem dX7_secondsOfTries_13 : decode cX7_secondsOfTries 13 = .ok (.aload_n 0, 1) := by decide +kernel
theorem dX7_secondsOfTries_14 : decode cX7_secondsOfTries 14 = .ok (.getfield 42, 3) := by decide +kernel
theorem dX7_secondsOfTries_17 : decode cX7_secondsOfTries 17 = .ok (.iconst 2, 1) := by decide +kernel
theorem dX7_secondsOfTries_18 : decode cX7_secondsOfTries 18 = .ok (.invokevirtual 67, 3) := by decide +kernel
theorem dX7_secondsOfTries_21 : decode cX7_secondsOfTries 21 = .ok (.imul, 1) := by decide +kernel
theorem dX7_secondsOfTries_22 : decode cX7_secondsOfTries 22 = .ok (.iadd, 1) := by decide +kernel
theorem dX7_secondsOfTries_23 : decode cX7_secondsOfTries 23 = .ok (.ireturn, 1) := by decide +kernel
theorem dX7_someOpens_0 : decode cX7_someOpens 0 = .ok (.aload_n 0, 1) := by decide +kernel
theorem dX7_someOpens_1 : decode cX7_someOpens 1 = .ok (.getfield 42, 3) := by decide +kernel
theorem dX7_someOpens_4 : decode cX7_someOpens 4 = .ok (.iload_n 1, 1) := by decide +kernel
theorem dX7_someOpens_5 : decode cX7_someOpens 5 = .ok (.invokevirtual 59, 3) := by decide +kernel
theorem dX7_someOpens_8 : decode cX7_someOpens 8 = .ok (.istore_n 2, 1) := by decide +kernel
theorem dX7_someOpens_9 : decode cX7_someOpens 9 = .ok (.iconst 0, 1) := by decide +kernel
theorem dX7_someOpens_10 : decode cX7_someOpens 10 = .ok (.istore_n 3, 1) := by decide +kernel
theorem dX7_someOpens_11 : decode cX7_someOpens 11 = .ok (.iload_n 3, 1) := by decide +kernel
theorem dX7_someOpens_12 : decode cX7_someOpens 12 = .ok (.aload_n 0, 1) := by decide +kernel
theorem dX7_someOpens_13 : decode cX7_someOpens 13 = .ok (.getfield 52, 3) := by decide +kernel
theorem dX7_someOpens_16 : decode cX7_someOpens 16 = .ok (.if_icmp .ge 20, 3) := by decide +kernel
theorem dX7_someOpens_19 : decode cX7_someOpens 19 = .ok (.aload_n 0, 1) := by decide +kernel
theorem dX7_someOpens_20 : decode cX7_someOpens 20 = .ok (.iload_n 2, 1) := by decide +kernel
theorem dX7_someOpens_21 : decode cX7_someOpens 21 = .ok (.iload_n 3, 1) := by decide +kernel
theorem dX7_someOpens_22 : decode cX7_someOpens 22 = .ok (.invokevirtual 63, 3) := by decide +kernel
theorem dX7_someOpens_25 : decode cX7_someOpens 25 = .ok (.ifCond .eq 5, 3) := by decide +kernel
theorem dX7_someOpens_28 : decode cX7_someOpens 28 = .ok (.iconst 1, 1) := by decide +kernel
theorem dX7_someOpens_29 : decode cX7_someOpens 29 = .ok (.ireturn, 1) := by decide +kernel
theorem dX7_someOpens_30 : decode cX7_someOpens 30 = .ok (.iinc 3 1, 3) := by decide +kernel
theorem dX7_someOpens_33 : decode cX7_someOpens 33 = .ok (.goto (-22), 3) := by decide +kernel
theorem dX7_someOpens_36 : decode cX7_someOpens 36 = .ok (.iconst 0, 1) := by decide +kernel
theorem dX7_someOpens_37 : decode cX7_someOpens 37 = .ok (.ireturn, 1) := by decide +kernel
theorem dX7_sortUp_0 : decode cX7_sortUp 0 = .ok (.iconst 1, 1) := by decide +kernel
theorem dX7_sortUp_1 : decode cX7_sortUp 1 = .ok (.istore_n 2, 1) := by decide +kernel
theorem dX7_sortUp_2 : decode cX7_sortUp 2 = .ok (.iload_n 2, 1) := by decide +kernel
theorem dX7_sortUp_3 : decode cX7_sortUp 3 = .ok (.iload_n 1, 1) := by decide +kernel
theorem dX7_sortUp_4 : decode cX7_sortUp 4 = .ok (.if_icmp .ge 44, 3) := by decide +kernel
theorem dX7_sortUp_7 : decode cX7_sortUp 7 = .ok (.iload_n 2, 1) := by decide +kernel
theorem dX7_sortUp_8 : decode cX7_sortUp 8 = .ok (.istore_n 3, 1) := by decide +kernel
theorem dX7_sortUp_9 : decode cX7_sortUp 9 = .ok (.iload_n 3, 1) := by decide +kernel
theorem dX7_sortUp_10 : decode cX7_sortUp 10 = .ok (.ifCond .le 32, 3) := by decide +kernel
theorem dX7_sortUp_13 : decode cX7_sortUp 13 = .ok (.aload_n 0, 1) := by decide +kernel
theorem dX7_sortUp_14 : decode cX7_sortUp 14 = .ok (.iload_n 3, 1) := by decide +kernel
theorem dX7_sortUp_15 : decode cX7_sortUp 15 = .ok (.iconst 1, 1) := by decide +kernel
theorem dX7_sortUp_16 : decode cX7_sortUp 16 = .ok (.isub, 1) := by decide +kernel
theorem dX7_sortUp_17 : decode cX7_sortUp 17 = .ok (.invokestatic 55, 3) := by decide +kernel
theorem dX7_sortUp_20 : decode cX7_sortUp 20 = .ok (.aload_n 0, 1) := by decide +kernel
theorem dX7_sortUp_21 : decode cX7_sortUp 21 = .ok (.iload_n 3, 1) := by decide +kernel
theorem dX7_sortUp_22 : decode cX7_sortUp 22 = .ok (.invokestatic 55, 3) := by decide +kernel
theorem dX7_sortUp_25 : decode cX7_sortUp 25 = .ok (.if_icmp .le 17, 3) := by decide +kernel
theorem dX7_sortUp_28 : decode cX7_sortUp 28 = .ok (.aload_n 0, 1) := by decide +kernel
theorem dX7_sortUp_29 : decode cX7_sortUp 29 = .ok (.iload_n 3, 1) := by decide +kernel
theorem dX7_sortUp_30 : decode cX7_sortUp 30 = .ok (.iconst 1, 1) := by decide +kernel
theorem dX7_sortUp_31 : decode cX7_sortUp 31 = .ok (.isub, 1) := by decide +kernel
theorem dX7_sortUp_32 : decode cX7_sortUp 32 = .ok (.iload_n 3, 1) := by decide +kernel
theorem dX7_sortUp_33 : decode cX7_sortUp 33 = .ok (.invokestatic 136, 3) := by decide +kernel
theorem dX7_sortUp_36 : decode cX7_sortUp 36 = .ok (.iinc 3 (-1), 3) := by decide +kernel
theorem dX7_sortUp_39 : decode cX7_sortUp 39 = .ok (.goto (-30), 3) := by decide +kernel
theorem dX7_sortUp_42 : decode cX7_sortUp 42 = .ok (.iinc 2 1, 3) := by decide +kernel
theorem dX7_sortUp_45 : decode cX7_sortUp 45 = .ok (.goto (-43), 3) := by decide +kernel
theorem dX7_sortUp_48 : decode cX7_sortUp 48 = .ok (.return_, 1) := by decide +kernel
theorem dX7_stepsOnToNearest_0 : decode cX7_stepsOnToNearest 0 = .ok (.aload_n 0, 1) := by decide +kernel
theorem dX7_stepsOnToNearest_1 : decode cX7_stepsOnToNearest 1 = .ok (.getfield 42, 3) := by decide +kernel
theorem dX7_stepsOnToNearest_4 : decode cX7_stepsOnToNearest 4 = .ok (.iload_n 2, 1) := by decide +kernel
theorem dX7_stepsOnToNearest_5 : decode cX7_stepsOnToNearest 5 = .ok (.invokevirtual 59, 3) := by decide +kernel
theorem dX7_stepsOnToNearest_8 : decode cX7_stepsOnToNearest 8 = .ok (.istore_n 3, 1) := by decide +kernel
theorem dX7_stepsOnToNearest_9 : decode cX7_stepsOnToNearest 9 = .ok (.iconst 0, 1) := by decide +kernel
theorem dX7_stepsOnToNearest_10 : decode cX7_stepsOnToNearest 10 = .ok (.istore 4, 2) := by decide +kernel
theorem dX7_stepsOnToNearest_12 : decode cX7_stepsOnToNearest 12 = .ok (.aload_n 0, 1) := by decide +kernel
theorem dX7_stepsOnToNearest_13 : decode cX7_stepsOnToNearest 13 = .ok (.getfield 52, 3) := by decide +kernel
theorem dX7_stepsOnToNearest_16 : decode cX7_stepsOnToNearest 16 = .ok (.istore 5, 2) := by decide +kernel
theorem dX7_stepsOnToNearest_18 : decode cX7_stepsOnToNearest 18 = .ok (.iconst 0, 1) := by decide +kernel
theorem dX7_stepsOnToNearest_19 : decode cX7_stepsOnToNearest 19 = .ok (.istore 6, 2) := by decide +kernel
theorem dX7_stepsOnToNearest_21 : decode cX7_stepsOnToNearest 21 = .ok (.iload 6, 2) := by decide +kernel
theorem dX7_stepsOnToNearest_23 : decode cX7_stepsOnToNearest 23 = .ok (.aload_n 0, 1) := by decide +kernel
theorem dX7_stepsOnToNearest_24 : decode cX7_stepsOnToNearest 24 = .ok (.getfield 52, 3) := by decide +kernel
theorem dX7_stepsOnToNearest_27 : decode cX7_stepsOnToNearest 27 = .ok (.if_icmp .ge 57, 3) := by decide +kernel
theorem dX7_stepsOnToNearest_30 : decode cX7_stepsOnToNearest 30 = .ok (.iload 6, 2) := by decide +kernel
theorem dX7_stepsOnToNearest_32 : decode cX7_stepsOnToNearest 32 = .ok (.aload_n 0, 1) := by decide +kernel
theorem dX7_stepsOnToNearest_33 : decode cX7_stepsOnToNearest 33 = .ok (.getfield 52, 3) := by decide +kernel
theorem dX7_stepsOnToNearest_36 : decode cX7_stepsOnToNearest 36 = .ok (.iload 6, 2) := by decide +kernel
theorem dX7_stepsOnToNearest_38 : decode cX7_stepsOnToNearest 38 = .ok (.isub, 1) := by decide +kernel
theorem dX7_stepsOnToNearest_39 : decode cX7_stepsOnToNearest 39 = .ok (.invokestatic 103, 3) := by decide +kernel
theorem dX7_stepsOnToNearest_42 : decode cX7_stepsOnToNearest 42 = .ok (.istore 7, 2) := by decide +kernel
theorem dX7_stepsOnToNearest_44 : decode cX7_stepsOnToNearest 44 = .ok (.iload 7, 2) := by decide +kernel
theorem dX7_stepsOnToNearest_46 : decode cX7_stepsOnToNearest 46 = .ok (.iload 5, 2) := by decide +kernel
theorem dX7_stepsOnToNearest_48 : decode cX7_stepsOnToNearest 48 = .ok (.if_icmp .ge 30, 3) := by decide +kernel
theorem dX7_stepsOnToNearest_51 : decode cX7_stepsOnToNearest 51 = .ok (.aload_n 0, 1) := by decide +kernel
theorem dX7_stepsOnToNearest_52 : decode cX7_stepsOnToNearest 52 = .ok (.iload_n 3, 1) := by decide +kernel
theorem dX7_stepsOnToNearest_53 : decode cX7_stepsOnToNearest 53 = .ok (.iload_n 1, 1) := by decide +kernel
theorem dX7_stepsOnToNearest_54 : decode cX7_stepsOnToNearest 54 = .ok (.iload 6, 2) := by decide +kernel
theorem dX7_stepsOnToNearest_56 : decode cX7_stepsOnToNearest 56 = .ok (.iadd, 1) := by decide +kernel
theorem dX7_stepsOnToNearest_57 : decode cX7_stepsOnToNearest 57 = .ok (.aload_n 0, 1) := by decide +kernel
theorem dX7_stepsOnToNearest_58 : decode cX7_stepsOnToNearest 58 = .ok (.getfield 52, 3) := by decide +kernel
theorem dX7_stepsOnToNearest_61 : decode cX7_stepsOnToNearest 61 = .ok (.invokestatic 70, 3) := by decide +kernel
theorem dX7_stepsOnToNearest_64 : decode cX7_stepsOnToNearest 64 = .ok (.invokevirtual 63, 3) := by decide +kernel
theorem dX7_stepsOnToNearest_67 : decode cX7_stepsOnToNearest 67 = .ok (.ifCond .eq 11, 3) := by decide +kernel
theorem dX7_stepsOnToNearest_70 : decode cX7_stepsOnToNearest 70 = .ok (.iload 7, 2) := by decide +kernel
theorem dX7_stepsOnToNearest_72 : decode cX7_stepsOnToNearest 72 = .ok (.istore 5, 2) := by decide +kernel
theorem dX7_stepsOnToNearest_74 : decode cX7_stepsOnToNearest 74 = .ok (.iload 6, 2) := by decide +kernel
theorem dX7_stepsOnToNearest_76 : decode cX7_stepsOnToNearest 76 = .ok (.istore 4, 2) := by decide +kernel
theorem dX7_stepsOnToNearest_78 : decode cX7_stepsOnToNearest 78 = .ok (.iinc 6 1, 3) := by decide +kernel
theorem dX7_stepsOnToNearest_81 : decode cX7_stepsOnToNearest 81 = .ok (.goto (-60), 3) := by decide +kernel
theorem dX7_stepsOnToNearest_84 : decode cX7_stepsOnToNearest 84 = .ok (.iload 4, 2) := by decide +kernel
theorem dX7_stepsOnToNearest_86 : decode cX7_stepsOnToNearest 86 = .ok (.ireturn, 1) := by decide +kernel
theorem dX7_swap_0 : decode cX7_swap 0 = .ok (.aload_n 0, 1) := by decide +kernel
theorem dX7_swap_1 : decode cX7_swap 1 = .ok (.iload_n 1, 1) := by decide +kernel
theorem dX7_swap_2 : decode cX7_swap 2 = .ok (.invokestatic 55, 3) := by decide +kernel
theorem dX7_swap_5 : decode cX7_swap 5 = .ok (.istore_n 3, 1) := by decide +kernel
theorem dX7_swap_6 : decode cX7_swap 6 = .ok (.aload_n 0, 1) := by decide +kernel
theorem dX7_swap_7 : decode cX7_swap 7 = .ok (.iload_n 1, 1) := by decide +kernel
theorem dX7_swap_8 : decode cX7_swap 8 = .ok (.aload_n 0, 1) := by decide +kernel
theorem dX7_swap_9 : decode cX7_swap 9 = .ok (.iload_n 2, 1) := by decide +kernel
theorem dX7_swap_10 : decode cX7_swap 10 = .ok (.invokestatic 55, 3) := by decide +kernel
theorem dX7_swap_13 : decode cX7_swap 13 = .ok (.invokestatic 132, 3) := by decide +kernel
theorem dX7_swap_16 : decode cX7_swap 16 = .ok (.aload_n 0, 1) := by decide +kernel
theorem dX7_swap_17 : decode cX7_swap 17 = .ok (.iload_n 2, 1) := by decide +kernel
theorem dX7_swap_18 : decode cX7_swap 18 = .ok (.iload_n 3, 1) := by decide +kernel
theorem dX7_swap_19 : decode cX7_swap 19 = .ok (.invokestatic 132, 3) := by decide +kernel
theorem dX7_swap_22 : decode cX7_swap 22 = .ok (.return_, 1) := by decide +kernel
theorem dX7_wantedSecondsAnywhere_0 : decode cX7_wantedSecondsAnywhere 0 = .ok (.iconst 0, 1) := by decide +kernel
theorem dX7_wantedSecondsAnywhere_1 : decode cX7_wantedSecondsAnywhere 1 = .ok (.istore_n 1, 1) := by decide +kernel
theorem dX7_wantedSecondsAnywhere_2 : decode cX7_wantedSecondsAnywhere 2 = .ok (.iconst 0, 1) := by decide +kernel
theorem dX7_wantedSecondsAnywhere_3 : decode cX7_wantedSecondsAnywhere 3 = .ok (.istore_n 2, 1) := by decide +kernel
theorem dX7_wantedSecondsAnywhere_4 : decode cX7_wantedSecondsAnywhere 4 = .ok (.iload_n 2, 1) := by decide +kernel
theorem dX7_wantedSecondsAnywhere_5 : decode cX7_wantedSecondsAnywhere 5 = .ok (.aload_n 0, 1) := by decide +kernel
theorem dX7_wantedSecondsAnywhere_6 : decode cX7_wantedSecondsAnywhere 6 = .ok (.getfield 42, 3) := by decide +kernel
theorem dX7_wantedSecondsAnywhere_9 : decode cX7_wantedSecondsAnywhere 9 = .ok (.getfield 77, 3) := by decide +kernel
theorem dX7_wantedSecondsAnywhere_12 : decode cX7_wantedSecondsAnywhere 12 = .ok (.if_icmp .ge 40, 3) := by decide +kernel
theorem dX7_wantedSecondsAnywhere_15 : decode cX7_wantedSecondsAnywhere 15 = .ok (.aload_n 0, 1) := by decide +kernel
theorem dX7_wantedSecondsAnywhere_16 : decode cX7_wantedSecondsAnywhere 16 = .ok (.getfield 42, 3) := by decide +kernel
theorem dX7_wantedSecondsAnywhere_19 : decode cX7_wantedSecondsAnywhere 19 = .ok (.iload_n 2, 1) := by decide +kernel
theorem dX7_wantedSecondsAnywhere_20 : decode cX7_wantedSecondsAnywhere 20 = .ok (.invokevirtual 84, 3) := by decide +kernel
theorem dX7_wantedSecondsAnywhere_23 : decode cX7_wantedSecondsAnywhere 23 = .ok (.istore_n 3, 1) := by decide +kernel
theorem dX7_wantedSecondsAnywhere_24 : decode cX7_wantedSecondsAnywhere 24 = .ok (.iload_n 3, 1) := by decide +kernel
theorem dX7_wantedSecondsAnywhere_25 : decode cX7_wantedSecondsAnywhere 25 = .ok (.ifCond .le 21, 3) := by decide +kernel
theorem dX7_wantedSecondsAnywhere_28 : decode cX7_wantedSecondsAnywhere 28 = .ok (.aload_n 0, 1) := by decide +kernel
theorem dX7_wantedSecondsAnywhere_29 : decode cX7_wantedSecondsAnywhere 29 = .ok (.iload_n 2, 1) := by decide +kernel
theorem dX7_wantedSecondsAnywhere_30 : decode cX7_wantedSecondsAnywhere 30 = .ok (.invokevirtual 80, 3) := by decide +kernel
theorem dX7_wantedSecondsAnywhere_33 : decode cX7_wantedSecondsAnywhere 33 = .ok (.ifCond .eq 13, 3) := by decide +kernel
theorem dX7_wantedSecondsAnywhere_36 : decode cX7_wantedSecondsAnywhere 36 = .ok (.iload_n 1, 1) := by decide +kernel
theorem dX7_wantedSecondsAnywhere_37 : decode cX7_wantedSecondsAnywhere 37 = .ok (.iload_n 3, 1) := by decide +kernel
theorem dX7_wantedSecondsAnywhere_38 : decode cX7_wantedSecondsAnywhere 38 = .ok (.aload_n 0, 1) := by decide +kernel
theorem dX7_wantedSecondsAnywhere_39 : decode cX7_wantedSecondsAnywhere 39 = .ok (.iload_n 2, 1) := by decide +kernel
theorem dX7_wantedSecondsAnywhere_40 : decode cX7_wantedSecondsAnywhere 40 = .ok (.invokevirtual 91, 3) := by decide +kernel
theorem dX7_wantedSecondsAnywhere_43 : decode cX7_wantedSecondsAnywhere 43 = .ok (.imul, 1) := by decide +kernel
theorem dX7_wantedSecondsAnywhere_44 : decode cX7_wantedSecondsAnywhere 44 = .ok (.iadd, 1) := by decide +kernel
theorem dX7_wantedSecondsAnywhere_45 : decode cX7_wantedSecondsAnywhere 45 = .ok (.istore_n 1, 1) := by decide +kernel
theorem dX7_wantedSecondsAnywhere_46 : decode cX7_wantedSecondsAnywhere 46 = .ok (.iinc 2 1, 3) := by decide +kernel
theorem dX7_wantedSecondsAnywhere_49 : decode cX7_wantedSecondsAnywhere 49 = .ok (.goto (-45), 3) := by decide +kernel
theorem dX7_wantedSecondsAnywhere_52 : decode cX7_wantedSecondsAnywhere 52 = .ok (.iload_n 1, 1) := by decide +kernel
theorem dX7_wantedSecondsAnywhere_53 : decode cX7_wantedSecondsAnywhere 53 = .ok (.ireturn, 1) := by decide +kernel
theorem dX7_wantedSecondsFrom_0 : decode cX7_wantedSecondsFrom 0 = .ok (.iconst 0, 1) := by decide +kernel
theorem dX7_wantedSecondsFrom_1 : decode cX7_wantedSecondsFrom 1 = .ok (.istore_n 3, 1) := by decide +kernel
theorem dX7_wantedSecondsFrom_2 : decode cX7_wantedSecondsFrom 2 = .ok (.iconst 0, 1) := by decide +kernel
theorem dX7_wantedSecondsFrom_3 : decode cX7_wantedSecondsFrom 3 = .ok (.istore 4, 2) := by decide +kernel
theorem dX7_wantedSecondsFrom_5 : decode cX7_wantedSecondsFrom 5 = .ok (.iload 4, 2) := by decide +kernel
theorem dX7_wantedSecondsFrom_7 : decode cX7_wantedSecondsFrom 7 = .ok (.aload_n 0, 1) := by decide +kernel
theorem dX7_wantedSecondsFrom_8 : decode cX7_wantedSecondsFrom 8 = .ok (.getfield 42, 3) := by decide +kernel
theorem dX7_wantedSecondsFrom_11 : decode cX7_wantedSecondsFrom 11 = .ok (.getfield 77, 3) := by decide +kernel
theorem dX7_wantedSecondsFrom_14 : decode cX7_wantedSecondsFrom 14 = .ok (.if_icmp .ge 48, 3) := by decide +kernel
theorem dX7_wantedSecondsFrom_17 : decode cX7_wantedSecondsFrom 17 = .ok (.aload_n 0, 1) := by decide +kernel
theorem dX7_wantedSecondsFrom_18 : decode cX7_wantedSecondsFrom 18 = .ok (.getfield 42, 3) := by decide +kernel
theorem dX7_wantedSecondsFrom_21 : decode cX7_wantedSecondsFrom 21 = .ok (.iload 4, 2) := by decide +kernel
theorem dX7_wantedSecondsFrom_23 : decode cX7_wantedSecondsFrom 23 = .ok (.invokevirtual 84, 3) := by decide +kernel
theorem dX7_wantedSecondsFrom_26 : decode cX7_wantedSecondsFrom 26 = .ok (.istore 5, 2) := by decide +kernel
theorem dX7_wantedSecondsFrom_28 : decode cX7_wantedSecondsFrom 28 = .ok (.iload 5, 2) := by decide +kernel
theorem dX7_wantedSecondsFrom_30 : decode cX7_wantedSecondsFrom 30 = .ok (.ifCond .le 26, 3) := by decide +kernel
theorem dX7_wantedSecondsFrom_33 : decode cX7_wantedSecondsFrom 33 = .ok (.aload_n 0, 1) := by decide +kernel
theorem dX7_wantedSecondsFrom_34 : decode cX7_wantedSecondsFrom 34 = .ok (.iload 4, 2) := by decide +kernel
theorem dX7_wantedSecondsFrom_36 : decode cX7_wantedSecondsFrom 36 = .ok (.invokevirtual 80, 3) := by decide +kernel
theorem dX7_wantedSecondsFrom_39 : decode cX7_wantedSecondsFrom 39 = .ok (.ifCond .eq 17, 3) := by decide +kernel
theorem dX7_wantedSecondsFrom_42 : decode cX7_wantedSecondsFrom 42 = .ok (.iload_n 3, 1) := by decide +kernel
theorem dX7_wantedSecondsFrom_43 : decode cX7_wantedSecondsFrom 43 = .ok (.iload 5, 2) := by decide +kernel
theorem dX7_wantedSecondsFrom_45 : decode cX7_wantedSecondsFrom 45 = .ok (.aload_n 0, 1) := by decide +kernel
theorem dX7_wantedSecondsFrom_46 : decode cX7_wantedSecondsFrom 46 = .ok (.iload 4, 2) := by decide +kernel
theorem dX7_wantedSecondsFrom_48 : decode cX7_wantedSecondsFrom 48 = .ok (.iload_n 1, 1) := by decide +kernel
theorem dX7_wantedSecondsFrom_49 : decode cX7_wantedSecondsFrom 49 = .ok (.iload_n 2, 1) := by decide +kernel
theorem dX7_wantedSecondsFrom_50 : decode cX7_wantedSecondsFrom 50 = .ok (.invokevirtual 87, 3) := by decide +kernel
theorem dX7_wantedSecondsFrom_53 : decode cX7_wantedSecondsFrom 53 = .ok (.imul, 1) := by decide +kernel
theorem dX7_wantedSecondsFrom_54 : decode cX7_wantedSecondsFrom 54 = .ok (.iadd, 1) := by decide +kernel
theorem dX7_wantedSecondsFrom_55 : decode cX7_wantedSecondsFrom 55 = .ok (.istore_n 3, 1) := by decide +kernel
theorem dX7_wantedSecondsFrom_56 : decode cX7_wantedSecondsFrom 56 = .ok (.iinc 4 1, 3) := by decide +kernel
theorem dX7_wantedSecondsFrom_59 : decode cX7_wantedSecondsFrom 59 = .ok (.goto (-54), 3) := by decide +kernel
theorem dX7_wantedSecondsFrom_62 : decode cX7_wantedSecondsFrom 62 = .ok (.iload_n 3, 1) := by decide +kernel
theorem dX7_wantedSecondsFrom_63 : decode cX7_wantedSecondsFrom 63 = .ok (.ireturn, 1) := by decide +kernel
theorem dX7_wantedTogether_0 : decode cX7_wantedTogether 0 = .ok (.iconst 0, 1) := by decide +kernel
theorem dX7_wantedTogether_1 : decode cX7_wantedTogether 1 = .ok (.istore_n 1, 1) := by decide +kernel
theorem dX7_wantedTogether_2 : decode cX7_wantedTogether 2 = .ok (.iconst 0, 1) := by decide +kernel
theorem dX7_wantedTogether_3 : decode cX7_wantedTogether 3 = .ok (.istore_n 2, 1) := by decide +kernel
theorem dX7_wantedTogether_4 : decode cX7_wantedTogether 4 = .ok (.iload_n 2, 1) := by decide +kernel
theorem dX7_wantedTogether_5 : decode cX7_wantedTogether 5 = .ok (.aload_n 0, 1) := by decide +kernel
theorem dX7_wantedTogether_6 : decode cX7_wantedTogether 6 = .ok (.getfield 42, 3) := by decide +kernel
theorem dX7_wantedTogether_9 : decode cX7_wantedTogether 9 = .ok (.getfield 77, 3) := by decide +kernel
theorem dX7_wantedTogether_12 : decode cX7_wantedTogether 12 = .ok (.if_icmp .ge 28, 3) := by decide +kernel
theorem dX7_wantedTogether_15 : decode cX7_wantedTogether 15 = .ok (.aload_n 0, 1) := by decide +kernel
theorem dX7_wantedTogether_16 : decode cX7_wantedTogether 16 = .ok (.iload_n 2, 1) := by decide +kernel
theorem dX7_wantedTogether_17 : decode cX7_wantedTogether 17 = .ok (.invokevirtual 80, 3) := by decide +kernel
theorem dX7_wantedTogether_20 : decode cX7_wantedTogether 20 = .ok (.ifCond .eq 14, 3) := by decide +kernel
theorem dX7_wantedTogether_23 : decode cX7_wantedTogether 23 = .ok (.iload_n 1, 1) := by decide +kernel
theorem dX7_wantedTogether_24 : decode cX7_wantedTogether 24 = .ok (.aload_n 0, 1) := by decide +kernel
theorem dX7_wantedTogether_25 : decode cX7_wantedTogether 25 = .ok (.getfield 42, 3) := by decide +kernel
theorem dX7_wantedTogether_28 : decode cX7_wantedTogether 28 = .ok (.iload_n 2, 1) := by decide +kernel
theorem dX7_wantedTogether_29 : decode cX7_wantedTogether 29 = .ok (.invokevirtual 84, 3) := by decide +kernel
theorem dX7_wantedTogether_32 : decode cX7_wantedTogether 32 = .ok (.iadd, 1) := by decide +kernel
theorem dX7_wantedTogether_33 : decode cX7_wantedTogether 33 = .ok (.istore_n 1, 1) := by decide +kernel
theorem dX7_wantedTogether_34 : decode cX7_wantedTogether 34 = .ok (.iinc 2 1, 3) := by decide +kernel
theorem dX7_wantedTogether_37 : decode cX7_wantedTogether 37 = .ok (.goto (-33), 3) := by decide +kernel
theorem dX7_wantedTogether_40 : decode cX7_wantedTogether 40 = .ok (.iload_n 1, 1) := by decide +kernel
theorem dX7_wantedTogether_41 : decode cX7_wantedTogether 41 = .ok (.ireturn, 1) := by decide +kernel
theorem dX8_advance_0 : decode cX8_advance 0 = .ok (.aload_n 0, 1) := by decide +kernel
theorem dX8_advance_1 : decode cX8_advance 1 = .ok (.aload_n 0, 1) := by decide +kernel
theorem dX8_advance_2 : decode cX8_advance 2 = .ok (.getfield 28, 3) := by decide +kernel
theorem dX8_advance_5 : decode cX8_advance 5 = .ok (.putfield 37, 3) := by decide +kernel
theorem dX8_advance_8 : decode cX8_advance 8 = .ok (.aload_n 0, 1) := by decide +kernel
theorem dX8_advance_9 : decode cX8_advance 9 = .ok (.getfield 37, 3) := by decide +kernel
theorem dX8_advance_12 : decode cX8_advance 12 = .ok (.aload_n 0, 1) := by decide +kernel
theorem dX8_advance_13 : decode cX8_advance 13 = .ok (.getfield 25, 3) := by decide +kernel
theorem dX8_advance_16 : decode cX8_advance 16 = .ok (.if_icmp .ge 30, 3) := by decide +kernel
theorem dX8_advance_19 : decode cX8_advance 19 = .ok (.aload_n 0, 1) := by decide +kernel
theorem dX8_advance_20 : decode cX8_advance 20 = .ok (.aload_n 0, 1) := by decide +kernel
theorem dX8_advance_21 : decode cX8_advance 21 = .ok (.getfield 37, 3) := by decide +kernel
theorem dX8_advance_24 : decode cX8_advance 24 = .ok (.invokevirtual 40, 3) := by decide +kernel
theorem dX8_advance_27 : decode cX8_advance 27 = .ok (.invokestatic 44, 3) := by decide +kernel
theorem dX8_advance_30 : decode cX8_advance 30 = .ok (.ifCond .eq 16, 3) := by decide +kernel
theorem dX8_advance_33 : decode cX8_advance 33 = .ok (.aload_n 0, 1) := by decide +kernel
theorem dX8_advance_34 : decode cX8_advance 34 = .ok (.dup, 1) := by decide +kernel
theorem dX8_advance_35 : decode cX8_advance 35 = .ok (.getfield 37, 3) := by decide +kernel
theorem dX8_advance_38 : decode cX8_advance 38 = .ok (.iconst 1, 1) := by decide +kernel
theorem dX8_advance_39 : decode cX8_advance 39 = .ok (.iadd, 1) := by decide +kernel
theorem dX8_advance_40 : decode cX8_advance 40 = .ok (.putfield 37, 3) := by decide +kernel
theorem dX8_advance_43 : decode cX8_advance 43 = .ok (.goto (-35), 3) := by decide +kernel
theorem dX8_advance_46 : decode cX8_advance 46 = .ok (.aload_n 0, 1) := by decide +kernel
theorem dX8_advance_47 : decode cX8_advance 47 = .ok (.aload_n 0, 1) := by decide +kernel
theorem dX8_advance_48 : decode cX8_advance 48 = .ok (.getfield 37, 3) := by decide +kernel
theorem dX8_advance_51 : decode cX8_advance 51 = .ok (.putfield 28, 3) := by decide +kernel
theorem dX8_advance_54 : decode cX8_advance 54 = .ok (.aload_n 0, 1) := by decide +kernel
theorem dX8_advance_55 : decode cX8_advance 55 = .ok (.aload_n 0, 1) := by decide +kernel
theorem dX8_advance_56 : decode cX8_advance 56 = .ok (.getfield 37, 3) := by decide +kernel
theorem dX8_advance_59 : decode cX8_advance 59 = .ok (.invokevirtual 40, 3) := by decide +kernel
theorem dX8_advance_62 : decode cX8_advance 62 = .ok (.istore_n 1, 1) := by decide +kernel
theorem dX8_advance_63 : decode cX8_advance 63 = .ok (.iload_n 1, 1) := by decide +kernel
theorem dX8_advance_64 : decode cX8_advance 64 = .ok (.iconst (-1), 1) := by decide +kernel
theorem dX8_advance_65 : decode cX8_advance 65 = .ok (.if_icmp .ne 11, 3) := by decide +kernel
theorem dX8_advance_68 : decode cX8_advance 68 = .ok (.aload_n 0, 1) := by decide +kernel
theorem dX8_advance_69 : decode cX8_advance 69 = .ok (.iconst 0, 1) := by decide +kernel
theorem dX8_advance_70 : decode cX8_advance 70 = .ok (.putfield 34, 3) := by decide +kernel
theorem dX8_advance_73 : decode cX8_advance 73 = .ok (.goto 67, 3) := by decide +kernel
theorem dX8_advance_76 : decode cX8_advance 76 = .ok (.iload_n 1, 1) := by decide +kernel
theorem dX8_advance_77 : decode cX8_advance 77 = .ok (.invokestatic 48, 3) := by decide +kernel
theorem dX8_advance_80 : decode cX8_advance 80 = .ok (.ifCond .eq 15, 3) := by decide +kernel
theorem dX8_advance_83 : decode cX8_advance 83 = .ok (.aload_n 0, 1) := by decide +kernel
theorem dX8_advance_84 : decode cX8_advance 84 = .ok (.iconst 1, 1) := by decide +kernel
theorem dX8_advance_85 : decode cX8_advance 85 = .ok (.putfield 34, 3) := by decide +kernel
theorem dX8_advance_88 : decode cX8_advance 88 = .ok (.aload_n 0, 1) := by decide +kernel
theorem dX8_advance_89 : decode cX8_advance 89 = .ok (.invokevirtual 51, 3) := by decide +kernel
theorem dX8_advance_92 : decode cX8_advance 92 = .ok (.goto 48, 3) := by decide +kernel
theorem dX8_advance_95 : decode cX8_advance 95 = .ok (.iload_n 1, 1) := by decide +kernel
theorem dX8_advance_96 : decode cX8_advance 96 = .ok (.invokestatic 54, 3) := by decide +kernel
theorem dX8_advance_99 : decode cX8_advance 99 = .ok (.ifCond .eq 10, 3) := by decide +kernel
theorem dX8_advance_102 : decode cX8_advance 102 = .ok (.aload_n 0, 1) := by decide +kernel
theorem dX8_advance_103 : decode cX8_advance 103 = .ok (.invokevirtual 57, 3) := by decide +kernel
theorem dX8_advance_106 : decode cX8_advance 106 = .ok (.goto 34, 3) := by decide +kernel
theorem dX8_advance_109 : decode cX8_advance 109 = .ok (.aload_n 0, 1) := by decide +kernel
theorem dX8_advance_110 : decode cX8_advance 110 = .ok (.iload_n 1, 1) := by decide +kernel
theorem dX8_advance_111 : decode cX8_advance 111 = .ok (.invokestatic 60, 3) := by decide +kernel
theorem dX8_advance_114 : decode cX8_advance 114 = .ok (.ifCond .eq 7, 3) := by decide +kernel
theorem dX8_advance_117 : decode cX8_advance 117 = .ok (.iconst 3, 1) := by decide +kernel
theorem dX8_advance_118 : decode cX8_advance 118 = .ok (.goto 4, 3) := by decide +kernel
theorem dX8_advance_121 : decode cX8_advance 121 = .ok (.iconst 4, 1) := by decide +kernel
theorem dX8_advance_122 : decode cX8_advance 122 = .ok (.putfield 34, 3) := by decide +kernel
theorem dX8_advance_125 : decode cX8_advance 125 = .ok (.aload_n 0, 1) := by decide +kernel
theorem dX8_advance_126 : decode cX8_advance 126 = .ok (.iload_n 1, 1) := by decide +kernel
theorem dX8_advance_127 : decode cX8_advance 127 = .ok (.putfield 63, 3) := by decide +kernel
theorem dX8_advance_130 : decode cX8_advance 130 = .ok (.aload_n 0, 1) := by decide +kernel
theorem dX8_advance_131 : decode cX8_advance 131 = .ok (.aload_n 0, 1) := by decide +kernel
theorem dX8_advance_132 : decode cX8_advance 132 = .ok (.getfield 37, 3) := by decide +kernel
theorem dX8_advance_135 : decode cX8_advance 135 = .ok (.iconst 1, 1) := by decide +kernel
theorem dX8_advance_136 : decode cX8_advance 136 = .ok (.iadd, 1) := by decide +kernel
theorem dX8_advance_137 : decode cX8_advance 137 = .ok (.putfield 28, 3) := by decide +kernel
theorem dX8_advance_140 : decode cX8_advance 140 = .ok (.return_, 1) := by decide +kernel
theorem dX8_append_0 : decode cX8_append 0 = .ok (.bipush 24, 2) := by decide +kernel
theorem dX8_append_2 : decode cX8_append 2 = .ok (.istore_n 2, 1) := by decide +kernel
theorem dX8_append_3 : decode cX8_append 3 = .ok (.iload_n 2, 1) := by decide +kernel
theorem dX8_append_4 : decode cX8_append 4 = .ok (.ifCond .lt 49, 3) := by decide +kernel
theorem dX8_append_7 : decode cX8_append 7 = .ok (.aload_n 0, 1) := by decide +kernel
theorem dX8_append_8 : decode cX8_append 8 = .ok (.getfield 15, 3) := by decide +kernel
theorem dX8_append_11 : decode cX8_append 11 = .ok (.ifCond .lt 36, 3) := by decide +kernel
theorem dX8_append_14 : decode cX8_append 14 = .ok (.aload_n 0, 1) := by decide +kernel
theorem dX8_append_15 : decode cX8_append 15 = .ok (.getfield 15, 3) := by decide +kernel
theorem dX8_append_18 : decode cX8_append 18 = .ok (.sipush 900, 3) := by decide +kernel
theorem dX8_append_21 : decode cX8_append 21 = .ok (.if_icmp .ge 26, 3) := by decide +kernel
theorem dX8_append_24 : decode cX8_append 24 = .ok (.aload_n 0, 1) := by decide +kernel
theorem dX8_append_25 : decode cX8_append 25 = .ok (.getfield 11, 3) := by decide +kernel
theorem dX8_append_28 : decode cX8_append 28 = .ok (.aload_n 0, 1) := by decide +kernel
theorem dX8_append_29 : decode cX8_append 29 = .ok (.getfield 15, 3) := by decide +kernel
theorem dX8_append_32 : decode cX8_append 32 = .ok (.iload_n 1, 1) := by decide +kernel
theorem dX8_append_33 : decode cX8_append 33 = .ok (.iload_n 2, 1) := by decide +kernel
theorem dX8_append_34 : decode cX8_append 34 = .ok (.ishr, 1) := by decide +kernel
theorem dX8_append_35 : decode cX8_append 35 = .ok (.i2b, 1) := by decide +kernel
theorem dX8_append_36 : decode cX8_append 36 = .ok (.bastore, 1) := by decide +kernel
theorem dX8_append_37 : decode cX8_append 37 = .ok (.aload_n 0, 1) := by decide +kernel
theorem dX8_append_38 : decode cX8_append 38 = .ok (.dup, 1) := by decide +kernel
theorem dX8_append_39 : decode cX8_append 39 = .ok (.getfield 15, 3) := by decide +kernel
theorem dX8_append_42 : decode cX8_append 42 = .ok (.iconst 1, 1) := by decide +kernel
theorem dX8_append_43 : decode cX8_append 43 = .ok (.iadd, 1) := by decide +kernel
theorem dX8_append_44 : decode cX8_append 44 = .ok (.putfield 15, 3) := by decide +kernel
theorem dX8_append_47 : decode cX8_append 47 = .ok (.iinc 2 (-8), 3) := by decide +kernel
theorem dX8_append_50 : decode cX8_append 50 = .ok (.goto (-47), 3) := by decide +kernel
theorem dX8_append_53 : decode cX8_append 53 = .ok (.return_, 1) := by decide +kernel
theorem dX8_begin_0 : decode cX8_begin 0 = .ok (.aload_n 0, 1) := by decide +kernel
theorem dX8_begin_1 : decode cX8_begin 1 = .ok (.iload_n 1, 1) := by decide +kernel
theorem dX8_begin_2 : decode cX8_begin 2 = .ok (.putfield 25, 3) := by decide +kernel
theorem dX8_begin_5 : decode cX8_begin 5 = .ok (.aload_n 0, 1) := by decide +kernel
theorem dX8_begin_6 : decode cX8_begin 6 = .ok (.iconst 0, 1) := by decide +kernel
theorem dX8_begin_7 : decode cX8_begin 7 = .ok (.putfield 15, 3) := by decide +kernel
theorem dX8_begin_10 : decode cX8_begin 10 = .ok (.aload_n 0, 1) := by decide +kernel
theorem dX8_begin_11 : decode cX8_begin 11 = .ok (.iconst 0, 1) := by decide +kernel
theorem dX8_begin_12 : decode cX8_begin 12 = .ok (.putfield 28, 3) := by decide +kernel
theorem dX8_begin_15 : decode cX8_begin 15 = .ok (.aload_n 0, 1) := by decide +kernel
theorem dX8_begin_16 : decode cX8_begin 16 = .ok (.iconst 0, 1) := by decide +kernel
theorem dX8_begin_17 : decode cX8_begin 17 = .ok (.putfield 19, 3) := by decide +kernel
theorem dX8_begin_20 : decode cX8_begin 20 = .ok (.aload_n 0, 1) := by decide +kernel
theorem dX8_begin_21 : decode cX8_begin 21 = .ok (.iconst (-1), 1) := by decide +kernel
theorem dX8_begin_22 : decode cX8_begin 22 = .ok (.putfield 22, 3) := by decide +kernel
theorem dX8_begin_25 : decode cX8_begin 25 = .ok (.aload_n 0, 1) := by decide +kernel
theorem dX8_begin_26 : decode cX8_begin 26 = .ok (.invokevirtual 31, 3) := by decide +kernel
theorem dX8_begin_29 : decode cX8_begin 29 = .ok (.return_, 1) := by decide +kernel
theorem dX8_byteAt_0 : decode cX8_byteAt 0 = .ok (.iload_n 1, 1) := by decide +kernel
theorem dX8_byteAt_1 : decode cX8_byteAt 1 = .ok (.ifCond .lt 31, 3) := by decide +kernel
theorem dX8_byteAt_4 : decode cX8_byteAt 4 = .ok (.iload_n 1, 1) := by decide +kernel
theorem dX8_byteAt_5 : decode cX8_byteAt 5 = .ok (.aload_n 0, 1) := by decide +kernel
theorem dX8_byteAt_6 : decode cX8_byteAt 6 = .ok (.getfield 25, 3) := by decide +kernel
theorem dX8_byteAt_9 : decode cX8_byteAt 9 = .ok (.if_icmp .ge 23, 3) := by decide +kernel
theorem dX8_byteAt_12 : decode cX8_byteAt 12 = .ok (.iload_n 1, 1) := by decide +kernel
theorem dX8_byteAt_13 : decode cX8_byteAt 13 = .ok (.sipush 900, 3) := by decide +kernel
theorem dX8_byteAt_16 : decode cX8_byteAt 16 = .ok (.if_icmp .ge 16, 3) := by decide +kernel
theorem dX8_byteAt_19 : decode cX8_byteAt 19 = .ok (.aload_n 0, 1) := by decide +kernel
theorem dX8_byteAt_20 : decode cX8_byteAt 20 = .ok (.getfield 11, 3) := by decide +kernel
theorem dX8_byteAt_23 : decode cX8_byteAt 23 = .ok (.iload_n 1, 1) := by decide +kernel
theorem dX8_byteAt_24 : decode cX8_byteAt 24 = .ok (.baload, 1) := by decide +kernel
theorem dX8_byteAt_25 : decode cX8_byteAt 25 = .ok (.sipush 255, 3) := by decide +kernel
theorem dX8_byteAt_28 : decode cX8_byteAt 28 = .ok (.iand, 1) := by decide +kernel
theorem dX8_byteAt_29 : decode cX8_byteAt 29 = .ok (.goto 4, 3) := by decide +kernel
theorem dX8_byteAt_32 : decode cX8_byteAt 32 = .ok (.iconst (-1), 1) := by decide +kernel
theorem dX8_byteAt_33 : decode cX8_byteAt 33 = .ok (.ireturn, 1) := by decide +kernel
theorem dX8_goesOn_0 : decode cX8_goesOn 0 = .ok (.aload_n 0, 1) := by decide +kernel
theorem dX8_goesOn_1 : decode cX8_goesOn 1 = .ok (.getfield 19, 3) := by decide +kernel
theorem dX8_goesOn_4 : decode cX8_goesOn 4 = .ok (.ifCond .ne 14, 3) := by decide +kernel
theorem dX8_goesOn_7 : decode cX8_goesOn 7 = .ok (.aload_n 0, 1) := by decide +kernel
theorem dX8_goesOn_8 : decode cX8_goesOn 8 = .ok (.getfield 34, 3) := by decide +kernel
theorem dX8_goesOn_11 : decode cX8_goesOn 11 = .ok (.ifCond .eq 7, 3) := by decide +kernel
theorem dX8_goesOn_14 : decode cX8_goesOn 14 = .ok (.iconst 1, 1) := by decide +kernel
theorem dX8_goesOn_15 : decode cX8_goesOn 15 = .ok (.goto 4, 3) := by decide +kernel
theorem dX8_goesOn_18 : decode cX8_goesOn 18 = .ok (.iconst 0, 1) := by decide +kernel
theorem dX8_goesOn_19 : decode cX8_goesOn 19 = .ok (.ireturn, 1) := by decide +kernel
theorem dX8_hasRoom_0 : decode cX8_hasRoom 0 = .ok (.aload_n 0, 1) := by decide +kernel
theorem dX8_hasRoom_1 : decode cX8_hasRoom 1 = .ok (.getfield 15, 3) := by decide +kernel
theorem dX8_hasRoom_4 : decode cX8_hasRoom 4 = .ok (.iload_n 1, 1) := by decide +kernel
theorem dX8_hasRoom_5 : decode cX8_hasRoom 5 = .ok (.iadd, 1) := by decide +kernel
theorem dX8_hasRoom_6 : decode cX8_hasRoom 6 = .ok (.sipush 900, 3) := by decide +kernel
theorem dX8_hasRoom_9 : decode cX8_hasRoom 9 = .ok (.if_icmp .gt 7, 3) := by decide +kernel
theorem dX8_hasRoom_12 : decode cX8_hasRoom 12 = .ok (.iconst 1, 1) := by decide +kernel
theorem dX8_hasRoom_13 : decode cX8_hasRoom 13 = .ok (.goto 4, 3) := by decide +kernel
theorem dX8_hasRoom_16 : decode cX8_hasRoom 16 = .ok (.iconst 0, 1) := by decide +kernel
theorem dX8_hasRoom_17 : decode cX8_hasRoom 17 = .ok (.ireturn, 1) := by decide +kernel
theorem dX8_is_0 : decode cX8_is 0 = .ok (.aload_n 0, 1) := by decide +kernel
theorem dX8_is_1 : decode cX8_is 1 = .ok (.getfield 34, 3) := by decide +kernel
theorem dX8_is_4 : decode cX8_is 4 = .ok (.iconst 1, 1) := by decide +kernel
theorem dX8_is_5 : decode cX8_is 5 = .ok (.if_icmp .ne 19, 3) := by decide +kernel
theorem dX8_is_8 : decode cX8_is 8 = .ok (.aload_n 0, 1) := by decide +kernel
theorem dX8_is_9 : decode cX8_is 9 = .ok (.getfield 28, 3) := by decide +kernel
theorem dX8_is_12 : decode cX8_is 12 = .ok (.aload_n 0, 1) := by decide +kernel
theorem dX8_is_13 : decode cX8_is 13 = .ok (.getfield 37, 3) := by decide +kernel
theorem dX8_is_16 : decode cX8_is 16 = .ok (.isub, 1) := by decide +kernel
theorem dX8_is_17 : decode cX8_is 17 = .ok (.aload_n 1, 1) := by decide +kernel
theorem dX8_is_18 : decode cX8_is 18 = .ok (.invokevirtual 77, 3) := by decide +kernel
theorem dX8_is_21 : decode cX8_is 21 = .ok (.if_icmp .eq 5, 3) := by decide +kernel
theorem dX8_is_24 : decode cX8_is 24 = .ok (.iconst 0, 1) := by decide +kernel
theorem dX8_is_25 : decode cX8_is 25 = .ok (.ireturn, 1) := by decide +kernel
theorem dX8_is_26 : decode cX8_is 26 = .ok (.iconst 0, 1) := by decide +kernel
theorem dX8_is_27 : decode cX8_is 27 = .ok (.istore_n 2, 1) := by decide +kernel
theorem dX8_is_28 : decode cX8_is 28 = .ok (.iload_n 2, 1) := by decide +kernel
theorem dX8_is_29 : decode cX8_is 29 = .ok (.aload_n 1, 1) := by decide +kernel
theorem dX8_is_30 : decode cX8_is 30 = .ok (.invokevirtual 77, 3) := by decide +kernel
theorem dX8_is_33 : decode cX8_is 33 = .ok (.if_icmp .ge 29, 3) := by decide +kernel
theorem dX8_is_36 : decode cX8_is 36 = .ok (.aload_n 0, 1) := by decide +kernel
theorem dX8_is_37 : decode cX8_is 37 = .ok (.aload_n 0, 1) := by decide +kernel
theorem dX8_is_38 : decode cX8_is 38 = .ok (.getfield 37, 3) := by decide +kernel
theorem dX8_is_41 : decode cX8_is 41 = .ok (.iload_n 2, 1) := by decide +kernel
theorem dX8_is_42 : decode cX8_is 42 = .ok (.iadd, 1) := by decide +kernel
theorem dX8_is_43 : decode cX8_is 43 = .ok (.invokevirtual 40, 3) := by decide +kernel
theorem dX8_is_46 : decode cX8_is 46 = .ok (.aload_n 1, 1) := by decide +kernel
theorem dX8_is_47 : decode cX8_is 47 = .ok (.iload_n 2, 1) := by decide +kernel
theorem dX8_is_48 : decode cX8_is 48 = .ok (.invokevirtual 82, 3) := by decide +kernel
theorem dX8_is_51 : decode cX8_is 51 = .ok (.if_icmp .eq 5, 3) := by decide +kernel
theorem dX8_is_54 : decode cX8_is 54 = .ok (.iconst 0, 1) := by decide +kernel
theorem dX8_is_55 : decode cX8_is 55 = .ok (.ireturn, 1) := by decide +kernel
theorem dX8_is_56 : decode cX8_is 56 = .ok (.iinc 2 1, 3) := by decide +kernel
theorem dX8_is_59 : decode cX8_is 59 = .ok (.goto (-31), 3) := by decide +kernel
theorem dX8_is_62 : decode cX8_is 62 = .ok (.iconst 1, 1) := by decide +kernel
theorem dX8_is_63 : decode cX8_is 63 = .ok (.ireturn, 1) := by decide +kernel
theorem dX8_isBlank_0 : decode cX8_isBlank 0 = .ok (.iload_n 0, 1) := by decide +kernel
theorem dX8_isBlank_1 : decode cX8_isBlank 1 = .ok (.bipush 10, 2) := by decide +kernel
theorem dX8_isBlank_3 : decode cX8_isBlank 3 = .ok (.if_icmp .eq 9, 3) := by decide +kernel
theorem dX8_isBlank_6 : decode cX8_isBlank 6 = .ok (.iload_n 0, 1) := by decide +kernel
theorem dX8_isBlank_7 : decode cX8_isBlank 7 = .ok (.bipush 32, 2) := by decide +kernel
theorem dX8_isBlank_9 : decode cX8_isBlank 9 = .ok (.if_icmp .ne 7, 3) := by decide +kernel
theorem dX8_isBlank_12 : decode cX8_isBlank 12 = .ok (.iconst 1, 1) := by decide +kernel
theorem dX8_isBlank_13 : decode cX8_isBlank 13 = .ok (.goto 4, 3) := by decide +kernel
theorem dX8_isBlank_16 : decode cX8_isBlank 16 = .ok (.iconst 0, 1) := by decide +kernel
theorem dX8_isBlank_17 : decode cX8_isBlank 17 = .ok (.ireturn, 1) := by decide +kernel
theorem dX8_isDigit_0 : decode cX8_isDigit 0 = .ok (.iload_n 0, 1) := by decide +kernel
theorem dX8_isDigit_1 : decode cX8_isDigit 1 = .ok (.bipush 48, 2) := by decide +kernel
theorem dX8_isDigit_3 : decode cX8_isDigit 3 = .ok (.if_icmp .lt 13, 3) := by decide +kernel
theorem dX8_isDigit_6 : decode cX8_isDigit 6 = .ok (.iload_n 0, 1) := by decide +kernel
theorem dX8_isDigit_7 : decode cX8_isDigit 7 = .ok (.bipush 57, 2) := by decide +kernel
theorem dX8_isDigit_9 : decode cX8_isDigit 9 = .ok (.if_icmp .gt 7, 3) := by decide +kernel
theorem dX8_isDigit_12 : decode cX8_isDigit 12 = .ok (.iconst 1, 1) := by decide +kernel
theorem dX8_isDigit_13 : decode cX8_isDigit 13 = .ok (.goto 4, 3) := by decide +kernel
theorem dX8_isDigit_16 : decode cX8_isDigit 16 = .ok (.iconst 0, 1) := by decide +kernel
theorem dX8_isDigit_17 : decode cX8_isDigit 17 = .ok (.ireturn, 1) := by decide +kernel
theorem dX8_isLetter_0 : decode cX8_isLetter 0 = .ok (.iload_n 0, 1) := by decide +kernel
theorem dX8_isLetter_1 : decode cX8_isLetter 1 = .ok (.bipush 97, 2) := by decide +kernel
theorem dX8_isLetter_3 : decode cX8_isLetter 3 = .ok (.if_icmp .lt 13, 3) := by decide +kernel
theorem dX8_isLetter_6 : decode cX8_isLetter 6 = .ok (.iload_n 0, 1) := by decide +kernel
theorem dX8_isLetter_7 : decode cX8_isLetter 7 = .ok (.bipush 122, 2) := by decide +kernel
theorem dX8_isLetter_9 : decode cX8_isLetter 9 = .ok (.if_icmp .gt 7, 3) := by decide +kernel
theorem dX8_isLetter_12 : decode cX8_isLetter 12 = .ok (.iconst 1, 1) := by decide +kernel
theorem dX8_isLetter_13 : decode cX8_isLetter 13 = .ok (.goto 4, 3) := by decide +kernel
theorem dX8_isLetter_16 : decode cX8_isLetter 16 = .ok (.iconst 0, 1) := by decide +kernel
theorem dX8_isLetter_17 : decode cX8_isLetter 17 = .ok (.ireturn, 1) := by decide +kernel
theorem dX8_isName_0 : decode cX8_isName 0 = .ok (.aload_n 0, 1) := by decide +kernel
theorem dX8_isName_1 : decode cX8_isName 1 = .ok (.getfield 34, 3) := by decide +kernel
theorem dX8_isName_4 : decode cX8_isName 4 = .ok (.iconst 1, 1) := by decide +kernel
theorem dX8_isName_5 : decode cX8_isName 5 = .ok (.if_icmp .ne 12, 3) := by decide +kernel
theorem dX8_isName_8 : decode cX8_isName 8 = .ok (.aload_n 0, 1) := by decide +kernel
theorem dX8_isName_9 : decode cX8_isName 9 = .ok (.getfield 66, 3) := by decide +kernel
theorem dX8_isName_12 : decode cX8_isName 12 = .ok (.lconst 0, 1) := by decide +kernel
theorem dX8_isName_13 : decode cX8_isName 13 = .ok (.lcmp, 1) := by decide +kernel
theorem dX8_isName_14 : decode cX8_isName 14 = .ok (.ifCond .ne 5, 3) := by decide +kernel
theorem dX8_isName_17 : decode cX8_isName 17 = .ok (.iconst 0, 1) := by decide +kernel
theorem dX8_isName_18 : decode cX8_isName 18 = .ok (.ireturn, 1) := by decide +kernel
theorem dX8_isName_19 : decode cX8_isName 19 = .ok (.aload_n 0, 1) := by decide +kernel
theorem dX8_isName_20 : decode cX8_isName 20 = .ok (.ldc 86, 2) := by decide +kernel
theorem dX8_isName_22 : decode cX8_isName 22 = .ok (.invokevirtual 88, 3) := by decide +kernel
theorem dX8_isName_25 : decode cX8_isName 25 = .ok (.ifCond .ne 133, 3) := by decide +kernel
theorem dX8_isName_28 : decode cX8_isName 28 = .ok (.aload_n 0, 1) := by decide +kernel
theorem dX8_isName_29 : decode cX8_isName 29 = .ok (.ldc 92, 2) := by decide +kernel
theorem dX8_isName_31 : decode cX8_isName 31 = .ok (.invokevirtual 88, 3) := by decide +kernel
theorem dX8_isName_34 : decode cX8_isName 34 = .ok (.ifCond .ne 124, 3) := by decide +kernel
theorem dX8_isName_37 : decode cX8_isName 37 = .ok (.aload_n 0, 1) := by decide +kernel
theorem dX8_isName_38 : decode cX8_isName 38 = .ok (.ldc 94, 2) := by decide +kernel
theorem dX8_isName_40 : decode cX8_isName 40 = .ok (.invokevirtual 88, 3) := by decide +kernel
theorem dX8_isName_43 : decode cX8_isName 43 = .ok (.ifCond .ne 115, 3) := by decide +kernel
theorem dX8_isName_46 : decode cX8_isName 46 = .ok (.aload_n 0, 1) := by decide +kernel
theorem dX8_isName_47 : decode cX8_isName 47 = .ok (.ldc 96, 2) := by decide +kernel
theorem dX8_isName_49 : decode cX8_isName 49 = .ok (.invokevirtual 88, 3) := by decide +kernel
theorem dX8_isName_52 : decode cX8_isName 52 = .ok (.ifCond .ne 106, 3) := by decide +kernel
theorem dX8_isName_55 : decode cX8_isName 55 = .ok (.aload_n 0, 1) := by decide +kernel
theorem dX8_isName_56 : decode cX8_isName 56 = .ok (.ldc 98, 2) := by decide +kernel
theorem dX8_isName_58 : decode cX8_isName 58 = .ok (.invokevirtual 88, 3) := by decide +kernel
theorem dX8_isName_61 : decode cX8_isName 61 = .ok (.ifCond .ne 97, 3) := by decide +kernel
theorem dX8_isName_64 : decode cX8_isName 64 = .ok (.aload_n 0, 1) := by decide +kernel
theorem dX8_isName_65 : decode cX8_isName 65 = .ok (.ldc 100, 2) := by decide +kernel
theorem dX8_isName_67 : decode cX8_isName 67 = .ok (.invokevirtual 88, 3) := by decide +kernel
theorem dX8_isName_70 : decode cX8_isName 70 = .ok (.ifCond .ne 88, 3) := by decide +kernel
theorem dX8_isName_73 : decode cX8_isName 73 = .ok (.aload_n 0, 1) := by decide +kernel
theorem dX8_isName_74 : decode cX8_isName 74 = .ok (.ldc 102, 2) := by decide +kernel
theorem dX8_isName_76 : decode cX8_isName 76 = .ok (.invokevirtual 88, 3) := by decide +kernel
theorem dX8_isName_79 : decode cX8_isName 79 = .ok (.ifCond .ne 79, 3) := by decide +kernel
theorem dX8_isName_82 : decode cX8_isName 82 = .ok (.aload_n 0, 1) := by decide +kernel
theorem dX8_isName_83 : decode cX8_isName 83 = .ok (.ldc 104, 2) := by decide +kernel
theorem dX8_isName_85 : decode cX8_isName 85 = .ok (.invokevirtual 88, 3) := by decide +kernel
theorem dX8_isName_88 : decode cX8_isName 88 = .ok (.ifCond .ne 70, 3) := by decide +kernel
theorem dX8_isName_91 : decode cX8_isName 91 = .ok (.aload_n 0, 1) := by decide +kernel
theorem dX8_isName_92 : decode cX8_isName 92 = .ok (.ldc 106, 2) := by decide +kernel
theorem dX8_isName_94 : decode cX8_isName 94 = .ok (.invokevirtual 88, 3) := by decide +kernel
theorem dX8_isName_97 : decode cX8_isName 97 = .ok (.ifCond .ne 61, 3) := by decide +kernel
theorem dX8_isName_100 : decode cX8_isName 100 = .ok (.aload_n 0, 1) := by decide +kernel
theorem dX8_isName_101 : decode cX8_isName 101 = .ok (.ldc 108, 2) := by decide +kernel
theorem dX8_isName_103 : decode cX8_isName 103 = .ok (.invokevirtual 88, 3) := by decide +kernel
theorem dX8_isName_106 : decode cX8_isName 106 = .ok (.ifCond .ne 52, 3) := by decide +kernel
theorem dX8_isName_109 : decode cX8_isName 109 = .ok (.aload_n 0, 1) := by decide +kernel
theorem dX8_isName_110 : decode cX8_isName 110 = .ok (.ldc 110, 2) := by decide +kernel
theorem dX8_isName_112 : decode cX8_isName 112 = .ok (.invokevirtual 88, 3) := by decide +kernel
theorem dX8_isName_115 : decode cX8_isName 115 = .ok (.ifCond .ne 43, 3) := by decide +kernel
theorem dX8_isName_118 : decode cX8_isName 118 = .ok (.aload_n 0, 1) := by decide +kernel
theorem dX8_isName_119 : decode cX8_isName 119 = .ok (.ldc 112, 2) := by decide +kernel
theorem dX8_isName_121 : decode cX8_isName 121 = .ok (.invokevirtual 88, 3) := by decide +kernel
theorem dX8_isName_124 : decode cX8_isName 124 = .ok (.ifCond .ne 34, 3) := by decide +kernel
theorem dX8_isName_127 : decode cX8_isName 127 = .ok (.aload_n 0, 1) := by decide +kernel
theorem dX8_isName_128 : decode cX8_isName 128 = .ok (.ldc 114, 2) := by decide +kernel
theorem dX8_isName_130 : decode cX8_isName 130 = .ok (.invokevirtual 88, 3) := by decide +kernel
theorem dX8_isName_133 : decode cX8_isName 133 = .ok (.ifCond .ne 25, 3) := by decide +kernel
theorem dX8_isName_136 : decode cX8_isName 136 = .ok (.aload_n 0, 1) := by decide +kernel
theorem dX8_isName_137 : decode cX8_isName 137 = .ok (.ldc 116, 2) := by decide +kernel
theorem dX8_isName_139 : decode cX8_isName 139 = .ok (.invokevirtual 88, 3) := by decide +kernel
theorem dX8_isName_142 : decode cX8_isName 142 = .ok (.ifCond .ne 16, 3) := by decide +kernel
theorem dX8_isName_145 : decode cX8_isName 145 = .ok (.aload_n 0, 1) := by decide +kernel
theorem dX8_isName_146 : decode cX8_isName 146 = .ok (.ldc 118, 2) := by decide +kernel
theorem dX8_isName_148 : decode cX8_isName 148 = .ok (.invokevirtual 88, 3) := by decide +kernel
theorem dX8_isName_151 : decode cX8_isName 151 = .ok (.ifCond .ne 7, 3) := by decide +kernel
theorem dX8_isName_154 : decode cX8_isName 154 = .ok (.iconst 1, 1) := by decide +kernel
theorem dX8_isName_155 : decode cX8_isName 155 = .ok (.goto 4, 3) := by decide +kernel
theorem dX8_isName_158 : decode cX8_isName 158 = .ok (.iconst 0, 1) := by decide +kernel
theorem dX8_isName_159 : decode cX8_isName 159 = .ok (.ireturn, 1) := by decide +kernel
theorem dX8_isNumber_0 : decode cX8_isNumber 0 = .ok (.aload_n 0, 1) := by decide +kernel
theorem dX8_isNumber_1 : decode cX8_isNumber 1 = .ok (.getfield 34, 3) := by decide +kernel
theorem dX8_isNumber_4 : decode cX8_isNumber 4 = .ok (.iconst 2, 1) := by decide +kernel
theorem dX8_isNumber_5 : decode cX8_isNumber 5 = .ok (.if_icmp .ne 7, 3) := by decide +kernel
theorem dX8_isNumber_8 : decode cX8_isNumber 8 = .ok (.iconst 1, 1) := by decide +kernel
theorem dX8_isNumber_9 : decode cX8_isNumber 9 = .ok (.goto 4, 3) := by decide +kernel
theorem dX8_isNumber_12 : decode cX8_isNumber 12 = .ok (.iconst 0, 1) := by decide +kernel
theorem dX8_isNumber_13 : decode cX8_isNumber 13 = .ok (.ireturn, 1) := by decide +kernel
theorem dX8_isSign_0 : decode cX8_isSign 0 = .ok (.aload_n 0, 1) := by decide +kernel
theorem dX8_isSign_1 : decode cX8_isSign 1 = .ok (.getfield 34, 3) := by decide +kernel
theorem dX8_isSign_4 : decode cX8_isSign 4 = .ok (.iconst 3, 1) := by decide +kernel
theorem dX8_isSign_5 : decode cX8_isSign 5 = .ok (.if_icmp .ne 15, 3) := by decide +kernel
theorem dX8_isSign_8 : decode cX8_isSign 8 = .ok (.aload_n 0, 1) := by decide +kernel
theorem dX8_isSign_9 : decode cX8_isSign 9 = .ok (.getfield 63, 3) := by decide +kernel
theorem dX8_isSign_12 : decode cX8_isSign 12 = .ok (.iload_n 1, 1) := by decide +kernel
theorem dX8_isSign_13 : decode cX8_isSign 13 = .ok (.if_icmp .ne 7, 3) := by decide +kernel
theorem dX8_isSign_16 : decode cX8_isSign 16 = .ok (.iconst 1, 1) := by decide +kernel
theorem dX8_isSign_17 : decode cX8_isSign 17 = .ok (.goto 4, 3) := by decide +kernel
theorem dX8_isSign_20 : decode cX8_isSign 20 = .ok (.iconst 0, 1) := by decide +kernel
theorem dX8_isSign_21 : decode cX8_isSign 21 = .ok (.ireturn, 1) := by decide +kernel
theorem dX8_isSignOf_0 : decode cX8_isSignOf 0 = .ok (.iload_n 0, 1) := by decide +kernel
theorem dX8_isSignOf_1 : decode cX8_isSignOf 1 = .ok (.bipush 59, 2) := by decide +kernel
theorem dX8_isSignOf_3 : decode cX8_isSignOf 3 = .ok (.if_icmp .eq 21, 3) := by decide +kernel
theorem dX8_isSignOf_6 : decode cX8_isSignOf 6 = .ok (.iload_n 0, 1) := by decide +kernel
theorem dX8_isSignOf_7 : decode cX8_isSignOf 7 = .ok (.bipush 60, 2) := by decide +kernel
theorem dX8_isSignOf_9 : decode cX8_isSignOf 9 = .ok (.if_icmp .eq 15, 3) := by decide +kernel
theorem dX8_isSignOf_12 : decode cX8_isSignOf 12 = .ok (.iload_n 0, 1) := by decide +kernel
theorem dX8_isSignOf_13 : decode cX8_isSignOf 13 = .ok (.bipush 62, 2) := by decide +kernel
theorem dX8_isSignOf_15 : decode cX8_isSignOf 15 = .ok (.if_icmp .eq 9, 3) := by decide +kernel
theorem dX8_isSignOf_18 : decode cX8_isSignOf 18 = .ok (.iload_n 0, 1) := by decide +kernel
theorem dX8_isSignOf_19 : decode cX8_isSignOf 19 = .ok (.bipush 61, 2) := by decide +kernel
theorem dX8_isSignOf_21 : decode cX8_isSignOf 21 = .ok (.if_icmp .ne 7, 3) := by decide +kernel
theorem dX8_isSignOf_24 : decode cX8_isSignOf 24 = .ok (.iconst 1, 1) := by decide +kernel
theorem dX8_isSignOf_25 : decode cX8_isSignOf 25 = .ok (.goto 4, 3) := by decide +kernel
theorem dX8_isSignOf_28 : decode cX8_isSignOf 28 = .ok (.iconst 0, 1) := by decide +kernel
theorem dX8_isSignOf_29 : decode cX8_isSignOf 29 = .ok (.ireturn, 1) := by decide +kernel
theorem dX8_readDigits_0 : decode cX8_readDigits 0 = .ok (.aload_n 0, 1) := by decide +kernel
theorem dX8_readDigits_1 : decode cX8_readDigits 1 = .ok (.iconst 0, 1) := by decide +kernel
theorem dX8_readDigits_2 : decode cX8_readDigits 2 = .ok (.putfield 74, 3) := by decide +kernel
theorem dX8_readDigits_5 : decode cX8_readDigits 5 = .ok (.aload_n 0, 1) := by decide +kernel
theorem dX8_readDigits_6 : decode cX8_readDigits 6 = .ok (.getfield 28, 3) := by decide +kernel
theorem dX8_readDigits_9 : decode cX8_readDigits 9 = .ok (.aload_n 0, 1) := by decide +kernel
theorem dX8_readDigits_10 : decode cX8_readDigits 10 = .ok (.getfield 25, 3) := by decide +kernel
theorem dX8_readDigits_13 : decode cX8_readDigits 13 = .ok (.if_icmp .ge 66, 3) := by decide +kernel
theorem dX8_readDigits_16 : decode cX8_readDigits 16 = .ok (.aload_n 0, 1) := by decide +kernel
theorem dX8_readDigits_17 : decode cX8_readDigits 17 = .ok (.aload_n 0, 1) := by decide +kernel
theorem dX8_readDigits_18 : decode cX8_readDigits 18 = .ok (.getfield 28, 3) := by decide +kernel
theorem dX8_readDigits_21 : decode cX8_readDigits 21 = .ok (.invokevirtual 40, 3) := by decide +kernel
theorem dX8_readDigits_24 : decode cX8_readDigits 24 = .ok (.invokestatic 54, 3) := by decide +kernel
theorem dX8_readDigits_27 : decode cX8_readDigits 27 = .ok (.ifCond .eq 52, 3) := by decide +kernel
theorem dX8_readDigits_30 : decode cX8_readDigits 30 = .ok (.aload_n 0, 1) := by decide +kernel
theorem dX8_readDigits_31 : decode cX8_readDigits 31 = .ok (.getfield 28, 3) := by decide +kernel
theorem dX8_readDigits_34 : decode cX8_readDigits 34 = .ok (.aload_n 0, 1) := by decide +kernel
theorem dX8_readDigits_35 : decode cX8_readDigits 35 = .ok (.getfield 37, 3) := by decide +kernel
theorem dX8_readDigits_38 : decode cX8_readDigits 38 = .ok (.isub, 1) := by decide +kernel
theorem dX8_readDigits_39 : decode cX8_readDigits 39 = .ok (.iconst 4, 1) := by decide +kernel
theorem dX8_readDigits_40 : decode cX8_readDigits 40 = .ok (.if_icmp .ge 26, 3) := by decide +kernel
theorem dX8_readDigits_43 : decode cX8_readDigits 43 = .ok (.aload_n 0, 1) := by decide +kernel
theorem dX8_readDigits_44 : decode cX8_readDigits 44 = .ok (.aload_n 0, 1) := by decide +kernel
theorem dX8_readDigits_45 : decode cX8_readDigits 45 = .ok (.getfield 74, 3) := by decide +kernel
theorem dX8_readDigits_48 : decode cX8_readDigits 48 = .ok (.bipush 10, 2) := by decide +kernel
theorem dX8_readDigits_50 : decode cX8_readDigits 50 = .ok (.imul, 1) := by decide +kernel
theorem dX8_readDigits_51 : decode cX8_readDigits 51 = .ok (.aload_n 0, 1) := by decide +kernel
theorem dX8_readDigits_52 : decode cX8_readDigits 52 = .ok (.aload_n 0, 1) := by decide +kernel
theorem dX8_readDigits_53 : decode cX8_readDigits 53 = .ok (.getfield 28, 3) := by decide +kernel
theorem dX8_readDigits_56 : decode cX8_readDigits 56 = .ok (.invokevirtual 40, 3) := by decide +kernel
theorem dX8_readDigits_59 : decode cX8_readDigits 59 = .ok (.iadd, 1) := by decide +kernel
theorem dX8_readDigits_60 : decode cX8_readDigits 60 = .ok (.bipush 48, 2) := by decide +kernel
theorem dX8_readDigits_62 : decode cX8_readDigits 62 = .ok (.isub, 1) := by decide +kernel
theorem dX8_readDigits_63 : decode cX8_readDigits 63 = .ok (.putfield 74, 3) := by decide +kernel
theorem dX8_readDigits_66 : decode cX8_readDigits 66 = .ok (.aload_n 0, 1) := by decide +kernel
theorem dX8_readDigits_67 : decode cX8_readDigits 67 = .ok (.dup, 1) := by decide +kernel
theorem dX8_readDigits_68 : decode cX8_readDigits 68 = .ok (.getfield 28, 3) := by decide +kernel
theorem dX8_readDigits_71 : decode cX8_readDigits 71 = .ok (.iconst 1, 1) := by decide +kernel
theorem dX8_readDigits_72 : decode cX8_readDigits 72 = .ok (.iadd, 1) := by decide +kernel
theorem dX8_readDigits_73 : decode cX8_readDigits 73 = .ok (.putfield 28, 3) := by decide +kernel
theorem dX8_readDigits_76 : decode cX8_readDigits 76 = .ok (.goto (-71), 3) := by decide +kernel
theorem dX8_readDigits_79 : decode cX8_readDigits 79 = .ok (.aload_n 0, 1) := by decide +kernel
theorem dX8_readDigits_80 : decode cX8_readDigits 80 = .ok (.aload_n 0, 1) := by decide +kernel
theorem dX8_readDigits_81 : decode cX8_readDigits 81 = .ok (.getfield 28, 3) := by decide +kernel
theorem dX8_readDigits_84 : decode cX8_readDigits 84 = .ok (.aload_n 0, 1) := by decide +kernel
theorem dX8_readDigits_85 : decode cX8_readDigits 85 = .ok (.getfield 37, 3) := by decide +kernel
theorem dX8_readDigits_88 : decode cX8_readDigits 88 = .ok (.isub, 1) := by decide +kernel
theorem dX8_readDigits_89 : decode cX8_readDigits 89 = .ok (.iconst 4, 1) := by decide +kernel
theorem dX8_readDigits_90 : decode cX8_readDigits 90 = .ok (.if_icmp .le 7, 3) := by decide +kernel
theorem dX8_readDigits_93 : decode cX8_readDigits 93 = .ok (.iconst 4, 1) := by decide +kernel
theorem dX8_readDigits_94 : decode cX8_readDigits 94 = .ok (.goto 4, 3) := by decide +kernel
theorem dX8_readDigits_97 : decode cX8_readDigits 97 = .ok (.iconst 2, 1) := by decide +kernel
theorem dX8_readDigits_98 : decode cX8_readDigits 98 = .ok (.putfield 34, 3) := by decide +kernel
theorem dX8_readDigits_101 : decode cX8_readDigits 101 = .ok (.return_, 1) := by decide +kernel
theorem dX8_readLetters_0 : decode cX8_readLetters 0 = .ok (.aload_n 0, 1) := by decide +kernel
theorem dX8_readLetters_1 : decode cX8_readLetters 1 = .ok (.lconst 0, 1) := by decide +kernel
theorem dX8_readLetters_2 : decode cX8_readLetters 2 = .ok (.putfield 66, 3) := by decide +kernel
theorem dX8_readLetters_5 : decode cX8_readLetters 5 = .ok (.aload_n 0, 1) := by decide +kernel
theorem dX8_readLetters_6 : decode cX8_readLetters 6 = .ok (.getfield 28, 3) := by decide +kernel
theorem dX8_readLetters_9 : decode cX8_readLetters 9 = .ok (.aload_n 0, 1) := by decide +kernel
theorem dX8_readLetters_10 : decode cX8_readLetters 10 = .ok (.getfield 25, 3) := by decide +kernel
theorem dX8_readLetters_13 : decode cX8_readLetters 13 = .ok (.if_icmp .ge 72, 3) := by decide +kernel
theorem dX8_readLetters_16 : decode cX8_readLetters 16 = .ok (.aload_n 0, 1) := by decide +kernel
theorem dX8_readLetters_17 : decode cX8_readLetters 17 = .ok (.aload_n 0, 1) := by decide +kernel
theorem dX8_readLetters_18 : decode cX8_readLetters 18 = .ok (.getfield 28, 3) := by decide +kernel
theorem dX8_readLetters_21 : decode cX8_readLetters 21 = .ok (.invokevirtual 40, 3) := by decide +kernel
theorem dX8_readLetters_24 : decode cX8_readLetters 24 = .ok (.invokestatic 48, 3) := by decide +kernel
theorem dX8_readLetters_27 : decode cX8_readLetters 27 = .ok (.ifCond .eq 58, 3) := by decide +kernel
theorem dX8_readLetters_30 : decode cX8_readLetters 30 = .ok (.aload_n 0, 1) := by decide +kernel
theorem dX8_readLetters_31 : decode cX8_readLetters 31 = .ok (.getfield 28, 3) := by decide +kernel
theorem dX8_readLetters_34 : decode cX8_readLetters 34 = .ok (.aload_n 0, 1) := by decide +kernel
theorem dX8_readLetters_35 : decode cX8_readLetters 35 = .ok (.getfield 37, 3) := by decide +kernel
theorem dX8_readLetters_38 : decode cX8_readLetters 38 = .ok (.isub, 1) := by decide +kernel
theorem dX8_readLetters_39 : decode cX8_readLetters 39 = .ok (.bipush 8, 2) := by decide +kernel
theorem dX8_readLetters_41 : decode cX8_readLetters 41 = .ok (.if_icmp .ge 31, 3) := by decide +kernel
theorem dX8_readLetters_44 : decode cX8_readLetters 44 = .ok (.aload_n 0, 1) := by decide +kernel
theorem dX8_readLetters_45 : decode cX8_readLetters 45 = .ok (.aload_n 0, 1) := by decide +kernel
theorem dX8_readLetters_46 : decode cX8_readLetters 46 = .ok (.getfield 66, 3) := by decide +kernel
theorem dX8_readLetters_49 : decode cX8_readLetters 49 = .ok (.ldc2_w 70, 3) := by decide +kernel
theorem dX8_readLetters_52 : decode cX8_readLetters 52 = .ok (.lmul, 1) := by decide +kernel
theorem dX8_readLetters_53 : decode cX8_readLetters 53 = .ok (.aload_n 0, 1) := by decide +kernel
theorem dX8_readLetters_54 : decode cX8_readLetters 54 = .ok (.aload_n 0, 1) := by decide +kernel
theorem dX8_readLetters_55 : decode cX8_readLetters 55 = .ok (.getfield 28, 3) := by decide +kernel
theorem dX8_readLetters_58 : decode cX8_readLetters 58 = .ok (.invokevirtual 40, 3) := by decide +kernel
theorem dX8_readLetters_61 : decode cX8_readLetters 61 = .ok (.i2l, 1) := by decide +kernel
theorem dX8_readLetters_62 : decode cX8_readLetters 62 = .ok (.ladd, 1) := by decide +kernel
theorem dX8_readLetters_63 : decode cX8_readLetters 63 = .ok (.ldc2_w 72, 3) := by decide +kernel
theorem dX8_readLetters_66 : decode cX8_readLetters 66 = .ok (.lsub, 1) := by decide +kernel
theorem dX8_readLetters_67 : decode cX8_readLetters 67 = .ok (.lconst 1, 1) := by decide +kernel
theorem dX8_readLetters_68 : decode cX8_readLetters 68 = .ok (.ladd, 1) := by decide +kernel
theorem dX8_readLetters_69 : decode cX8_readLetters 69 = .ok (.putfield 66, 3) := by decide +kernel
theorem dX8_readLetters_72 : decode cX8_readLetters 72 = .ok (.aload_n 0, 1) := by decide +kernel
theorem dX8_readLetters_73 : decode cX8_readLetters 73 = .ok (.dup, 1) := by decide +kernel
theorem dX8_readLetters_74 : decode cX8_readLetters 74 = .ok (.getfield 28, 3) := by decide +kernel
theorem dX8_readLetters_77 : decode cX8_readLetters 77 = .ok (.iconst 1, 1) := by decide +kernel
theorem dX8_readLetters_78 : decode cX8_readLetters 78 = .ok (.iadd, 1) := by decide +kernel
theorem dX8_readLetters_79 : decode cX8_readLetters 79 = .ok (.putfield 28, 3) := by decide +kernel
theorem dX8_readLetters_82 : decode cX8_readLetters 82 = .ok (.goto (-77), 3) := by decide +kernel
theorem dX8_readLetters_85 : decode cX8_readLetters 85 = .ok (.aload_n 0, 1) := by decide +kernel
theorem dX8_readLetters_86 : decode cX8_readLetters 86 = .ok (.getfield 28, 3) := by decide +kernel
theorem dX8_readLetters_89 : decode cX8_readLetters 89 = .ok (.aload_n 0, 1) := by decide +kernel
theorem dX8_readLetters_90 : decode cX8_readLetters 90 = .ok (.getfield 37, 3) := by decide +kernel
theorem dX8_readLetters_93 : decode cX8_readLetters 93 = .ok (.isub, 1) := by decide +kernel
theorem dX8_readLetters_94 : decode cX8_readLetters 94 = .ok (.bipush 8, 2) := by decide +kernel
theorem dX8_readLetters_96 : decode cX8_readLetters 96 = .ok (.if_icmp .le 8, 3) := by decide +kernel
theorem dX8_readLetters_99 : decode cX8_readLetters 99 = .ok (.aload_n 0, 1) := by decide +kernel
theorem dX8_readLetters_100 : decode cX8_readLetters 100 = .ok (.lconst 0, 1) := by decide +kernel
theorem dX8_readLetters_101 : decode cX8_readLetters 101 = .ok (.putfield 66, 3) := by decide +kernel
theorem dX8_readLetters_104 : decode cX8_readLetters 104 = .ok (.return_, 1) := by decide +kernel
theorem dX8_refuse_0 : decode cX8_refuse 0 = .ok (.aload_n 0, 1) := by decide +kernel
theorem dX8_refuse_1 : decode cX8_refuse 1 = .ok (.getfield 19, 3) := by decide +kernel
theorem dX8_refuse_4 : decode cX8_refuse 4 = .ok (.ifCond .ne 28, 3) := by decide +kernel
theorem dX8_refuse_7 : decode cX8_refuse 7 = .ok (.aload_n 0, 1) := by decide +kernel
theorem dX8_refuse_8 : decode cX8_refuse 8 = .ok (.aload_n 0, 1) := by decide +kernel
theorem dX8_refuse_9 : decode cX8_refuse 9 = .ok (.getfield 34, 3) := by decide +kernel
theorem dX8_refuse_12 : decode cX8_refuse 12 = .ok (.iconst 4, 1) := by decide +kernel
theorem dX8_refuse_13 : decode cX8_refuse 13 = .ok (.if_icmp .ne 7, 3) := by decide +kernel
theorem dX8_refuse_16 : decode cX8_refuse 16 = .ok (.iconst 1, 1) := by decide +kernel
theorem dX8_refuse_17 : decode cX8_refuse 17 = .ok (.goto 4, 3) := by decide +kernel
theorem dX8_refuse_20 : decode cX8_refuse 20 = .ok (.iload_n 1, 1) := by decide +kernel
theorem dX8_refuse_21 : decode cX8_refuse 21 = .ok (.putfield 19, 3) := by decide +kernel
theorem dX8_refuse_24 : decode cX8_refuse 24 = .ok (.aload_n 0, 1) := by decide +kernel
theorem dX8_refuse_25 : decode cX8_refuse 25 = .ok (.aload_n 0, 1) := by decide +kernel
theorem dX8_refuse_26 : decode cX8_refuse 26 = .ok (.getfield 37, 3) := by decide +kernel
theorem dX8_refuse_29 : decode cX8_refuse 29 = .ok (.putfield 22, 3) := by decide +kernel
theorem dX8_refuse_32 : decode cX8_refuse 32 = .ok (.iconst 0, 1) := by decide +kernel
theorem dX8_refuse_33 : decode cX8_refuse 33 = .ok (.ireturn, 1) := by decide +kernel
theorem dX8_takeCompare_0 : decode cX8_takeCompare 0 = .ok (.aload_n 0, 1) := by decide +kernel
theorem dX8_takeCompare_1 : decode cX8_takeCompare 1 = .ok (.bipush 60, 2) := by decide +kernel
theorem dX8_takeCompare_3 : decode cX8_takeCompare 3 = .ok (.invokevirtual 123, 3) := by decide +kernel
theorem dX8_takeCompare_6 : decode cX8_takeCompare 6 = .ok (.ifCond .ne 29, 3) := by decide +kernel
theorem dX8_takeCompare_9 : decode cX8_takeCompare 9 = .ok (.aload_n 0, 1) := by decide +kernel
theorem dX8_takeCompare_10 : decode cX8_takeCompare 10 = .ok (.bipush 62, 2) := by decide +kernel
theorem dX8_takeCompare_12 : decode cX8_takeCompare 12 = .ok (.invokevirtual 123, 3) := by decide +kernel
theorem dX8_takeCompare_15 : decode cX8_takeCompare 15 = .ok (.ifCond .ne 20, 3) := by decide +kernel
theorem dX8_takeCompare_18 : decode cX8_takeCompare 18 = .ok (.aload_n 0, 1) := by decide +kernel
theorem dX8_takeCompare_19 : decode cX8_takeCompare 19 = .ok (.bipush 61, 2) := by decide +kernel
theorem dX8_takeCompare_21 : decode cX8_takeCompare 21 = .ok (.invokevirtual 123, 3) := by decide +kernel
theorem dX8_takeCompare_24 : decode cX8_takeCompare 24 = .ok (.ifCond .ne 11, 3) := by decide +kernel
theorem dX8_takeCompare_27 : decode cX8_takeCompare 27 = .ok (.aload_n 0, 1) := by decide +kernel
theorem dX8_takeCompare_28 : decode cX8_takeCompare 28 = .ok (.iconst 2, 1) := by decide +kernel
theorem dX8_takeCompare_29 : decode cX8_takeCompare 29 = .ok (.invokevirtual 120, 3) := by decide +kernel
theorem dX8_takeCompare_32 : decode cX8_takeCompare 32 = .ok (.pop, 1) := by decide +kernel
theorem dX8_takeCompare_33 : decode cX8_takeCompare 33 = .ok (.iconst (-1), 1) := by decide +kernel
theorem dX8_takeCompare_34 : decode cX8_takeCompare 34 = .ok (.ireturn, 1) := by decide +kernel
theorem dX8_takeCompare_35 : decode cX8_takeCompare 35 = .ok (.aload_n 0, 1) := by decide +kernel
theorem dX8_takeCompare_36 : decode cX8_takeCompare 36 = .ok (.getfield 63, 3) := by decide +kernel
theorem dX8_takeCompare_39 : decode cX8_takeCompare 39 = .ok (.istore_n 1, 1) := by decide +kernel
theorem dX8_takeCompare_40 : decode cX8_takeCompare 40 = .ok (.aload_n 0, 1) := by decide +kernel
theorem dX8_takeCompare_41 : decode cX8_takeCompare 41 = .ok (.invokevirtual 31, 3) := by decide +kernel
theorem dX8_takeCompare_44 : decode cX8_takeCompare 44 = .ok (.iload_n 1, 1) := by decide +kernel
theorem dX8_takeCompare_45 : decode cX8_takeCompare 45 = .ok (.ireturn, 1) := by decide +kernel
theorem dX8_takeNumber_0 : decode cX8_takeNumber 0 = .ok (.aload_n 0, 1) := by decide +kernel
theorem dX8_takeNumber_1 : decode cX8_takeNumber 1 = .ok (.invokevirtual 127, 3) := by decide +kernel
theorem dX8_takeNumber_4 : decode cX8_takeNumber 4 = .ok (.ifCond .ne 11, 3) := by decide +kernel
theorem dX8_takeNumber_7 : decode cX8_takeNumber 7 = .ok (.aload_n 0, 1) := by decide +kernel
theorem dX8_takeNumber_8 : decode cX8_takeNumber 8 = .ok (.iconst 2, 1) := by decide +kernel
theorem dX8_takeNumber_9 : decode cX8_takeNumber 9 = .ok (.invokevirtual 120, 3) := by decide +kernel
theorem dX8_takeNumber_12 : decode cX8_takeNumber 12 = .ok (.pop, 1) := by decide +kernel
theorem dX8_takeNumber_13 : decode cX8_takeNumber 13 = .ok (.iconst (-1), 1) := by decide +kernel
theorem dX8_takeNumber_14 : decode cX8_takeNumber 14 = .ok (.ireturn, 1) := by decide +kernel
theorem dX8_takeNumber_15 : decode cX8_takeNumber 15 = .ok (.aload_n 0, 1) := by decide +kernel
theorem dX8_takeNumber_16 : decode cX8_takeNumber 16 = .ok (.getfield 74, 3) := by decide +kernel
theorem dX8_takeNumber_19 : decode cX8_takeNumber 19 = .ok (.iload_n 1, 1) := by decide +kernel
theorem dX8_takeNumber_20 : decode cX8_takeNumber 20 = .ok (.if_icmp .lt 11, 3) := by decide +kernel
theorem dX8_takeNumber_23 : decode cX8_takeNumber 23 = .ok (.aload_n 0, 1) := by decide +kernel
theorem dX8_takeNumber_24 : decode cX8_takeNumber 24 = .ok (.getfield 74, 3) := by decide +kernel
theorem dX8_takeNumber_27 : decode cX8_takeNumber 27 = .ok (.iload_n 2, 1) := by decide +kernel
theorem dX8_takeNumber_28 : decode cX8_takeNumber 28 = .ok (.if_icmp .le 11, 3) := by decide +kernel
theorem dX8_takeNumber_31 : decode cX8_takeNumber 31 = .ok (.aload_n 0, 1) := by decide +kernel
theorem dX8_takeNumber_32 : decode cX8_takeNumber 32 = .ok (.iconst 4, 1) := by decide +kernel
theorem dX8_takeNumber_33 : decode cX8_takeNumber 33 = .ok (.invokevirtual 120, 3) := by decide +kernel
theorem dX8_takeNumber_36 : decode cX8_takeNumber 36 = .ok (.pop, 1) := by decide +kernel
theorem dX8_takeNumber_37 : decode cX8_takeNumber 37 = .ok (.iconst (-1), 1) := by decide +kernel
theorem dX8_takeNumber_38 : decode cX8_takeNumber 38 = .ok (.ireturn, 1) := by decide +kernel
theorem dX8_takeNumber_39 : decode cX8_takeNumber 39 = .ok (.aload_n 0, 1) := by decide +kernel
theorem dX8_takeNumber_40 : decode cX8_takeNumber 40 = .ok (.getfield 74, 3) := by decide +kernel
theorem dX8_takeNumber_43 : decode cX8_takeNumber 43 = .ok (.istore_n 3, 1) := by decide +kernel
theorem dX8_takeNumber_44 : decode cX8_takeNumber 44 = .ok (.aload_n 0, 1) := by decide +kernel
theorem dX8_takeNumber_45 : decode cX8_takeNumber 45 = .ok (.invokevirtual 31, 3) := by decide +kernel
theorem dX8_takeNumber_48 : decode cX8_takeNumber 48 = .ok (.iload_n 3, 1) := by decide +kernel
theorem dX8_takeNumber_49 : decode cX8_takeNumber 49 = .ok (.ireturn, 1) := by decide +kernel
theorem dX8_takeSign_0 : decode cX8_takeSign 0 = .ok (.aload_n 0, 1) := by decide +kernel
theorem dX8_takeSign_1 : decode cX8_takeSign 1 = .ok (.iload_n 1, 1) := by decide +kernel
theorem dX8_takeSign_2 : decode cX8_takeSign 2 = .ok (.invokevirtual 123, 3) := by decide +kernel
theorem dX8_takeSign_5 : decode cX8_takeSign 5 = .ok (.ifCond .ne 9, 3) := by decide +kernel
theorem dX8_takeSign_8 : decode cX8_takeSign 8 = .ok (.aload_n 0, 1) := by decide +kernel
theorem dX8_takeSign_9 : decode cX8_takeSign 9 = .ok (.iconst 2, 1) := by decide +kernel
theorem dX8_takeSign_10 : decode cX8_takeSign 10 = .ok (.invokevirtual 120, 3) := by decide +kernel
theorem dX8_takeSign_13 : decode cX8_takeSign 13 = .ok (.ireturn, 1) := by decide +kernel
theorem dX8_takeSign_14 : decode cX8_takeSign 14 = .ok (.aload_n 0, 1) := by decide +kernel
theorem dX8_takeSign_15 : decode cX8_takeSign 15 = .ok (.invokevirtual 31, 3) := by decide +kernel
theorem dX8_takeSign_18 : decode cX8_takeSign 18 = .ok (.iconst 1, 1) := by decide +kernel
theorem dX8_takeSign_19 : decode cX8_takeSign 19 = .ok (.ireturn, 1) := by decide +kernel
theorem dX8_takeWord_0 : decode cX8_takeWord 0 = .ok (.aload_n 0, 1) := by decide +kernel
theorem dX8_takeWord_1 : decode cX8_takeWord 1 = .ok (.aload_n 1, 1) := by decide +kernel
theorem dX8_takeWord_2 : decode cX8_takeWord 2 = .ok (.invokevirtual 88, 3) := by decide +kernel
theorem dX8_takeWord_5 : decode cX8_takeWord 5 = .ok (.ifCond .ne 9, 3) := by decide +kernel
theorem dX8_takeWord_8 : decode cX8_takeWord 8 = .ok (.aload_n 0, 1) := by decide +kernel
theorem dX8_takeWord_9 : decode cX8_takeWord 9 = .ok (.iconst 2, 1) := by decide +kernel
theorem dX8_takeWord_10 : decode cX8_takeWord 10 = .ok (.invokevirtual 120, 3) := by decide +kernel
theorem dX8_takeWord_13 : decode cX8_takeWord 13 = .ok (.ireturn, 1) := by decide +kernel
theorem dX8_takeWord_14 : decode cX8_takeWord 14 = .ok (.aload_n 0, 1) := by decide +kernel
theorem dX8_takeWord_15 : decode cX8_takeWord 15 = .ok (.invokevirtual 31, 3) := by decide +kernel
theorem dX8_takeWord_18 : decode cX8_takeWord 18 = .ok (.iconst 1, 1) := by decide +kernel
theorem dX8_takeWord_19 : decode cX8_takeWord 19 = .ok (.ireturn, 1) := by decide +kernel
theorem dX9_begin_0 : decode cX9_begin 0 = .ok (.aload_n 0, 1) := by decide +kernel
theorem dX9_begin_1 : decode cX9_begin 1 = .ok (.iload_n 1, 1) := by decide +kernel
theorem dX9_begin_2 : decode cX9_begin 2 = .ok (.putfield 9, 3) := by decide +kernel
theorem dX9_begin_5 : decode cX9_begin 5 = .ok (.aload_n 0, 1) := by decide +kernel
theorem dX9_begin_6 : decode cX9_begin 6 = .ok (.aload_n 0, 1) := by decide +kernel
theorem dX9_begin_7 : decode cX9_begin 7 = .ok (.getfield 29, 3) := by decide +kernel
theorem dX9_begin_10 : decode cX9_begin 10 = .ok (.iload_n 1, 1) := by decide +kernel
theorem dX9_begin_11 : decode cX9_begin 11 = .ok (.aload_n 0, 1) := by decide +kernel
theorem dX9_begin_12 : decode cX9_begin 12 = .ok (.getfield 18, 3) := by decide +kernel
theorem dX9_begin_15 : decode cX9_begin 15 = .ok (.invokevirtual 39, 3) := by decide +kernel
theorem dX9_begin_18 : decode cX9_begin 18 = .ok (.putfield 15, 3) := by decide +kernel
theorem dX9_begin_21 : decode cX9_begin 21 = .ok (.aload_n 0, 1) := by decide +kernel
theorem dX9_begin_22 : decode cX9_begin 22 = .ok (.invokevirtual 45, 3) := by decide +kernel
theorem dX9_begin_25 : decode cX9_begin 25 = .ok (.return_, 1) := by decide +kernel
theorem dX9_beginAgain_0 : decode cX9_beginAgain 0 = .ok (.iconst 0, 1) := by decide +kernel
theorem dX9_beginAgain_1 : decode cX9_beginAgain 1 = .ok (.istore_n 1, 1) := by decide +kernel
theorem dX9_beginAgain_2 : decode cX9_beginAgain 2 = .ok (.iload_n 1, 1) := by decide +kernel
theorem dX9_beginAgain_3 : decode cX9_beginAgain 3 = .ok (.bipush 20, 2) := by decide +kernel
theorem dX9_beginAgain_5 : decode cX9_beginAgain 5 = .ok (.if_icmp .ge 43, 3) := by decide +kernel
theorem dX9_beginAgain_8 : decode cX9_beginAgain 8 = .ok (.aload_n 0, 1) := by decide +kernel
theorem dX9_beginAgain_9 : decode cX9_beginAgain 9 = .ok (.getfield 26, 3) := by decide +kernel
theorem dX9_beginAgain_12 : decode cX9_beginAgain 12 = .ok (.iload_n 1, 1) := by decide +kernel
theorem dX9_beginAgain_13 : decode cX9_beginAgain 13 = .ok (.iload_n 1, 1) := by decide +kernel
theorem dX9_beginAgain_14 : decode cX9_beginAgain 14 = .ok (.iconst 1, 1) := by decide +kernel
theorem dX9_beginAgain_15 : decode cX9_beginAgain 15 = .ok (.iand, 1) := by decide +kernel
theorem dX9_beginAgain_16 : decode cX9_beginAgain 16 = .ok (.ifCond .ne 17, 3) := by decide +kernel
theorem dX9_beginAgain_19 : decode cX9_beginAgain 19 = .ok (.bipush 16, 2) := by decide +kernel
theorem dX9_beginAgain_21 : decode cX9_beginAgain 21 = .ok (.aload_n 0, 1) := by decide +kernel
theorem dX9_beginAgain_22 : decode cX9_beginAgain 22 = .ok (.getfield 29, 3) := by decide +kernel
theorem dX9_beginAgain_25 : decode cX9_beginAgain 25 = .ok (.getfield 48, 3) := by decide +kernel
theorem dX9_beginAgain_28 : decode cX9_beginAgain 28 = .ok (.isub, 1) := by decide +kernel
theorem dX9_beginAgain_29 : decode cX9_beginAgain 29 = .ok (.i2l, 1) := by decide +kernel
theorem dX9_beginAgain_30 : decode cX9_beginAgain 30 = .ok (.goto 11, 3) := by decide +kernel
theorem dX9_beginAgain_33 : decode cX9_beginAgain 33 = .ok (.aload_n 0, 1) := by decide +kernel
theorem dX9_beginAgain_34 : decode cX9_beginAgain 34 = .ok (.getfield 29, 3) := by decide +kernel
theorem dX9_beginAgain_37 : decode cX9_beginAgain 37 = .ok (.getfield 48, 3) := by decide +kernel
theorem dX9_beginAgain_40 : decode cX9_beginAgain 40 = .ok (.i2l, 1) := by decide +kernel
theorem dX9_beginAgain_41 : decode cX9_beginAgain 41 = .ok (.lastore, 1) := by decide +kernel
theorem dX9_beginAgain_42 : decode cX9_beginAgain 42 = .ok (.iinc 1 1, 3) := by decide +kernel
theorem dX9_beginAgain_45 : decode cX9_beginAgain 45 = .ok (.goto (-43), 3) := by decide +kernel
theorem dX9_beginAgain_48 : decode cX9_beginAgain 48 = .ok (.aload_n 0, 1) := by decide +kernel
theorem dX9_beginAgain_49 : decode cX9_beginAgain 49 = .ok (.invokevirtual 51, 3) := by decide +kernel
theorem dX9_beginAgain_52 : decode cX9_beginAgain 52 = .ok (.pop, 1) := by decide +kernel
theorem dX9_beginAgain_53 : decode cX9_beginAgain 53 = .ok (.return_, 1) := by decide +kernel
theorem dX9_copy_0 : decode cX9_copy 0 = .ok (.aload_n 0, 1) := by decide +kernel
theorem dX9_copy_1 : decode cX9_copy 1 = .ok (.ifnull 7, 3) := by decide +kernel
theorem dX9_copy_4 : decode cX9_copy 4 = .ok (.aload_n 1, 1) := by decide +kernel
theorem dX9_copy_5 : decode cX9_copy 5 = .ok (.ifnonnull 4, 3) := by decide +kernel
theorem dX9_copy_9 : decode cX9_copy 9 = .ok (.aload_n 1, 1) := by decide +kernel
theorem dX9_copy_10 : decode cX9_copy 10 = .ok (.aload_n 0, 1) := by decide +kernel
theorem dX9_copy_11 : decode cX9_copy 11 = .ok (.getfield 9, 3) := by decide +kernel
theorem dX9_copy_14 : decode cX9_copy 14 = .ok (.putfield 9, 3) := by decide +kernel
theorem dX9_copy_17 : decode cX9_copy 17 = .ok (.aload_n 1, 1) := by decide +kernel
theorem dX9_copy_18 : decode cX9_copy 18 = .ok (.aload_n 0, 1) := by decide +kernel
theorem dX9_copy_19 : decode cX9_copy 19 = .ok (.getfield 15, 3) := by decide +kernel
theorem dX9_copy_22 : decode cX9_copy 22 = .ok (.putfield 15, 3) := by decide +kernel
theorem dX9_copy_25 : decode cX9_copy 25 = .ok (.aload_n 0, 1) := by decide +kernel
theorem dX9_copy_26 : decode cX9_copy 26 = .ok (.getfield 18, 3) := by decide +kernel
theorem dX9_copy_29 : decode cX9_copy 29 = .ok (.iconst 0, 1) := by decide +kernel
theorem dX9_copy_30 : decode cX9_copy 30 = .ok (.aload_n 1, 1) := by decide +kernel
theorem dX9_copy_31 : decode cX9_copy 31 = .ok (.getfield 18, 3) := by decide +kernel
theorem dX9_copy_34 : decode cX9_copy 34 = .ok (.iconst 0, 1) := by decide +kernel
theorem dX9_copy_35 : decode cX9_copy 35 = .ok (.bipush 10, 2) := by decide +kernel
theorem dX9_copy_37 : decode cX9_copy 37 = .ok (.invokestatic 33, 3) := by decide +kernel
theorem dX9_copy_40 : decode cX9_copy 40 = .ok (.aload_n 0, 1) := by decide +kernel
theorem dX9_copy_41 : decode cX9_copy 41 = .ok (.getfield 22, 3) := by decide +kernel
theorem dX9_copy_44 : decode cX9_copy 44 = .ok (.iconst 0, 1) := by decide +kernel
theorem dX9_copy_45 : decode cX9_copy 45 = .ok (.aload_n 1, 1) := by decide +kernel
theorem dX9_copy_46 : decode cX9_copy 46 = .ok (.getfield 22, 3) := by decide +kernel
theorem dX9_copy_49 : decode cX9_copy 49 = .ok (.iconst 0, 1) := by decide +kernel
theorem dX9_copy_50 : decode cX9_copy 50 = .ok (.bipush 20, 2) := by decide +kernel
theorem dX9_copy_52 : decode cX9_copy 52 = .ok (.invokestatic 33, 3) := by decide +kernel
theorem dX9_copy_55 : decode cX9_copy 55 = .ok (.return_, 1) := by decide +kernel
theorem dX9_isHeld_0 : decode cX9_isHeld 0 = .ok (.aload_n 0, 1) := by decide +kernel
theorem dX9_isHeld_1 : decode cX9_isHeld 1 = .ok (.getfield 9, 3) := by decide +kernel
theorem dX9_isHeld_4 : decode cX9_isHeld 4 = .ok (.iconst (-1), 1) := by decide +kernel
theorem dX9_isHeld_5 : decode cX9_isHeld 5 = .ok (.if_icmp .eq 7, 3) := by decide +kernel
theorem dX9_isHeld_8 : decode cX9_isHeld 8 = .ok (.iconst 1, 1) := by decide +kernel
theorem dX9_isHeld_9 : decode cX9_isHeld 9 = .ok (.goto 4, 3) := by decide +kernel
theorem dX9_isHeld_12 : decode cX9_isHeld 12 = .ok (.iconst 0, 1) := by decide +kernel
theorem dX9_isHeld_13 : decode cX9_isHeld 13 = .ok (.ireturn, 1) := by decide +kernel
theorem dX9_keyAt_0 : decode cX9_keyAt 0 = .ok (.iload_n 1, 1) := by decide +kernel
theorem dX9_keyAt_1 : decode cX9_keyAt 1 = .ok (.ifCond .lt 22, 3) := by decide +kernel
theorem dX9_keyAt_4 : decode cX9_keyAt 4 = .ok (.iload_n 1, 1) := by decide +kernel
theorem dX9_keyAt_5 : decode cX9_keyAt 5 = .ok (.aload_n 0, 1) := by decide +kernel
theorem dX9_keyAt_6 : decode cX9_keyAt 6 = .ok (.getfield 15, 3) := by decide +kernel
theorem dX9_keyAt_9 : decode cX9_keyAt 9 = .ok (.if_icmp .ge 14, 3) := by decide +kernel
theorem dX9_keyAt_12 : decode cX9_keyAt 12 = .ok (.aload_n 0, 1) := by decide +kernel
theorem dX9_keyAt_13 : decode cX9_keyAt 13 = .ok (.getfield 18, 3) := by decide +kernel
theorem dX9_keyAt_16 : decode cX9_keyAt 16 = .ok (.iload_n 1, 1) := by decide +kernel
theorem dX9_keyAt_17 : decode cX9_keyAt 17 = .ok (.invokestatic 55, 3) := by decide +kernel
theorem dX9_keyAt_20 : decode cX9_keyAt 20 = .ok (.goto 4, 3) := by decide +kernel
theorem dX9_keyAt_23 : decode cX9_keyAt 23 = .ok (.iconst (-1), 1) := by decide +kernel
theorem dX9_keyAt_24 : decode cX9_keyAt 24 = .ok (.ireturn, 1) := by decide +kernel
theorem dX9_learnFelt_0 : decode cX9_learnFelt 0 = .ok (.aload_n 0, 1) := by decide +kernel
theorem dX9_learnFelt_1 : decode cX9_learnFelt 1 = .ok (.invokevirtual 69, 3) := by decide +kernel
theorem dX9_learnFelt_4 : decode cX9_learnFelt 4 = .ok (.istore_n 3, 1) := by decide +kernel
theorem dX9_learnFelt_5 : decode cX9_learnFelt 5 = .ok (.iconst 0, 1) := by decide +kernel
theorem dX9_learnFelt_6 : decode cX9_learnFelt 6 = .ok (.istore 4, 2) := by decide +kernel
theorem dX9_learnFelt_8 : decode cX9_learnFelt 8 = .ok (.iload 4, 2) := by decide +kernel
theorem dX9_learnFelt_10 : decode cX9_learnFelt 10 = .ok (.iload_n 3, 1) := by decide +kernel
theorem dX9_learnFelt_11 : decode cX9_learnFelt 11 = .ok (.if_icmp .ge 61, 3) := by decide +kernel
theorem dX9_learnFelt_14 : decode cX9_learnFelt 14 = .ok (.aload_n 0, 1) := by decide +kernel
theorem dX9_learnFelt_15 : decode cX9_learnFelt 15 = .ok (.getfield 22, 3) := by decide +kernel
theorem dX9_learnFelt_18 : decode cX9_learnFelt 18 = .ok (.iload 4, 2) := by decide +kernel
theorem dX9_learnFelt_20 : decode cX9_learnFelt 20 = .ok (.laload, 1) := by decide +kernel
theorem dX9_learnFelt_21 : decode cX9_learnFelt 21 = .ok (.lstore 5, 2) := by decide +kernel
theorem dX9_learnFelt_23 : decode cX9_learnFelt 23 = .ok (.aload_n 0, 1) := by decide +kernel
theorem dX9_learnFelt_24 : decode cX9_learnFelt 24 = .ok (.getfield 26, 3) := by decide +kernel
theorem dX9_learnFelt_27 : decode cX9_learnFelt 27 = .ok (.iload 4, 2) := by decide +kernel
theorem dX9_learnFelt_29 : decode cX9_learnFelt 29 = .ok (.lload 5, 2) := by decide +kernel
theorem dX9_learnFelt_31 : decode cX9_learnFelt 31 = .ok (.lconst 0, 1) := by decide +kernel
theorem dX9_learnFelt_32 : decode cX9_learnFelt 32 = .ok (.lcmp, 1) := by decide +kernel
theorem dX9_learnFelt_33 : decode cX9_learnFelt 33 = .ok (.ifCond .ne 7, 3) := by decide +kernel
theorem dX9_learnFelt_36 : decode cX9_learnFelt 36 = .ok (.lconst 0, 1) := by decide +kernel
theorem dX9_learnFelt_37 : decode cX9_learnFelt 37 = .ok (.goto 28, 3) := by decide +kernel
theorem dX9_learnFelt_40 : decode cX9_learnFelt 40 = .ok (.lload 5, 2) := by decide +kernel
theorem dX9_learnFelt_42 : decode cX9_learnFelt 42 = .ok (.aload_n 0, 1) := by decide +kernel
theorem dX9_learnFelt_43 : decode cX9_learnFelt 43 = .ok (.getfield 29, 3) := by decide +kernel
theorem dX9_learnFelt_46 : decode cX9_learnFelt 46 = .ok (.aload_n 0, 1) := by decide +kernel
theorem dX9_learnFelt_47 : decode cX9_learnFelt 47 = .ok (.iload 4, 2) := by decide +kernel
theorem dX9_learnFelt_49 : decode cX9_learnFelt 49 = .ok (.iconst 1, 1) := by decide +kernel
theorem dX9_learnFelt_50 : decode cX9_learnFelt 50 = .ok (.ishr, 1) := by decide +kernel
theorem dX9_learnFelt_51 : decode cX9_learnFelt 51 = .ok (.invokevirtual 75, 3) := by decide +kernel
theorem dX9_learnFelt_54 : decode cX9_learnFelt 54 = .ok (.iload_n 1, 1) := by decide +kernel
theorem dX9_learnFelt_55 : decode cX9_learnFelt 55 = .ok (.iload 4, 2) := by decide +kernel
theorem dX9_learnFelt_57 : decode cX9_learnFelt 57 = .ok (.iconst 1, 1) := by decide +kernel
theorem dX9_learnFelt_58 : decode cX9_learnFelt 58 = .ok (.iand, 1) := by decide +kernel
theorem dX9_learnFelt_59 : decode cX9_learnFelt 59 = .ok (.iload_n 2, 1) := by decide +kernel
theorem dX9_learnFelt_60 : decode cX9_learnFelt 60 = .ok (.invokevirtual 79, 3) := by decide +kernel
theorem dX9_learnFelt_63 : decode cX9_learnFelt 63 = .ok (.i2l, 1) := by decide +kernel
theorem dX9_learnFelt_64 : decode cX9_learnFelt 64 = .ok (.lmul, 1) := by decide +kernel
theorem dX9_learnFelt_65 : decode cX9_learnFelt 65 = .ok (.lastore, 1) := by decide +kernel
theorem dX9_learnFelt_66 : decode cX9_learnFelt 66 = .ok (.iinc 4 1, 3) := by decide +kernel
theorem dX9_learnFelt_69 : decode cX9_learnFelt 69 = .ok (.goto (-61), 3) := by decide +kernel
theorem dX9_learnFelt_72 : decode cX9_learnFelt 72 = .ok (.aload_n 0, 1) := by decide +kernel
theorem dX9_learnFelt_73 : decode cX9_learnFelt 73 = .ok (.invokevirtual 51, 3) := by decide +kernel
theorem dX9_learnFelt_76 : decode cX9_learnFelt 76 = .ok (.ireturn, 1) := by decide +kernel
theorem dX9_learnTried_0 : decode cX9_learnTried 0 = .ok (.aload_n 0, 1) := by decide +kernel
theorem dX9_learnTried_1 : decode cX9_learnTried 1 = .ok (.invokevirtual 69, 3) := by decide +kernel
theorem dX9_learnTried_4 : decode cX9_learnTried 4 = .ok (.istore_n 3, 1) := by decide +kernel
theorem dX9_learnTried_5 : decode cX9_learnTried 5 = .ok (.iconst 0, 1) := by decide +kernel
theorem dX9_learnTried_6 : decode cX9_learnTried 6 = .ok (.istore 4, 2) := by decide +kernel
theorem dX9_learnTried_8 : decode cX9_learnTried 8 = .ok (.iload 4, 2) := by decide +kernel
theorem dX9_learnTried_10 : decode cX9_learnTried 10 = .ok (.iload_n 3, 1) := by decide +kernel
theorem dX9_learnTried_11 : decode cX9_learnTried 11 = .ok (.if_icmp .ge 47, 3) := by decide +kernel
