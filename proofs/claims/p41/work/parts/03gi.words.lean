theorem dX9_learnTried_14 : decode cX9_learnTried 14 = .ok (.aload_n 0, 1) := by decide +kernel
theorem dX9_learnTried_15 : decode cX9_learnTried 15 = .ok (.getfield 26, 3) := by decide +kernel
theorem dX9_learnTried_18 : decode cX9_learnTried 18 = .ok (.iload 4, 2) := by decide +kernel
theorem dX9_learnTried_20 : decode cX9_learnTried 20 = .ok (.aload_n 0, 1) := by decide +kernel
theorem dX9_learnTried_21 : decode cX9_learnTried 21 = .ok (.getfield 29, 3) := by decide +kernel
theorem dX9_learnTried_24 : decode cX9_learnTried 24 = .ok (.aload_n 0, 1) := by decide +kernel
theorem dX9_learnTried_25 : decode cX9_learnTried 25 = .ok (.iload 4, 2) := by decide +kernel
theorem dX9_learnTried_27 : decode cX9_learnTried 27 = .ok (.iconst 1, 1) := by decide +kernel
theorem dX9_learnTried_28 : decode cX9_learnTried 28 = .ok (.ishr, 1) := by decide +kernel
theorem dX9_learnTried_29 : decode cX9_learnTried 29 = .ok (.invokevirtual 75, 3) := by decide +kernel
theorem dX9_learnTried_32 : decode cX9_learnTried 32 = .ok (.iload_n 1, 1) := by decide +kernel
theorem dX9_learnTried_33 : decode cX9_learnTried 33 = .ok (.invokevirtual 83, 3) := by decide +kernel
theorem dX9_learnTried_36 : decode cX9_learnTried 36 = .ok (.iload_n 2, 1) := by decide +kernel
theorem dX9_learnTried_37 : decode cX9_learnTried 37 = .ok (.if_icmp .ne 13, 3) := by decide +kernel
theorem dX9_learnTried_40 : decode cX9_learnTried 40 = .ok (.aload_n 0, 1) := by decide +kernel
theorem dX9_learnTried_41 : decode cX9_learnTried 41 = .ok (.getfield 22, 3) := by decide +kernel
theorem dX9_learnTried_44 : decode cX9_learnTried 44 = .ok (.iload 4, 2) := by decide +kernel
theorem dX9_learnTried_46 : decode cX9_learnTried 46 = .ok (.laload, 1) := by decide +kernel
theorem dX9_learnTried_47 : decode cX9_learnTried 47 = .ok (.goto 4, 3) := by decide +kernel
theorem dX9_learnTried_50 : decode cX9_learnTried 50 = .ok (.lconst 0, 1) := by decide +kernel
theorem dX9_learnTried_51 : decode cX9_learnTried 51 = .ok (.lastore, 1) := by decide +kernel
theorem dX9_learnTried_52 : decode cX9_learnTried 52 = .ok (.iinc 4 1, 3) := by decide +kernel
theorem dX9_learnTried_55 : decode cX9_learnTried 55 = .ok (.goto (-47), 3) := by decide +kernel
theorem dX9_learnTried_58 : decode cX9_learnTried 58 = .ok (.aload_n 0, 1) := by decide +kernel
theorem dX9_learnTried_59 : decode cX9_learnTried 59 = .ok (.invokevirtual 51, 3) := by decide +kernel
theorem dX9_learnTried_62 : decode cX9_learnTried 62 = .ok (.ireturn, 1) := by decide +kernel
theorem dX9_letGo_0 : decode cX9_letGo 0 = .ok (.aload_n 0, 1) := by decide +kernel
theorem dX9_letGo_1 : decode cX9_letGo 1 = .ok (.iconst (-1), 1) := by decide +kernel
theorem dX9_letGo_2 : decode cX9_letGo 2 = .ok (.putfield 9, 3) := by decide +kernel
theorem dX9_letGo_5 : decode cX9_letGo 5 = .ok (.return_, 1) := by decide +kernel
theorem dX9_letGoOf_0 : decode cX9_letGoOf 0 = .ok (.aload_n 0, 1) := by decide +kernel
theorem dX9_letGoOf_1 : decode cX9_letGoOf 1 = .ok (.getfield 9, 3) := by decide +kernel
theorem dX9_letGoOf_4 : decode cX9_letGoOf 4 = .ok (.iload_n 1, 1) := by decide +kernel
theorem dX9_letGoOf_5 : decode cX9_letGoOf 5 = .ok (.if_icmp .ne 8, 3) := by decide +kernel
theorem dX9_letGoOf_8 : decode cX9_letGoOf 8 = .ok (.aload_n 0, 1) := by decide +kernel
theorem dX9_letGoOf_9 : decode cX9_letGoOf 9 = .ok (.iconst (-1), 1) := by decide +kernel
theorem dX9_letGoOf_10 : decode cX9_letGoOf 10 = .ok (.putfield 9, 3) := by decide +kernel
theorem dX9_letGoOf_13 : decode cX9_letGoOf 13 = .ok (.return_, 1) := by decide +kernel
theorem dX9_moveOn_0 : decode cX9_moveOn 0 = .ok (.aload_n 0, 1) := by decide +kernel
theorem dX9_moveOn_1 : decode cX9_moveOn 1 = .ok (.getfield 22, 3) := by decide +kernel
theorem dX9_moveOn_4 : decode cX9_moveOn 4 = .ok (.iconst 0, 1) := by decide +kernel
theorem dX9_moveOn_5 : decode cX9_moveOn 5 = .ok (.aload_n 0, 1) := by decide +kernel
theorem dX9_moveOn_6 : decode cX9_moveOn 6 = .ok (.getfield 26, 3) := by decide +kernel
theorem dX9_moveOn_9 : decode cX9_moveOn 9 = .ok (.iconst 0, 1) := by decide +kernel
theorem dX9_moveOn_10 : decode cX9_moveOn 10 = .ok (.aload_n 0, 1) := by decide +kernel
theorem dX9_moveOn_11 : decode cX9_moveOn 11 = .ok (.getfield 15, 3) := by decide +kernel
theorem dX9_moveOn_14 : decode cX9_moveOn 14 = .ok (.invokestatic 87, 3) := by decide +kernel
theorem dX9_moveOn_17 : decode cX9_moveOn 17 = .ok (.aload_n 0, 1) := by decide +kernel
theorem dX9_moveOn_18 : decode cX9_moveOn 18 = .ok (.getfield 26, 3) := by decide +kernel
theorem dX9_moveOn_21 : decode cX9_moveOn 21 = .ok (.iconst 0, 1) := by decide +kernel
theorem dX9_moveOn_22 : decode cX9_moveOn 22 = .ok (.aload_n 0, 1) := by decide +kernel
theorem dX9_moveOn_23 : decode cX9_moveOn 23 = .ok (.getfield 22, 3) := by decide +kernel
theorem dX9_moveOn_26 : decode cX9_moveOn 26 = .ok (.iconst 0, 1) := by decide +kernel
theorem dX9_moveOn_27 : decode cX9_moveOn 27 = .ok (.bipush 20, 2) := by decide +kernel
theorem dX9_moveOn_29 : decode cX9_moveOn 29 = .ok (.invokestatic 33, 3) := by decide +kernel
theorem dX9_moveOn_32 : decode cX9_moveOn 32 = .ok (.return_, 1) := by decide +kernel
theorem dX9_moved_0 : decode cX9_moved 0 = .ok (.iconst 0, 1) := by decide +kernel
theorem dX9_moved_1 : decode cX9_moved 1 = .ok (.istore 5, 2) := by decide +kernel
theorem dX9_moved_3 : decode cX9_moved 3 = .ok (.iload 5, 2) := by decide +kernel
theorem dX9_moved_5 : decode cX9_moved 5 = .ok (.iload 4, 2) := by decide +kernel
theorem dX9_moved_7 : decode cX9_moved 7 = .ok (.if_icmp .ge 64, 3) := by decide +kernel
theorem dX9_moved_10 : decode cX9_moved 10 = .ok (.iload 5, 2) := by decide +kernel
theorem dX9_moved_12 : decode cX9_moved 12 = .ok (.iconst 1, 1) := by decide +kernel
theorem dX9_moved_13 : decode cX9_moved 13 = .ok (.iadd, 1) := by decide +kernel
theorem dX9_moved_14 : decode cX9_moved 14 = .ok (.iload 4, 2) := by decide +kernel
theorem dX9_moved_16 : decode cX9_moved 16 = .ok (.invokestatic 91, 3) := by decide +kernel
theorem dX9_moved_19 : decode cX9_moved 19 = .ok (.istore 6, 2) := by decide +kernel
theorem dX9_moved_21 : decode cX9_moved 21 = .ok (.aload_n 2, 1) := by decide +kernel
theorem dX9_moved_22 : decode cX9_moved 22 = .ok (.iload_n 3, 1) := by decide +kernel
theorem dX9_moved_23 : decode cX9_moved 23 = .ok (.iconst 2, 1) := by decide +kernel
theorem dX9_moved_24 : decode cX9_moved 24 = .ok (.iload 6, 2) := by decide +kernel
theorem dX9_moved_26 : decode cX9_moved 26 = .ok (.imul, 1) := by decide +kernel
theorem dX9_moved_27 : decode cX9_moved 27 = .ok (.iadd, 1) := by decide +kernel
theorem dX9_moved_28 : decode cX9_moved 28 = .ok (.aload_n 0, 1) := by decide +kernel
theorem dX9_moved_29 : decode cX9_moved 29 = .ok (.iload_n 1, 1) := by decide +kernel
theorem dX9_moved_30 : decode cX9_moved 30 = .ok (.iconst 2, 1) := by decide +kernel
theorem dX9_moved_31 : decode cX9_moved 31 = .ok (.iload 5, 2) := by decide +kernel
theorem dX9_moved_33 : decode cX9_moved 33 = .ok (.imul, 1) := by decide +kernel
theorem dX9_moved_34 : decode cX9_moved 34 = .ok (.iadd, 1) := by decide +kernel
theorem dX9_moved_35 : decode cX9_moved 35 = .ok (.invokestatic 65, 3) := by decide +kernel
theorem dX9_moved_38 : decode cX9_moved 38 = .ok (.invokestatic 94, 3) := by decide +kernel
theorem dX9_moved_41 : decode cX9_moved 41 = .ok (.aload_n 2, 1) := by decide +kernel
theorem dX9_moved_42 : decode cX9_moved 42 = .ok (.iload_n 3, 1) := by decide +kernel
theorem dX9_moved_43 : decode cX9_moved 43 = .ok (.iconst 2, 1) := by decide +kernel
theorem dX9_moved_44 : decode cX9_moved 44 = .ok (.iload 5, 2) := by decide +kernel
theorem dX9_moved_46 : decode cX9_moved 46 = .ok (.imul, 1) := by decide +kernel
theorem dX9_moved_47 : decode cX9_moved 47 = .ok (.iadd, 1) := by decide +kernel
theorem dX9_moved_48 : decode cX9_moved 48 = .ok (.iconst 1, 1) := by decide +kernel
theorem dX9_moved_49 : decode cX9_moved 49 = .ok (.iadd, 1) := by decide +kernel
theorem dX9_moved_50 : decode cX9_moved 50 = .ok (.aload_n 0, 1) := by decide +kernel
theorem dX9_moved_51 : decode cX9_moved 51 = .ok (.iload_n 1, 1) := by decide +kernel
theorem dX9_moved_52 : decode cX9_moved 52 = .ok (.iconst 2, 1) := by decide +kernel
theorem dX9_moved_53 : decode cX9_moved 53 = .ok (.iload 6, 2) := by decide +kernel
theorem dX9_moved_55 : decode cX9_moved 55 = .ok (.imul, 1) := by decide +kernel
theorem dX9_moved_56 : decode cX9_moved 56 = .ok (.iadd, 1) := by decide +kernel
theorem dX9_moved_57 : decode cX9_moved 57 = .ok (.iconst 1, 1) := by decide +kernel
theorem dX9_moved_58 : decode cX9_moved 58 = .ok (.iadd, 1) := by decide +kernel
theorem dX9_moved_59 : decode cX9_moved 59 = .ok (.invokestatic 65, 3) := by decide +kernel
theorem dX9_moved_62 : decode cX9_moved 62 = .ok (.invokestatic 94, 3) := by decide +kernel
theorem dX9_moved_65 : decode cX9_moved 65 = .ok (.iinc 5 1, 3) := by decide +kernel
theorem dX9_moved_68 : decode cX9_moved 68 = .ok (.goto (-65), 3) := by decide +kernel
theorem dX9_moved_71 : decode cX9_moved 71 = .ok (.return_, 1) := by decide +kernel
theorem dX9_partOf_0 : decode cX9_partOf 0 = .ok (.aload_n 0, 1) := by decide +kernel
theorem dX9_partOf_1 : decode cX9_partOf 1 = .ok (.getfield 22, 3) := by decide +kernel
theorem dX9_partOf_4 : decode cX9_partOf 4 = .ok (.iconst 2, 1) := by decide +kernel
theorem dX9_partOf_5 : decode cX9_partOf 5 = .ok (.iload_n 1, 1) := by decide +kernel
theorem dX9_partOf_6 : decode cX9_partOf 6 = .ok (.imul, 1) := by decide +kernel
theorem dX9_partOf_7 : decode cX9_partOf 7 = .ok (.iload_n 2, 1) := by decide +kernel
theorem dX9_partOf_8 : decode cX9_partOf 8 = .ok (.iadd, 1) := by decide +kernel
theorem dX9_partOf_9 : decode cX9_partOf 9 = .ok (.invokestatic 65, 3) := by decide +kernel
theorem dX9_partOf_12 : decode cX9_partOf 12 = .ok (.lreturn, 1) := by decide +kernel
theorem dX9_partsOfKey_0 : decode cX9_partsOfKey 0 = .ok (.lconst 0, 1) := by decide +kernel
theorem dX9_partsOfKey_1 : decode cX9_partsOfKey 1 = .ok (.lstore_n 2, 1) := by decide +kernel
theorem dX9_partsOfKey_2 : decode cX9_partsOfKey 2 = .ok (.iconst 0, 1) := by decide +kernel
theorem dX9_partsOfKey_3 : decode cX9_partsOfKey 3 = .ok (.istore 4, 2) := by decide +kernel
theorem dX9_partsOfKey_5 : decode cX9_partsOfKey 5 = .ok (.iload 4, 2) := by decide +kernel
theorem dX9_partsOfKey_7 : decode cX9_partsOfKey 7 = .ok (.aload_n 0, 1) := by decide +kernel
theorem dX9_partsOfKey_8 : decode cX9_partsOfKey 8 = .ok (.getfield 15, 3) := by decide +kernel
theorem dX9_partsOfKey_11 : decode cX9_partsOfKey 11 = .ok (.if_icmp .ge 37, 3) := by decide +kernel
theorem dX9_partsOfKey_14 : decode cX9_partsOfKey 14 = .ok (.aload_n 0, 1) := by decide +kernel
theorem dX9_partsOfKey_15 : decode cX9_partsOfKey 15 = .ok (.iload 4, 2) := by decide +kernel
theorem dX9_partsOfKey_17 : decode cX9_partsOfKey 17 = .ok (.invokevirtual 75, 3) := by decide +kernel
theorem dX9_partsOfKey_20 : decode cX9_partsOfKey 20 = .ok (.iload_n 1, 1) := by decide +kernel
theorem dX9_partsOfKey_21 : decode cX9_partsOfKey 21 = .ok (.if_icmp .ne 21, 3) := by decide +kernel
theorem dX9_partsOfKey_24 : decode cX9_partsOfKey 24 = .ok (.lload_n 2, 1) := by decide +kernel
theorem dX9_partsOfKey_25 : decode cX9_partsOfKey 25 = .ok (.aload_n 0, 1) := by decide +kernel
theorem dX9_partsOfKey_26 : decode cX9_partsOfKey 26 = .ok (.iload 4, 2) := by decide +kernel
theorem dX9_partsOfKey_28 : decode cX9_partsOfKey 28 = .ok (.iconst 0, 1) := by decide +kernel
theorem dX9_partsOfKey_29 : decode cX9_partsOfKey 29 = .ok (.invokevirtual 98, 3) := by decide +kernel
theorem dX9_partsOfKey_32 : decode cX9_partsOfKey 32 = .ok (.aload_n 0, 1) := by decide +kernel
theorem dX9_partsOfKey_33 : decode cX9_partsOfKey 33 = .ok (.iload 4, 2) := by decide +kernel
theorem dX9_partsOfKey_35 : decode cX9_partsOfKey 35 = .ok (.iconst 1, 1) := by decide +kernel
theorem dX9_partsOfKey_36 : decode cX9_partsOfKey 36 = .ok (.invokevirtual 98, 3) := by decide +kernel
theorem dX9_partsOfKey_39 : decode cX9_partsOfKey 39 = .ok (.ladd, 1) := by decide +kernel
theorem dX9_partsOfKey_40 : decode cX9_partsOfKey 40 = .ok (.ladd, 1) := by decide +kernel
theorem dX9_partsOfKey_41 : decode cX9_partsOfKey 41 = .ok (.lstore_n 2, 1) := by decide +kernel
theorem dX9_partsOfKey_42 : decode cX9_partsOfKey 42 = .ok (.iinc 4 1, 3) := by decide +kernel
theorem dX9_partsOfKey_45 : decode cX9_partsOfKey 45 = .ok (.goto (-40), 3) := by decide +kernel
theorem dX9_partsOfKey_48 : decode cX9_partsOfKey 48 = .ok (.lload_n 2, 1) := by decide +kernel
theorem dX9_partsOfKey_49 : decode cX9_partsOfKey 49 = .ok (.lreturn, 1) := by decide +kernel
theorem dX9_partsThatOpen_0 : decode cX9_partsThatOpen 0 = .ok (.lconst 0, 1) := by decide +kernel
theorem dX9_partsThatOpen_1 : decode cX9_partsThatOpen 1 = .ok (.lstore_n 2, 1) := by decide +kernel
theorem dX9_partsThatOpen_2 : decode cX9_partsThatOpen 2 = .ok (.iconst 0, 1) := by decide +kernel
theorem dX9_partsThatOpen_3 : decode cX9_partsThatOpen 3 = .ok (.istore 4, 2) := by decide +kernel
theorem dX9_partsThatOpen_5 : decode cX9_partsThatOpen 5 = .ok (.iload 4, 2) := by decide +kernel
theorem dX9_partsThatOpen_7 : decode cX9_partsThatOpen 7 = .ok (.aload_n 0, 1) := by decide +kernel
theorem dX9_partsThatOpen_8 : decode cX9_partsThatOpen 8 = .ok (.getfield 15, 3) := by decide +kernel
theorem dX9_partsThatOpen_11 : decode cX9_partsThatOpen 11 = .ok (.if_icmp .ge 44, 3) := by decide +kernel
theorem dX9_partsThatOpen_14 : decode cX9_partsThatOpen 14 = .ok (.aload_n 0, 1) := by decide +kernel
theorem dX9_partsThatOpen_15 : decode cX9_partsThatOpen 15 = .ok (.getfield 29, 3) := by decide +kernel
theorem dX9_partsThatOpen_18 : decode cX9_partsThatOpen 18 = .ok (.aload_n 0, 1) := by decide +kernel
theorem dX9_partsThatOpen_19 : decode cX9_partsThatOpen 19 = .ok (.iload 4, 2) := by decide +kernel
theorem dX9_partsThatOpen_21 : decode cX9_partsThatOpen 21 = .ok (.invokevirtual 75, 3) := by decide +kernel
theorem dX9_partsThatOpen_24 : decode cX9_partsThatOpen 24 = .ok (.iload_n 1, 1) := by decide +kernel
theorem dX9_partsThatOpen_25 : decode cX9_partsThatOpen 25 = .ok (.invokevirtual 83, 3) := by decide +kernel
theorem dX9_partsThatOpen_28 : decode cX9_partsThatOpen 28 = .ok (.ifCond .eq 21, 3) := by decide +kernel
theorem dX9_partsThatOpen_31 : decode cX9_partsThatOpen 31 = .ok (.lload_n 2, 1) := by decide +kernel
theorem dX9_partsThatOpen_32 : decode cX9_partsThatOpen 32 = .ok (.aload_n 0, 1) := by decide +kernel
theorem dX9_partsThatOpen_33 : decode cX9_partsThatOpen 33 = .ok (.iload 4, 2) := by decide +kernel
theorem dX9_partsThatOpen_35 : decode cX9_partsThatOpen 35 = .ok (.iconst 0, 1) := by decide +kernel
theorem dX9_partsThatOpen_36 : decode cX9_partsThatOpen 36 = .ok (.invokevirtual 98, 3) := by decide +kernel
theorem dX9_partsThatOpen_39 : decode cX9_partsThatOpen 39 = .ok (.aload_n 0, 1) := by decide +kernel
theorem dX9_partsThatOpen_40 : decode cX9_partsThatOpen 40 = .ok (.iload 4, 2) := by decide +kernel
theorem dX9_partsThatOpen_42 : decode cX9_partsThatOpen 42 = .ok (.iconst 1, 1) := by decide +kernel
theorem dX9_partsThatOpen_43 : decode cX9_partsThatOpen 43 = .ok (.invokevirtual 98, 3) := by decide +kernel
theorem dX9_partsThatOpen_46 : decode cX9_partsThatOpen 46 = .ok (.ladd, 1) := by decide +kernel
theorem dX9_partsThatOpen_47 : decode cX9_partsThatOpen 47 = .ok (.ladd, 1) := by decide +kernel
theorem dX9_partsThatOpen_48 : decode cX9_partsThatOpen 48 = .ok (.lstore_n 2, 1) := by decide +kernel
theorem dX9_partsThatOpen_49 : decode cX9_partsThatOpen 49 = .ok (.iinc 4 1, 3) := by decide +kernel
theorem dX9_partsThatOpen_52 : decode cX9_partsThatOpen 52 = .ok (.goto (-47), 3) := by decide +kernel
theorem dX9_partsThatOpen_55 : decode cX9_partsThatOpen 55 = .ok (.lload_n 2, 1) := by decide +kernel
theorem dX9_partsThatOpen_56 : decode cX9_partsThatOpen 56 = .ok (.lreturn, 1) := by decide +kernel
theorem dX9_placesAndWays_0 : decode cX9_placesAndWays 0 = .ok (.iconst 2, 1) := by decide +kernel
theorem dX9_placesAndWays_1 : decode cX9_placesAndWays 1 = .ok (.aload_n 0, 1) := by decide +kernel
theorem dX9_placesAndWays_2 : decode cX9_placesAndWays 2 = .ok (.getfield 15, 3) := by decide +kernel
theorem dX9_placesAndWays_5 : decode cX9_placesAndWays 5 = .ok (.imul, 1) := by decide +kernel
theorem dX9_placesAndWays_6 : decode cX9_placesAndWays 6 = .ok (.bipush 20, 2) := by decide +kernel
theorem dX9_placesAndWays_8 : decode cX9_placesAndWays 8 = .ok (.invokestatic 59, 3) := by decide +kernel
theorem dX9_placesAndWays_11 : decode cX9_placesAndWays 11 = .ok (.ireturn, 1) := by decide +kernel
theorem dX9_shareOut_0 : decode cX9_shareOut 0 = .ok (.aload_n 0, 1) := by decide +kernel
theorem dX9_shareOut_1 : decode cX9_shareOut 1 = .ok (.invokevirtual 69, 3) := by decide +kernel
theorem dX9_shareOut_4 : decode cX9_shareOut 4 = .ok (.istore_n 1, 1) := by decide +kernel
theorem dX9_shareOut_5 : decode cX9_shareOut 5 = .ok (.lconst 0, 1) := by decide +kernel
theorem dX9_shareOut_6 : decode cX9_shareOut 6 = .ok (.lstore_n 2, 1) := by decide +kernel
theorem dX9_shareOut_7 : decode cX9_shareOut 7 = .ok (.iconst 0, 1) := by decide +kernel
theorem dX9_shareOut_8 : decode cX9_shareOut 8 = .ok (.istore 4, 2) := by decide +kernel
theorem dX9_shareOut_10 : decode cX9_shareOut 10 = .ok (.iconst 0, 1) := by decide +kernel
theorem dX9_shareOut_11 : decode cX9_shareOut 11 = .ok (.istore 5, 2) := by decide +kernel
theorem dX9_shareOut_13 : decode cX9_shareOut 13 = .ok (.iload 5, 2) := by decide +kernel
theorem dX9_shareOut_15 : decode cX9_shareOut 15 = .ok (.iload_n 1, 1) := by decide +kernel
theorem dX9_shareOut_16 : decode cX9_shareOut 16 = .ok (.if_icmp .ge 41, 3) := by decide +kernel
theorem dX9_shareOut_19 : decode cX9_shareOut 19 = .ok (.lload_n 2, 1) := by decide +kernel
theorem dX9_shareOut_20 : decode cX9_shareOut 20 = .ok (.aload_n 0, 1) := by decide +kernel
theorem dX9_shareOut_21 : decode cX9_shareOut 21 = .ok (.getfield 26, 3) := by decide +kernel
theorem dX9_shareOut_24 : decode cX9_shareOut 24 = .ok (.iload 5, 2) := by decide +kernel
theorem dX9_shareOut_26 : decode cX9_shareOut 26 = .ok (.laload, 1) := by decide +kernel
theorem dX9_shareOut_27 : decode cX9_shareOut 27 = .ok (.ladd, 1) := by decide +kernel
theorem dX9_shareOut_28 : decode cX9_shareOut 28 = .ok (.lstore_n 2, 1) := by decide +kernel
theorem dX9_shareOut_29 : decode cX9_shareOut 29 = .ok (.aload_n 0, 1) := by decide +kernel
theorem dX9_shareOut_30 : decode cX9_shareOut 30 = .ok (.getfield 26, 3) := by decide +kernel
theorem dX9_shareOut_33 : decode cX9_shareOut 33 = .ok (.iload 5, 2) := by decide +kernel
theorem dX9_shareOut_35 : decode cX9_shareOut 35 = .ok (.laload, 1) := by decide +kernel
theorem dX9_shareOut_36 : decode cX9_shareOut 36 = .ok (.aload_n 0, 1) := by decide +kernel
theorem dX9_shareOut_37 : decode cX9_shareOut 37 = .ok (.getfield 26, 3) := by decide +kernel
theorem dX9_shareOut_40 : decode cX9_shareOut 40 = .ok (.iload 4, 2) := by decide +kernel
theorem dX9_shareOut_42 : decode cX9_shareOut 42 = .ok (.laload, 1) := by decide +kernel
theorem dX9_shareOut_43 : decode cX9_shareOut 43 = .ok (.lcmp, 1) := by decide +kernel
theorem dX9_shareOut_44 : decode cX9_shareOut 44 = .ok (.ifCond .le 7, 3) := by decide +kernel
theorem dX9_shareOut_47 : decode cX9_shareOut 47 = .ok (.iload 5, 2) := by decide +kernel
theorem dX9_shareOut_49 : decode cX9_shareOut 49 = .ok (.istore 4, 2) := by decide +kernel
theorem dX9_shareOut_51 : decode cX9_shareOut 51 = .ok (.iinc 5 1, 3) := by decide +kernel
theorem dX9_shareOut_54 : decode cX9_shareOut 54 = .ok (.goto (-41), 3) := by decide +kernel
theorem dX9_shareOut_57 : decode cX9_shareOut 57 = .ok (.lload_n 2, 1) := by decide +kernel
theorem dX9_shareOut_58 : decode cX9_shareOut 58 = .ok (.lconst 0, 1) := by decide +kernel
theorem dX9_shareOut_59 : decode cX9_shareOut 59 = .ok (.lcmp, 1) := by decide +kernel
theorem dX9_shareOut_60 : decode cX9_shareOut 60 = .ok (.ifCond .gt 5, 3) := by decide +kernel
theorem dX9_shareOut_63 : decode cX9_shareOut 63 = .ok (.iconst 0, 1) := by decide +kernel
theorem dX9_shareOut_64 : decode cX9_shareOut 64 = .ok (.ireturn, 1) := by decide +kernel
theorem dX9_shareOut_65 : decode cX9_shareOut 65 = .ok (.ldc2_w 73, 3) := by decide +kernel
theorem dX9_shareOut_68 : decode cX9_shareOut 68 = .ok (.lstore 5, 2) := by decide +kernel
theorem dX9_shareOut_70 : decode cX9_shareOut 70 = .ok (.iconst 0, 1) := by decide +kernel
theorem dX9_shareOut_71 : decode cX9_shareOut 71 = .ok (.istore 7, 2) := by decide +kernel
theorem dX9_shareOut_73 : decode cX9_shareOut 73 = .ok (.iload 7, 2) := by decide +kernel
theorem dX9_shareOut_75 : decode cX9_shareOut 75 = .ok (.iload_n 1, 1) := by decide +kernel
theorem dX9_shareOut_76 : decode cX9_shareOut 76 = .ok (.if_icmp .ge 41, 3) := by decide +kernel
theorem dX9_shareOut_79 : decode cX9_shareOut 79 = .ok (.aload_n 0, 1) := by decide +kernel
theorem dX9_shareOut_80 : decode cX9_shareOut 80 = .ok (.getfield 22, 3) := by decide +kernel
theorem dX9_shareOut_83 : decode cX9_shareOut 83 = .ok (.iload 7, 2) := by decide +kernel
theorem dX9_shareOut_85 : decode cX9_shareOut 85 = .ok (.aload_n 0, 1) := by decide +kernel
theorem dX9_shareOut_86 : decode cX9_shareOut 86 = .ok (.getfield 26, 3) := by decide +kernel
theorem dX9_shareOut_89 : decode cX9_shareOut 89 = .ok (.iload 7, 2) := by decide +kernel
theorem dX9_shareOut_91 : decode cX9_shareOut 91 = .ok (.laload, 1) := by decide +kernel
theorem dX9_shareOut_92 : decode cX9_shareOut 92 = .ok (.ldc2_w 73, 3) := by decide +kernel
theorem dX9_shareOut_95 : decode cX9_shareOut 95 = .ok (.lmul, 1) := by decide +kernel
theorem dX9_shareOut_96 : decode cX9_shareOut 96 = .ok (.lload_n 2, 1) := by decide +kernel
theorem dX9_shareOut_97 : decode cX9_shareOut 97 = .ok (.ldiv, 1) := by decide +kernel
theorem dX9_shareOut_98 : decode cX9_shareOut 98 = .ok (.lastore, 1) := by decide +kernel
theorem dX9_shareOut_99 : decode cX9_shareOut 99 = .ok (.lload 5, 2) := by decide +kernel
theorem dX9_shareOut_101 : decode cX9_shareOut 101 = .ok (.aload_n 0, 1) := by decide +kernel
theorem dX9_shareOut_102 : decode cX9_shareOut 102 = .ok (.getfield 22, 3) := by decide +kernel
theorem dX9_shareOut_105 : decode cX9_shareOut 105 = .ok (.iload 7, 2) := by decide +kernel
theorem dX9_shareOut_107 : decode cX9_shareOut 107 = .ok (.laload, 1) := by decide +kernel
theorem dX9_shareOut_108 : decode cX9_shareOut 108 = .ok (.lsub, 1) := by decide +kernel
theorem dX9_shareOut_109 : decode cX9_shareOut 109 = .ok (.lstore 5, 2) := by decide +kernel
theorem dX9_shareOut_111 : decode cX9_shareOut 111 = .ok (.iinc 7 1, 3) := by decide +kernel
theorem dX9_shareOut_114 : decode cX9_shareOut 114 = .ok (.goto (-41), 3) := by decide +kernel
theorem dX9_shareOut_117 : decode cX9_shareOut 117 = .ok (.aload_n 0, 1) := by decide +kernel
theorem dX9_shareOut_118 : decode cX9_shareOut 118 = .ok (.getfield 22, 3) := by decide +kernel
theorem dX9_shareOut_121 : decode cX9_shareOut 121 = .ok (.iload 4, 2) := by decide +kernel
theorem dX9_shareOut_123 : decode cX9_shareOut 123 = .ok (.dup2, 1) := by decide +kernel
theorem dX9_shareOut_124 : decode cX9_shareOut 124 = .ok (.laload, 1) := by decide +kernel
theorem dX9_shareOut_125 : decode cX9_shareOut 125 = .ok (.lload 5, 2) := by decide +kernel
theorem dX9_shareOut_127 : decode cX9_shareOut 127 = .ok (.ladd, 1) := by decide +kernel
theorem dX9_shareOut_128 : decode cX9_shareOut 128 = .ok (.lastore, 1) := by decide +kernel
theorem dX9_shareOut_129 : decode cX9_shareOut 129 = .ok (.iconst 1, 1) := by decide +kernel
theorem dX9_shareOut_130 : decode cX9_shareOut 130 = .ok (.ireturn, 1) := by decide +kernel
theorem dX9_swapWays_0 : decode cX9_swapWays 0 = .ok (.iconst 0, 1) := by decide +kernel
theorem dX9_swapWays_1 : decode cX9_swapWays 1 = .ok (.istore_n 1, 1) := by decide +kernel
theorem dX9_swapWays_2 : decode cX9_swapWays 2 = .ok (.iload_n 1, 1) := by decide +kernel
theorem dX9_swapWays_3 : decode cX9_swapWays 3 = .ok (.aload_n 0, 1) := by decide +kernel
theorem dX9_swapWays_4 : decode cX9_swapWays 4 = .ok (.getfield 15, 3) := by decide +kernel
theorem dX9_swapWays_7 : decode cX9_swapWays 7 = .ok (.if_icmp .ge 45, 3) := by decide +kernel
theorem dX9_swapWays_10 : decode cX9_swapWays 10 = .ok (.aload_n 0, 1) := by decide +kernel
theorem dX9_swapWays_11 : decode cX9_swapWays 11 = .ok (.iload_n 1, 1) := by decide +kernel
theorem dX9_swapWays_12 : decode cX9_swapWays 12 = .ok (.iconst 0, 1) := by decide +kernel
theorem dX9_swapWays_13 : decode cX9_swapWays 13 = .ok (.invokevirtual 98, 3) := by decide +kernel
theorem dX9_swapWays_16 : decode cX9_swapWays 16 = .ok (.lstore_n 2, 1) := by decide +kernel
theorem dX9_swapWays_17 : decode cX9_swapWays 17 = .ok (.aload_n 0, 1) := by decide +kernel
theorem dX9_swapWays_18 : decode cX9_swapWays 18 = .ok (.getfield 22, 3) := by decide +kernel
theorem dX9_swapWays_21 : decode cX9_swapWays 21 = .ok (.iconst 2, 1) := by decide +kernel
theorem dX9_swapWays_22 : decode cX9_swapWays 22 = .ok (.iload_n 1, 1) := by decide +kernel
theorem dX9_swapWays_23 : decode cX9_swapWays 23 = .ok (.imul, 1) := by decide +kernel
theorem dX9_swapWays_24 : decode cX9_swapWays 24 = .ok (.aload_n 0, 1) := by decide +kernel
theorem dX9_swapWays_25 : decode cX9_swapWays 25 = .ok (.iload_n 1, 1) := by decide +kernel
theorem dX9_swapWays_26 : decode cX9_swapWays 26 = .ok (.iconst 1, 1) := by decide +kernel
theorem dX9_swapWays_27 : decode cX9_swapWays 27 = .ok (.invokevirtual 98, 3) := by decide +kernel
theorem dX9_swapWays_30 : decode cX9_swapWays 30 = .ok (.invokestatic 94, 3) := by decide +kernel
theorem dX9_swapWays_33 : decode cX9_swapWays 33 = .ok (.aload_n 0, 1) := by decide +kernel
theorem dX9_swapWays_34 : decode cX9_swapWays 34 = .ok (.getfield 22, 3) := by decide +kernel
theorem dX9_swapWays_37 : decode cX9_swapWays 37 = .ok (.iconst 2, 1) := by decide +kernel
theorem dX9_swapWays_38 : decode cX9_swapWays 38 = .ok (.iload_n 1, 1) := by decide +kernel
theorem dX9_swapWays_39 : decode cX9_swapWays 39 = .ok (.imul, 1) := by decide +kernel
theorem dX9_swapWays_40 : decode cX9_swapWays 40 = .ok (.iconst 1, 1) := by decide +kernel
theorem dX9_swapWays_41 : decode cX9_swapWays 41 = .ok (.iadd, 1) := by decide +kernel
theorem dX9_swapWays_42 : decode cX9_swapWays 42 = .ok (.lload_n 2, 1) := by decide +kernel
theorem dX9_swapWays_43 : decode cX9_swapWays 43 = .ok (.invokestatic 94, 3) := by decide +kernel
theorem dX9_swapWays_46 : decode cX9_swapWays 46 = .ok (.iinc 1 1, 3) := by decide +kernel
theorem dX9_swapWays_49 : decode cX9_swapWays 49 = .ok (.goto (-47), 3) := by decide +kernel
theorem dX9_swapWays_52 : decode cX9_swapWays 52 = .ok (.return_, 1) := by decide +kernel
