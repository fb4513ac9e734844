theorem dX12_alike_0 : decode cX12_alike 0 = .ok (.aload_n 0, 1) := by decide +kernel
theorem dX12_alike_1 : decode cX12_alike 1 = .ok (.iconst 0, 1) := by decide +kernel
theorem dX12_alike_2 : decode cX12_alike 2 = .ok (.putfield 82, 3) := by decide +kernel
theorem dX12_alike_5 : decode cX12_alike 5 = .ok (.aload_n 0, 1) := by decide +kernel
theorem dX12_alike_6 : decode cX12_alike 6 = .ok (.iconst 0, 1) := by decide +kernel
theorem dX12_alike_7 : decode cX12_alike 7 = .ok (.putfield 85, 3) := by decide +kernel
theorem dX12_alike_10 : decode cX12_alike 10 = .ok (.aload_n 0, 1) := by decide +kernel
theorem dX12_alike_11 : decode cX12_alike 11 = .ok (.iload_n 1, 1) := by decide +kernel
theorem dX12_alike_12 : decode cX12_alike 12 = .ok (.invokevirtual 289, 3) := by decide +kernel
theorem dX12_alike_15 : decode cX12_alike 15 = .ok (.ifCond .ne 9, 3) := by decide +kernel
theorem dX12_alike_18 : decode cX12_alike 18 = .ok (.aload_n 0, 1) := by decide +kernel
theorem dX12_alike_19 : decode cX12_alike 19 = .ok (.iconst 2, 1) := by decide +kernel
theorem dX12_alike_20 : decode cX12_alike 20 = .ok (.invokevirtual 269, 3) := by decide +kernel
theorem dX12_alike_23 : decode cX12_alike 23 = .ok (.ireturn, 1) := by decide +kernel
theorem dX12_alike_24 : decode cX12_alike 24 = .ok (.aload_n 0, 1) := by decide +kernel
theorem dX12_alike_25 : decode cX12_alike 25 = .ok (.iload_n 1, 1) := by decide +kernel
theorem dX12_alike_26 : decode cX12_alike 26 = .ok (.invokevirtual 292, 3) := by decide +kernel
theorem dX12_alike_29 : decode cX12_alike 29 = .ok (.iconst 0, 1) := by decide +kernel
theorem dX12_alike_30 : decode cX12_alike 30 = .ok (.istore_n 2, 1) := by decide +kernel
theorem dX12_alike_31 : decode cX12_alike 31 = .ok (.iconst 0, 1) := by decide +kernel
theorem dX12_alike_32 : decode cX12_alike 32 = .ok (.istore_n 3, 1) := by decide +kernel
theorem dX12_alike_33 : decode cX12_alike 33 = .ok (.iload_n 3, 1) := by decide +kernel
theorem dX12_alike_34 : decode cX12_alike 34 = .ok (.aload_n 0, 1) := by decide +kernel
theorem dX12_alike_35 : decode cX12_alike 35 = .ok (.getfield 286, 3) := by decide +kernel
theorem dX12_alike_38 : decode cX12_alike 38 = .ok (.if_icmp .ge 63, 3) := by decide +kernel
theorem dX12_alike_41 : decode cX12_alike 41 = .ok (.iload_n 3, 1) := by decide +kernel
theorem dX12_alike_42 : decode cX12_alike 42 = .ok (.iconst 1, 1) := by decide +kernel
theorem dX12_alike_43 : decode cX12_alike 43 = .ok (.iadd, 1) := by decide +kernel
theorem dX12_alike_44 : decode cX12_alike 44 = .ok (.istore 4, 2) := by decide +kernel
theorem dX12_alike_46 : decode cX12_alike 46 = .ok (.iload 4, 2) := by decide +kernel
theorem dX12_alike_48 : decode cX12_alike 48 = .ok (.aload_n 0, 1) := by decide +kernel
theorem dX12_alike_49 : decode cX12_alike 49 = .ok (.getfield 286, 3) := by decide +kernel
theorem dX12_alike_52 : decode cX12_alike 52 = .ok (.if_icmp .ge 43, 3) := by decide +kernel
theorem dX12_alike_55 : decode cX12_alike 55 = .ok (.iload_n 2, 1) := by decide +kernel
theorem dX12_alike_56 : decode cX12_alike 56 = .ok (.aload_n 0, 1) := by decide +kernel
theorem dX12_alike_57 : decode cX12_alike 57 = .ok (.aload_n 0, 1) := by decide +kernel
theorem dX12_alike_58 : decode cX12_alike 58 = .ok (.getfield 41, 3) := by decide +kernel
theorem dX12_alike_61 : decode cX12_alike 61 = .ok (.iload_n 3, 1) := by decide +kernel
theorem dX12_alike_62 : decode cX12_alike 62 = .ok (.iaload, 1) := by decide +kernel
theorem dX12_alike_63 : decode cX12_alike 63 = .ok (.iconst 0, 1) := by decide +kernel
theorem dX12_alike_64 : decode cX12_alike 64 = .ok (.aload_n 0, 1) := by decide +kernel
theorem dX12_alike_65 : decode cX12_alike 65 = .ok (.getfield 41, 3) := by decide +kernel
theorem dX12_alike_68 : decode cX12_alike 68 = .ok (.iload 4, 2) := by decide +kernel
theorem dX12_alike_70 : decode cX12_alike 70 = .ok (.iaload, 1) := by decide +kernel
theorem dX12_alike_71 : decode cX12_alike 71 = .ok (.iconst 0, 1) := by decide +kernel
theorem dX12_alike_72 : decode cX12_alike 72 = .ok (.aload_n 0, 1) := by decide +kernel
theorem dX12_alike_73 : decode cX12_alike 73 = .ok (.invokevirtual 457, 3) := by decide +kernel
theorem dX12_alike_76 : decode cX12_alike 76 = .ok (.invokevirtual 453, 3) := by decide +kernel
theorem dX12_alike_79 : decode cX12_alike 79 = .ok (.ifCond .eq 7, 3) := by decide +kernel
theorem dX12_alike_82 : decode cX12_alike 82 = .ok (.iconst 0, 1) := by decide +kernel
theorem dX12_alike_83 : decode cX12_alike 83 = .ok (.goto 4, 3) := by decide +kernel
theorem dX12_alike_86 : decode cX12_alike 86 = .ok (.iconst 1, 1) := by decide +kernel
theorem dX12_alike_87 : decode cX12_alike 87 = .ok (.iadd, 1) := by decide +kernel
theorem dX12_alike_88 : decode cX12_alike 88 = .ok (.istore_n 2, 1) := by decide +kernel
theorem dX12_alike_89 : decode cX12_alike 89 = .ok (.iinc 4 1, 3) := by decide +kernel
theorem dX12_alike_92 : decode cX12_alike 92 = .ok (.goto (-46), 3) := by decide +kernel
theorem dX12_alike_95 : decode cX12_alike 95 = .ok (.iinc 3 1, 3) := by decide +kernel
theorem dX12_alike_98 : decode cX12_alike 98 = .ok (.goto (-65), 3) := by decide +kernel
theorem dX12_alike_101 : decode cX12_alike 101 = .ok (.iload_n 2, 1) := by decide +kernel
theorem dX12_alike_102 : decode cX12_alike 102 = .ok (.ireturn, 1) := by decide +kernel
theorem dX12_all_0 : decode cX12_all 0 = .ok (.iconst 1, 1) := by decide +kernel
theorem dX12_all_1 : decode cX12_all 1 = .ok (.aload_n 0, 1) := by decide +kernel
theorem dX12_all_2 : decode cX12_all 2 = .ok (.getfield 35, 3) := by decide +kernel
theorem dX12_all_5 : decode cX12_all 5 = .ok (.iconst 0, 1) := by decide +kernel
theorem dX12_all_6 : decode cX12_all 6 = .ok (.iaload, 1) := by decide +kernel
theorem dX12_all_7 : decode cX12_all 7 = .ok (.ishl, 1) := by decide +kernel
theorem dX12_all_8 : decode cX12_all 8 = .ok (.iconst 1, 1) := by decide +kernel
theorem dX12_all_9 : decode cX12_all 9 = .ok (.isub, 1) := by decide +kernel
theorem dX12_all_10 : decode cX12_all 10 = .ok (.ireturn, 1) := by decide +kernel
theorem dX12_anywhere_0 : decode cX12_anywhere 0 = .ok (.aload_n 0, 1) := by decide +kernel
theorem dX12_anywhere_1 : decode cX12_anywhere 1 = .ok (.iconst 0, 1) := by decide +kernel
theorem dX12_anywhere_2 : decode cX12_anywhere 2 = .ok (.putfield 82, 3) := by decide +kernel
theorem dX12_anywhere_5 : decode cX12_anywhere 5 = .ok (.aload_n 0, 1) := by decide +kernel
theorem dX12_anywhere_6 : decode cX12_anywhere 6 = .ok (.iconst 0, 1) := by decide +kernel
theorem dX12_anywhere_7 : decode cX12_anywhere 7 = .ok (.putfield 85, 3) := by decide +kernel
theorem dX12_anywhere_10 : decode cX12_anywhere 10 = .ok (.aload_n 0, 1) := by decide +kernel
theorem dX12_anywhere_11 : decode cX12_anywhere 11 = .ok (.iload_n 1, 1) := by decide +kernel
theorem dX12_anywhere_12 : decode cX12_anywhere 12 = .ok (.invokevirtual 289, 3) := by decide +kernel
theorem dX12_anywhere_15 : decode cX12_anywhere 15 = .ok (.ifCond .ne 9, 3) := by decide +kernel
theorem dX12_anywhere_18 : decode cX12_anywhere 18 = .ok (.aload_n 0, 1) := by decide +kernel
theorem dX12_anywhere_19 : decode cX12_anywhere 19 = .ok (.iconst 2, 1) := by decide +kernel
theorem dX12_anywhere_20 : decode cX12_anywhere 20 = .ok (.invokevirtual 97, 3) := by decide +kernel
theorem dX12_anywhere_23 : decode cX12_anywhere 23 = .ok (.ireturn, 1) := by decide +kernel
theorem dX12_anywhere_24 : decode cX12_anywhere 24 = .ok (.aload_n 0, 1) := by decide +kernel
theorem dX12_anywhere_25 : decode cX12_anywhere 25 = .ok (.iload_n 1, 1) := by decide +kernel
theorem dX12_anywhere_26 : decode cX12_anywhere 26 = .ok (.invokevirtual 292, 3) := by decide +kernel
theorem dX12_anywhere_29 : decode cX12_anywhere 29 = .ok (.aload_n 0, 1) := by decide +kernel
theorem dX12_anywhere_30 : decode cX12_anywhere 30 = .ok (.invokevirtual 399, 3) := by decide +kernel
theorem dX12_anywhere_33 : decode cX12_anywhere 33 = .ok (.aload_n 0, 1) := by decide +kernel
theorem dX12_anywhere_34 : decode cX12_anywhere 34 = .ok (.getfield 393, 3) := by decide +kernel
theorem dX12_anywhere_37 : decode cX12_anywhere 37 = .ok (.lconst 0, 1) := by decide +kernel
theorem dX12_anywhere_38 : decode cX12_anywhere 38 = .ok (.lcmp, 1) := by decide +kernel
theorem dX12_anywhere_39 : decode cX12_anywhere 39 = .ok (.ifCond .ne 12, 3) := by decide +kernel
theorem dX12_anywhere_42 : decode cX12_anywhere 42 = .ok (.aload_n 0, 1) := by decide +kernel
theorem dX12_anywhere_43 : decode cX12_anywhere 43 = .ok (.bipush 8, 2) := by decide +kernel
theorem dX12_anywhere_45 : decode cX12_anywhere 45 = .ok (.invokevirtual 97, 3) := by decide +kernel
theorem dX12_anywhere_48 : decode cX12_anywhere 48 = .ok (.goto 15, 3) := by decide +kernel
theorem dX12_anywhere_51 : decode cX12_anywhere 51 = .ok (.aload_n 0, 1) := by decide +kernel
theorem dX12_anywhere_52 : decode cX12_anywhere 52 = .ok (.aload_n 0, 1) := by decide +kernel
theorem dX12_anywhere_53 : decode cX12_anywhere 53 = .ok (.getfield 390, 3) := by decide +kernel
theorem dX12_anywhere_56 : decode cX12_anywhere 56 = .ok (.aload_n 0, 1) := by decide +kernel
theorem dX12_anywhere_57 : decode cX12_anywhere 57 = .ok (.getfield 393, 3) := by decide +kernel
theorem dX12_anywhere_60 : decode cX12_anywhere 60 = .ok (.invokevirtual 352, 3) := by decide +kernel
theorem dX12_anywhere_63 : decode cX12_anywhere 63 = .ok (.ireturn, 1) := by decide +kernel
theorem dX12_apart_0 : decode cX12_apart 0 = .ok (.aload_n 0, 1) := by decide +kernel
theorem dX12_apart_1 : decode cX12_apart 1 = .ok (.iconst 0, 1) := by decide +kernel
theorem dX12_apart_2 : decode cX12_apart 2 = .ok (.putfield 82, 3) := by decide +kernel
theorem dX12_apart_5 : decode cX12_apart 5 = .ok (.aload_n 0, 1) := by decide +kernel
theorem dX12_apart_6 : decode cX12_apart 6 = .ok (.iconst 0, 1) := by decide +kernel
theorem dX12_apart_7 : decode cX12_apart 7 = .ok (.putfield 85, 3) := by decide +kernel
theorem dX12_apart_10 : decode cX12_apart 10 = .ok (.aload_n 0, 1) := by decide +kernel
theorem dX12_apart_11 : decode cX12_apart 11 = .ok (.iload_n 1, 1) := by decide +kernel
theorem dX12_apart_12 : decode cX12_apart 12 = .ok (.invokevirtual 289, 3) := by decide +kernel
theorem dX12_apart_15 : decode cX12_apart 15 = .ok (.ifCond .ne 9, 3) := by decide +kernel
theorem dX12_apart_18 : decode cX12_apart 18 = .ok (.aload_n 0, 1) := by decide +kernel
theorem dX12_apart_19 : decode cX12_apart 19 = .ok (.iconst 2, 1) := by decide +kernel
theorem dX12_apart_20 : decode cX12_apart 20 = .ok (.invokevirtual 269, 3) := by decide +kernel
theorem dX12_apart_23 : decode cX12_apart 23 = .ok (.ireturn, 1) := by decide +kernel
theorem dX12_apart_24 : decode cX12_apart 24 = .ok (.aload_n 0, 1) := by decide +kernel
theorem dX12_apart_25 : decode cX12_apart 25 = .ok (.iload_n 1, 1) := by decide +kernel
theorem dX12_apart_26 : decode cX12_apart 26 = .ok (.invokevirtual 292, 3) := by decide +kernel
theorem dX12_apart_29 : decode cX12_apart 29 = .ok (.iconst (-1), 1) := by decide +kernel
theorem dX12_apart_30 : decode cX12_apart 30 = .ok (.istore_n 3, 1) := by decide +kernel
theorem dX12_apart_31 : decode cX12_apart 31 = .ok (.iconst 0, 1) := by decide +kernel
theorem dX12_apart_32 : decode cX12_apart 32 = .ok (.istore 4, 2) := by decide +kernel
theorem dX12_apart_34 : decode cX12_apart 34 = .ok (.iload 4, 2) := by decide +kernel
theorem dX12_apart_36 : decode cX12_apart 36 = .ok (.aload_n 0, 1) := by decide +kernel
theorem dX12_apart_37 : decode cX12_apart 37 = .ok (.invokevirtual 457, 3) := by decide +kernel
theorem dX12_apart_40 : decode cX12_apart 40 = .ok (.if_icmp .gt 38, 3) := by decide +kernel
theorem dX12_apart_43 : decode cX12_apart 43 = .ok (.iload_n 3, 1) := by decide +kernel
theorem dX12_apart_44 : decode cX12_apart 44 = .ok (.ifCond .lt 15, 3) := by decide +kernel
theorem dX12_apart_47 : decode cX12_apart 47 = .ok (.iload 4, 2) := by decide +kernel
theorem dX12_apart_49 : decode cX12_apart 49 = .ok (.invokestatic 460, 3) := by decide +kernel
theorem dX12_apart_52 : decode cX12_apart 52 = .ok (.iload_n 3, 1) := by decide +kernel
theorem dX12_apart_53 : decode cX12_apart 53 = .ok (.invokestatic 460, 3) := by decide +kernel
theorem dX12_apart_56 : decode cX12_apart 56 = .ok (.if_icmp .ge 16, 3) := by decide +kernel
theorem dX12_apart_59 : decode cX12_apart 59 = .ok (.aload_n 0, 1) := by decide +kernel
theorem dX12_apart_60 : decode cX12_apart 60 = .ok (.iload 4, 2) := by decide +kernel
theorem dX12_apart_62 : decode cX12_apart 62 = .ok (.iload_n 2, 1) := by decide +kernel
theorem dX12_apart_63 : decode cX12_apart 63 = .ok (.invokevirtual 463, 3) := by decide +kernel
theorem dX12_apart_66 : decode cX12_apart 66 = .ok (.ifCond .eq 6, 3) := by decide +kernel
theorem dX12_apart_69 : decode cX12_apart 69 = .ok (.iload 4, 2) := by decide +kernel
theorem dX12_apart_71 : decode cX12_apart 71 = .ok (.istore_n 3, 1) := by decide +kernel
theorem dX12_apart_72 : decode cX12_apart 72 = .ok (.iinc 4 1, 3) := by decide +kernel
theorem dX12_apart_75 : decode cX12_apart 75 = .ok (.goto (-41), 3) := by decide +kernel
theorem dX12_apart_78 : decode cX12_apart 78 = .ok (.iload_n 3, 1) := by decide +kernel
theorem dX12_apart_79 : decode cX12_apart 79 = .ok (.ifCond .ge 12, 3) := by decide +kernel
theorem dX12_apart_82 : decode cX12_apart 82 = .ok (.aload_n 0, 1) := by decide +kernel
theorem dX12_apart_83 : decode cX12_apart 83 = .ok (.bipush 8, 2) := by decide +kernel
theorem dX12_apart_85 : decode cX12_apart 85 = .ok (.invokevirtual 269, 3) := by decide +kernel
theorem dX12_apart_88 : decode cX12_apart 88 = .ok (.goto 4, 3) := by decide +kernel
theorem dX12_apart_91 : decode cX12_apart 91 = .ok (.iload_n 3, 1) := by decide +kernel
theorem dX12_apart_92 : decode cX12_apart 92 = .ok (.ireturn, 1) := by decide +kernel
theorem dX12_areSame_0 : decode cX12_areSame 0 = .ok (.iconst 0, 1) := by decide +kernel
theorem dX12_areSame_1 : decode cX12_areSame 1 = .ok (.istore 5, 2) := by decide +kernel
theorem dX12_areSame_3 : decode cX12_areSame 3 = .ok (.iload 5, 2) := by decide +kernel
theorem dX12_areSame_5 : decode cX12_areSame 5 = .ok (.iload 4, 2) := by decide +kernel
theorem dX12_areSame_7 : decode cX12_areSame 7 = .ok (.if_icmp .ge 77, 3) := by decide +kernel
theorem dX12_areSame_10 : decode cX12_areSame 10 = .ok (.iload_n 3, 1) := by decide +kernel
theorem dX12_areSame_11 : decode cX12_areSame 11 = .ok (.ifCond .ne 15, 3) := by decide +kernel
theorem dX12_areSame_14 : decode cX12_areSame 14 = .ok (.iload_n 2, 1) := by decide +kernel
theorem dX12_areSame_15 : decode cX12_areSame 15 = .ok (.iload 5, 2) := by decide +kernel
theorem dX12_areSame_17 : decode cX12_areSame 17 = .ok (.iadd, 1) := by decide +kernel
theorem dX12_areSame_18 : decode cX12_areSame 18 = .ok (.aload_n 0, 1) := by decide +kernel
theorem dX12_areSame_19 : decode cX12_areSame 19 = .ok (.getfield 286, 3) := by decide +kernel
theorem dX12_areSame_22 : decode cX12_areSame 22 = .ok (.irem, 1) := by decide +kernel
theorem dX12_areSame_23 : decode cX12_areSame 23 = .ok (.goto 17, 3) := by decide +kernel
theorem dX12_areSame_26 : decode cX12_areSame 26 = .ok (.iload_n 2, 1) := by decide +kernel
theorem dX12_areSame_27 : decode cX12_areSame 27 = .ok (.iload 5, 2) := by decide +kernel
theorem dX12_areSame_29 : decode cX12_areSame 29 = .ok (.isub, 1) := by decide +kernel
theorem dX12_areSame_30 : decode cX12_areSame 30 = .ok (.aload_n 0, 1) := by decide +kernel
theorem dX12_areSame_31 : decode cX12_areSame 31 = .ok (.getfield 286, 3) := by decide +kernel
theorem dX12_areSame_34 : decode cX12_areSame 34 = .ok (.iadd, 1) := by decide +kernel
theorem dX12_areSame_35 : decode cX12_areSame 35 = .ok (.aload_n 0, 1) := by decide +kernel
theorem dX12_areSame_36 : decode cX12_areSame 36 = .ok (.getfield 286, 3) := by decide +kernel
theorem dX12_areSame_39 : decode cX12_areSame 39 = .ok (.irem, 1) := by decide +kernel
theorem dX12_areSame_40 : decode cX12_areSame 40 = .ok (.istore 6, 2) := by decide +kernel
theorem dX12_areSame_42 : decode cX12_areSame 42 = .ok (.aload_n 0, 1) := by decide +kernel
theorem dX12_areSame_43 : decode cX12_areSame 43 = .ok (.aload_n 0, 1) := by decide +kernel
theorem dX12_areSame_44 : decode cX12_areSame 44 = .ok (.getfield 41, 3) := by decide +kernel
theorem dX12_areSame_47 : decode cX12_areSame 47 = .ok (.iload_n 1, 1) := by decide +kernel
theorem dX12_areSame_48 : decode cX12_areSame 48 = .ok (.iload 5, 2) := by decide +kernel
theorem dX12_areSame_50 : decode cX12_areSame 50 = .ok (.iadd, 1) := by decide +kernel
theorem dX12_areSame_51 : decode cX12_areSame 51 = .ok (.aload_n 0, 1) := by decide +kernel
theorem dX12_areSame_52 : decode cX12_areSame 52 = .ok (.getfield 286, 3) := by decide +kernel
theorem dX12_areSame_55 : decode cX12_areSame 55 = .ok (.irem, 1) := by decide +kernel
theorem dX12_areSame_56 : decode cX12_areSame 56 = .ok (.iaload, 1) := by decide +kernel
theorem dX12_areSame_57 : decode cX12_areSame 57 = .ok (.iconst 0, 1) := by decide +kernel
theorem dX12_areSame_58 : decode cX12_areSame 58 = .ok (.aload_n 0, 1) := by decide +kernel
theorem dX12_areSame_59 : decode cX12_areSame 59 = .ok (.getfield 41, 3) := by decide +kernel
theorem dX12_areSame_62 : decode cX12_areSame 62 = .ok (.iload 6, 2) := by decide +kernel
theorem dX12_areSame_64 : decode cX12_areSame 64 = .ok (.iaload, 1) := by decide +kernel
theorem dX12_areSame_65 : decode cX12_areSame 65 = .ok (.iload_n 3, 1) := by decide +kernel
theorem dX12_areSame_66 : decode cX12_areSame 66 = .ok (.aload_n 0, 1) := by decide +kernel
theorem dX12_areSame_67 : decode cX12_areSame 67 = .ok (.invokevirtual 457, 3) := by decide +kernel
theorem dX12_areSame_70 : decode cX12_areSame 70 = .ok (.invokevirtual 453, 3) := by decide +kernel
theorem dX12_areSame_73 : decode cX12_areSame 73 = .ok (.ifCond .eq 5, 3) := by decide +kernel
theorem dX12_areSame_76 : decode cX12_areSame 76 = .ok (.iconst 0, 1) := by decide +kernel
theorem dX12_areSame_77 : decode cX12_areSame 77 = .ok (.ireturn, 1) := by decide +kernel
theorem dX12_areSame_78 : decode cX12_areSame 78 = .ok (.iinc 5 1, 3) := by decide +kernel
theorem dX12_areSame_81 : decode cX12_areSame 81 = .ok (.goto (-78), 3) := by decide +kernel
theorem dX12_areSame_84 : decode cX12_areSame 84 = .ok (.iconst 1, 1) := by decide +kernel
theorem dX12_areSame_85 : decode cX12_areSame 85 = .ok (.ireturn, 1) := by decide +kernel
theorem dX12_back_0 : decode cX12_back 0 = .ok (.aload_n 0, 1) := by decide +kernel
theorem dX12_back_1 : decode cX12_back 1 = .ok (.iconst 0, 1) := by decide +kernel
theorem dX12_back_2 : decode cX12_back 2 = .ok (.putfield 82, 3) := by decide +kernel
theorem dX12_back_5 : decode cX12_back 5 = .ok (.aload_n 0, 1) := by decide +kernel
theorem dX12_back_6 : decode cX12_back 6 = .ok (.iconst 0, 1) := by decide +kernel
theorem dX12_back_7 : decode cX12_back 7 = .ok (.putfield 85, 3) := by decide +kernel
theorem dX12_back_10 : decode cX12_back 10 = .ok (.aload_n 0, 1) := by decide +kernel
theorem dX12_back_11 : decode cX12_back 11 = .ok (.getfield 594, 3) := by decide +kernel
theorem dX12_back_14 : decode cX12_back 14 = .ok (.ifCond .ne 10, 3) := by decide +kernel
theorem dX12_back_17 : decode cX12_back 17 = .ok (.aload_n 0, 1) := by decide +kernel
theorem dX12_back_18 : decode cX12_back 18 = .ok (.bipush 8, 2) := by decide +kernel
theorem dX12_back_20 : decode cX12_back 20 = .ok (.invokevirtual 269, 3) := by decide +kernel
theorem dX12_back_23 : decode cX12_back 23 = .ok (.ireturn, 1) := by decide +kernel
theorem dX12_back_24 : decode cX12_back 24 = .ok (.aload_n 0, 1) := by decide +kernel
theorem dX12_back_25 : decode cX12_back 25 = .ok (.aload_n 0, 1) := by decide +kernel
theorem dX12_back_26 : decode cX12_back 26 = .ok (.getfield 594, 3) := by decide +kernel
theorem dX12_back_29 : decode cX12_back 29 = .ok (.iconst 0, 1) := by decide +kernel
theorem dX12_back_30 : decode cX12_back 30 = .ok (.invokevirtual 597, 3) := by decide +kernel
theorem dX12_back_33 : decode cX12_back 33 = .ok (.aload_n 0, 1) := by decide +kernel
theorem dX12_back_34 : decode cX12_back 34 = .ok (.dup, 1) := by decide +kernel
theorem dX12_back_35 : decode cX12_back 35 = .ok (.getfield 594, 3) := by decide +kernel
theorem dX12_back_38 : decode cX12_back 38 = .ok (.iconst 1, 1) := by decide +kernel
theorem dX12_back_39 : decode cX12_back 39 = .ok (.isub, 1) := by decide +kernel
theorem dX12_back_40 : decode cX12_back 40 = .ok (.putfield 594, 3) := by decide +kernel
theorem dX12_back_43 : decode cX12_back 43 = .ok (.aload_n 0, 1) := by decide +kernel
theorem dX12_back_44 : decode cX12_back 44 = .ok (.getfield 594, 3) := by decide +kernel
theorem dX12_back_47 : decode cX12_back 47 = .ok (.ireturn, 1) := by decide +kernel
theorem dX12_beginThought_0 : decode cX12_beginThought 0 = .ok (.iconst 0, 1) := by decide +kernel
theorem dX12_beginThought_1 : decode cX12_beginThought 1 = .ok (.istore_n 1, 1) := by decide +kernel
theorem dX12_beginThought_2 : decode cX12_beginThought 2 = .ok (.iload_n 1, 1) := by decide +kernel
theorem dX12_beginThought_3 : decode cX12_beginThought 3 = .ok (.iconst 2, 1) := by decide +kernel
theorem dX12_beginThought_4 : decode cX12_beginThought 4 = .ok (.aload_n 0, 1) := by decide +kernel
theorem dX12_beginThought_5 : decode cX12_beginThought 5 = .ok (.getfield 286, 3) := by decide +kernel
theorem dX12_beginThought_8 : decode cX12_beginThought 8 = .ok (.imul, 1) := by decide +kernel
theorem dX12_beginThought_9 : decode cX12_beginThought 9 = .ok (.if_icmp .ge 43, 3) := by decide +kernel
theorem dX12_beginThought_12 : decode cX12_beginThought 12 = .ok (.aload_n 0, 1) := by decide +kernel
theorem dX12_beginThought_13 : decode cX12_beginThought 13 = .ok (.getfield 56, 3) := by decide +kernel
theorem dX12_beginThought_16 : decode cX12_beginThought 16 = .ok (.iload_n 1, 1) := by decide +kernel
theorem dX12_beginThought_17 : decode cX12_beginThought 17 = .ok (.iload_n 1, 1) := by decide +kernel
theorem dX12_beginThought_18 : decode cX12_beginThought 18 = .ok (.iconst 2, 1) := by decide +kernel
theorem dX12_beginThought_19 : decode cX12_beginThought 19 = .ok (.irem, 1) := by decide +kernel
theorem dX12_beginThought_20 : decode cX12_beginThought 20 = .ok (.ifCond .ne 17, 3) := by decide +kernel
theorem dX12_beginThought_23 : decode cX12_beginThought 23 = .ok (.bipush 16, 2) := by decide +kernel
theorem dX12_beginThought_25 : decode cX12_beginThought 25 = .ok (.aload_n 0, 1) := by decide +kernel
theorem dX12_beginThought_26 : decode cX12_beginThought 26 = .ok (.getfield 35, 3) := by decide +kernel
theorem dX12_beginThought_29 : decode cX12_beginThought 29 = .ok (.bipush 9, 2) := by decide +kernel
theorem dX12_beginThought_31 : decode cX12_beginThought 31 = .ok (.iaload, 1) := by decide +kernel
theorem dX12_beginThought_32 : decode cX12_beginThought 32 = .ok (.isub, 1) := by decide +kernel
theorem dX12_beginThought_33 : decode cX12_beginThought 33 = .ok (.i2l, 1) := by decide +kernel
theorem dX12_beginThought_34 : decode cX12_beginThought 34 = .ok (.goto 11, 3) := by decide +kernel
theorem dX12_beginThought_37 : decode cX12_beginThought 37 = .ok (.aload_n 0, 1) := by decide +kernel
theorem dX12_beginThought_38 : decode cX12_beginThought 38 = .ok (.getfield 35, 3) := by decide +kernel
theorem dX12_beginThought_41 : decode cX12_beginThought 41 = .ok (.bipush 9, 2) := by decide +kernel
theorem dX12_beginThought_43 : decode cX12_beginThought 43 = .ok (.iaload, 1) := by decide +kernel
theorem dX12_beginThought_44 : decode cX12_beginThought 44 = .ok (.i2l, 1) := by decide +kernel
theorem dX12_beginThought_45 : decode cX12_beginThought 45 = .ok (.lastore, 1) := by decide +kernel
theorem dX12_beginThought_46 : decode cX12_beginThought 46 = .ok (.iinc 1 1, 3) := by decide +kernel
theorem dX12_beginThought_49 : decode cX12_beginThought 49 = .ok (.goto (-47), 3) := by decide +kernel
theorem dX12_beginThought_52 : decode cX12_beginThought 52 = .ok (.aload_n 0, 1) := by decide +kernel
theorem dX12_beginThought_53 : decode cX12_beginThought 53 = .ok (.invokevirtual 317, 3) := by decide +kernel
theorem dX12_beginThought_56 : decode cX12_beginThought 56 = .ok (.pop, 1) := by decide +kernel
theorem dX12_beginThought_57 : decode cX12_beginThought 57 = .ok (.return_, 1) := by decide +kernel
theorem dX12_begins_0 : decode cX12_begins 0 = .ok (.iload_n 1, 1) := by decide +kernel
theorem dX12_begins_1 : decode cX12_begins 1 = .ok (.ifCond .lt 16, 3) := by decide +kernel
theorem dX12_begins_4 : decode cX12_begins 4 = .ok (.iload_n 1, 1) := by decide +kernel
theorem dX12_begins_5 : decode cX12_begins 5 = .ok (.aload_n 0, 1) := by decide +kernel
theorem dX12_begins_6 : decode cX12_begins 6 = .ok (.getfield 190, 3) := by decide +kernel
theorem dX12_begins_9 : decode cX12_begins 9 = .ok (.if_icmp .gt 8, 3) := by decide +kernel
theorem dX12_begins_12 : decode cX12_begins 12 = .ok (.iload_n 1, 1) := by decide +kernel
theorem dX12_begins_13 : decode cX12_begins 13 = .ok (.iload_n 2, 1) := by decide +kernel
theorem dX12_begins_14 : decode cX12_begins 14 = .ok (.if_icmp .le 9, 3) := by decide +kernel
theorem dX12_begins_17 : decode cX12_begins 17 = .ok (.aload_n 0, 1) := by decide +kernel
theorem dX12_begins_18 : decode cX12_begins 18 = .ok (.iconst 5, 1) := by decide +kernel
theorem dX12_begins_19 : decode cX12_begins 19 = .ok (.invokevirtual 97, 3) := by decide +kernel
theorem dX12_begins_22 : decode cX12_begins 22 = .ok (.ireturn, 1) := by decide +kernel
theorem dX12_begins_23 : decode cX12_begins 23 = .ok (.aload_n 0, 1) := by decide +kernel
theorem dX12_begins_24 : decode cX12_begins 24 = .ok (.iload_n 1, 1) := by decide +kernel
theorem dX12_begins_25 : decode cX12_begins 25 = .ok (.putfield 121, 3) := by decide +kernel
theorem dX12_begins_28 : decode cX12_begins 28 = .ok (.aload_n 0, 1) := by decide +kernel
theorem dX12_begins_29 : decode cX12_begins 29 = .ok (.iconst 0, 1) := by decide +kernel
theorem dX12_begins_30 : decode cX12_begins 30 = .ok (.putfield 190, 3) := by decide +kernel
theorem dX12_begins_33 : decode cX12_begins 33 = .ok (.aload_n 0, 1) := by decide +kernel
theorem dX12_begins_34 : decode cX12_begins 34 = .ok (.iconst 0, 1) := by decide +kernel
theorem dX12_begins_35 : decode cX12_begins 35 = .ok (.putfield 124, 3) := by decide +kernel
theorem dX12_begins_38 : decode cX12_begins 38 = .ok (.aload_n 0, 1) := by decide +kernel
theorem dX12_begins_39 : decode cX12_begins 39 = .ok (.iconst 0, 1) := by decide +kernel
theorem dX12_begins_40 : decode cX12_begins 40 = .ok (.putfield 174, 3) := by decide +kernel
theorem dX12_begins_43 : decode cX12_begins 43 = .ok (.aload_n 0, 1) := by decide +kernel
theorem dX12_begins_44 : decode cX12_begins 44 = .ok (.invokevirtual 184, 3) := by decide +kernel
theorem dX12_begins_47 : decode cX12_begins 47 = .ok (.iconst 1, 1) := by decide +kernel
theorem dX12_begins_48 : decode cX12_begins 48 = .ok (.ireturn, 1) := by decide +kernel
theorem dX12_besides_0 : decode cX12_besides 0 = .ok (.aload_n 0, 1) := by decide +kernel
theorem dX12_besides_1 : decode cX12_besides 1 = .ok (.iload_n 1, 1) := by decide +kernel
theorem dX12_besides_2 : decode cX12_besides 2 = .ok (.invokevirtual 278, 3) := by decide +kernel
theorem dX12_besides_5 : decode cX12_besides 5 = .ok (.ifCond .ge 7, 3) := by decide +kernel
theorem dX12_besides_8 : decode cX12_besides 8 = .ok (.ldc_w 475, 3) := by decide +kernel
theorem dX12_besides_11 : decode cX12_besides 11 = .ok (.ireturn, 1) := by decide +kernel
theorem dX12_besides_12 : decode cX12_besides 12 = .ok (.aload_n 0, 1) := by decide +kernel
theorem dX12_besides_13 : decode cX12_besides 13 = .ok (.aload_n 0, 1) := by decide +kernel
theorem dX12_besides_14 : decode cX12_besides 14 = .ok (.iload_n 1, 1) := by decide +kernel
theorem dX12_besides_15 : decode cX12_besides 15 = .ok (.invokevirtual 278, 3) := by decide +kernel
theorem dX12_besides_18 : decode cX12_besides 18 = .ok (.invokevirtual 292, 3) := by decide +kernel
theorem dX12_besides_21 : decode cX12_besides 21 = .ok (.aload_n 0, 1) := by decide +kernel
theorem dX12_besides_22 : decode cX12_besides 22 = .ok (.getfield 286, 3) := by decide +kernel
theorem dX12_besides_25 : decode cX12_besides 25 = .ok (.ireturn, 1) := by decide +kernel
theorem dX12_bits_0 : decode cX12_bits 0 = .ok (.iload_n 0, 1) := by decide +kernel
theorem dX12_bits_1 : decode cX12_bits 1 = .ok (.iconst 1, 1) := by decide +kernel
theorem dX12_bits_2 : decode cX12_bits 2 = .ok (.iand, 1) := by decide +kernel
theorem dX12_bits_3 : decode cX12_bits 3 = .ok (.iload_n 0, 1) := by decide +kernel
theorem dX12_bits_4 : decode cX12_bits 4 = .ok (.iconst 1, 1) := by decide +kernel
theorem dX12_bits_5 : decode cX12_bits 5 = .ok (.ishr, 1) := by decide +kernel
theorem dX12_bits_6 : decode cX12_bits 6 = .ok (.iconst 1, 1) := by decide +kernel
theorem dX12_bits_7 : decode cX12_bits 7 = .ok (.iand, 1) := by decide +kernel
theorem dX12_bits_8 : decode cX12_bits 8 = .ok (.iadd, 1) := by decide +kernel
theorem dX12_bits_9 : decode cX12_bits 9 = .ok (.iload_n 0, 1) := by decide +kernel
theorem dX12_bits_10 : decode cX12_bits 10 = .ok (.iconst 2, 1) := by decide +kernel
theorem dX12_bits_11 : decode cX12_bits 11 = .ok (.ishr, 1) := by decide +kernel
theorem dX12_bits_12 : decode cX12_bits 12 = .ok (.iconst 1, 1) := by decide +kernel
theorem dX12_bits_13 : decode cX12_bits 13 = .ok (.iand, 1) := by decide +kernel
theorem dX12_bits_14 : decode cX12_bits 14 = .ok (.iadd, 1) := by decide +kernel
theorem dX12_bits_15 : decode cX12_bits 15 = .ok (.ireturn, 1) := by decide +kernel
theorem dX12_bottom_0 : decode cX12_bottom 0 = .ok (.aload_n 0, 1) := by decide +kernel
theorem dX12_bottom_1 : decode cX12_bottom 1 = .ok (.iconst 0, 1) := by decide +kernel
theorem dX12_bottom_2 : decode cX12_bottom 2 = .ok (.putfield 82, 3) := by decide +kernel
theorem dX12_bottom_5 : decode cX12_bottom 5 = .ok (.aload_n 0, 1) := by decide +kernel
theorem dX12_bottom_6 : decode cX12_bottom 6 = .ok (.getfield 7, 3) := by decide +kernel
theorem dX12_bottom_9 : decode cX12_bottom 9 = .ok (.lreturn, 1) := by decide +kernel
theorem dX12_canOpen_0 : decode cX12_canOpen 0 = .ok (.aload_n 0, 1) := by decide +kernel
theorem dX12_canOpen_1 : decode cX12_canOpen 1 = .ok (.getfield 35, 3) := by decide +kernel
theorem dX12_canOpen_4 : decode cX12_canOpen 4 = .ok (.sipush 133, 3) := by decide +kernel
theorem dX12_canOpen_7 : decode cX12_canOpen 7 = .ok (.iload_n 2, 1) := by decide +kernel
theorem dX12_canOpen_8 : decode cX12_canOpen 8 = .ok (.iadd, 1) := by decide +kernel
theorem dX12_canOpen_9 : decode cX12_canOpen 9 = .ok (.iaload, 1) := by decide +kernel
theorem dX12_canOpen_10 : decode cX12_canOpen 10 = .ok (.iload_n 1, 1) := by decide +kernel
theorem dX12_canOpen_11 : decode cX12_canOpen 11 = .ok (.ishr, 1) := by decide +kernel
theorem dX12_canOpen_12 : decode cX12_canOpen 12 = .ok (.iconst 1, 1) := by decide +kernel
theorem dX12_canOpen_13 : decode cX12_canOpen 13 = .ok (.iand, 1) := by decide +kernel
theorem dX12_canOpen_14 : decode cX12_canOpen 14 = .ok (.iconst 1, 1) := by decide +kernel
theorem dX12_canOpen_15 : decode cX12_canOpen 15 = .ok (.if_icmp .ne 7, 3) := by decide +kernel
theorem dX12_canOpen_18 : decode cX12_canOpen 18 = .ok (.iconst 1, 1) := by decide +kernel
theorem dX12_canOpen_19 : decode cX12_canOpen 19 = .ok (.goto 4, 3) := by decide +kernel
theorem dX12_canOpen_22 : decode cX12_canOpen 22 = .ok (.iconst 0, 1) := by decide +kernel
theorem dX12_canOpen_23 : decode cX12_canOpen 23 = .ok (.ireturn, 1) := by decide +kernel
theorem dX12_copy_0 : decode cX12_copy 0 = .ok (.iconst 0, 1) := by decide +kernel
theorem dX12_copy_1 : decode cX12_copy 1 = .ok (.istore_n 3, 1) := by decide +kernel
theorem dX12_copy_2 : decode cX12_copy 2 = .ok (.iload_n 3, 1) := by decide +kernel
theorem dX12_copy_3 : decode cX12_copy 3 = .ok (.sipush 365, 3) := by decide +kernel
theorem dX12_copy_6 : decode cX12_copy 6 = .ok (.if_icmp .ge 33, 3) := by decide +kernel
theorem dX12_copy_9 : decode cX12_copy 9 = .ok (.aload_n 0, 1) := by decide +kernel
theorem dX12_copy_10 : decode cX12_copy 10 = .ok (.getfield 35, 3) := by decide +kernel
theorem dX12_copy_13 : decode cX12_copy 13 = .ok (.sipush 365, 3) := by decide +kernel
theorem dX12_copy_16 : decode cX12_copy 16 = .ok (.iload_n 2, 1) := by decide +kernel
theorem dX12_copy_17 : decode cX12_copy 17 = .ok (.imul, 1) := by decide +kernel
theorem dX12_copy_18 : decode cX12_copy 18 = .ok (.iload_n 3, 1) := by decide +kernel
theorem dX12_copy_19 : decode cX12_copy 19 = .ok (.iadd, 1) := by decide +kernel
theorem dX12_copy_20 : decode cX12_copy 20 = .ok (.aload_n 0, 1) := by decide +kernel
theorem dX12_copy_21 : decode cX12_copy 21 = .ok (.getfield 35, 3) := by decide +kernel
theorem dX12_copy_24 : decode cX12_copy 24 = .ok (.sipush 365, 3) := by decide +kernel
theorem dX12_copy_27 : decode cX12_copy 27 = .ok (.iload_n 1, 1) := by decide +kernel
theorem dX12_copy_28 : decode cX12_copy 28 = .ok (.imul, 1) := by decide +kernel
theorem dX12_copy_29 : decode cX12_copy 29 = .ok (.iload_n 3, 1) := by decide +kernel
theorem dX12_copy_30 : decode cX12_copy 30 = .ok (.iadd, 1) := by decide +kernel
theorem dX12_copy_31 : decode cX12_copy 31 = .ok (.iaload, 1) := by decide +kernel
theorem dX12_copy_32 : decode cX12_copy 32 = .ok (.iastore, 1) := by decide +kernel
theorem dX12_copy_33 : decode cX12_copy 33 = .ok (.iinc 3 1, 3) := by decide +kernel
theorem dX12_copy_36 : decode cX12_copy 36 = .ok (.goto (-34), 3) := by decide +kernel
theorem dX12_copy_39 : decode cX12_copy 39 = .ok (.iconst 0, 1) := by decide +kernel
theorem dX12_copy_40 : decode cX12_copy 40 = .ok (.istore_n 3, 1) := by decide +kernel
theorem dX12_copy_41 : decode cX12_copy 41 = .ok (.iload_n 3, 1) := by decide +kernel
theorem dX12_copy_42 : decode cX12_copy 42 = .ok (.bipush 21, 2) := by decide +kernel
theorem dX12_copy_44 : decode cX12_copy 44 = .ok (.if_icmp .ge 31, 3) := by decide +kernel
theorem dX12_copy_47 : decode cX12_copy 47 = .ok (.aload_n 0, 1) := by decide +kernel
theorem dX12_copy_48 : decode cX12_copy 48 = .ok (.getfield 38, 3) := by decide +kernel
theorem dX12_copy_51 : decode cX12_copy 51 = .ok (.bipush 21, 2) := by decide +kernel
theorem dX12_copy_53 : decode cX12_copy 53 = .ok (.iload_n 2, 1) := by decide +kernel
theorem dX12_copy_54 : decode cX12_copy 54 = .ok (.imul, 1) := by decide +kernel
theorem dX12_copy_55 : decode cX12_copy 55 = .ok (.iload_n 3, 1) := by decide +kernel
theorem dX12_copy_56 : decode cX12_copy 56 = .ok (.iadd, 1) := by decide +kernel
theorem dX12_copy_57 : decode cX12_copy 57 = .ok (.aload_n 0, 1) := by decide +kernel
theorem dX12_copy_58 : decode cX12_copy 58 = .ok (.getfield 38, 3) := by decide +kernel
theorem dX12_copy_61 : decode cX12_copy 61 = .ok (.bipush 21, 2) := by decide +kernel
theorem dX12_copy_63 : decode cX12_copy 63 = .ok (.iload_n 1, 1) := by decide +kernel
theorem dX12_copy_64 : decode cX12_copy 64 = .ok (.imul, 1) := by decide +kernel
theorem dX12_copy_65 : decode cX12_copy 65 = .ok (.iload_n 3, 1) := by decide +kernel
theorem dX12_copy_66 : decode cX12_copy 66 = .ok (.iadd, 1) := by decide +kernel
theorem dX12_copy_67 : decode cX12_copy 67 = .ok (.laload, 1) := by decide +kernel
theorem dX12_copy_68 : decode cX12_copy 68 = .ok (.lastore, 1) := by decide +kernel
theorem dX12_copy_69 : decode cX12_copy 69 = .ok (.iinc 3 1, 3) := by decide +kernel
theorem dX12_copy_72 : decode cX12_copy 72 = .ok (.goto (-31), 3) := by decide +kernel
theorem dX12_copy_75 : decode cX12_copy 75 = .ok (.return_, 1) := by decide +kernel
theorem dX12_count_0 : decode cX12_count 0 = .ok (.aload_n 0, 1) := by decide +kernel
theorem dX12_count_1 : decode cX12_count 1 = .ok (.getfield 174, 3) := by decide +kernel
theorem dX12_count_4 : decode cX12_count 4 = .ok (.ifCond .ne 15, 3) := by decide +kernel
theorem dX12_count_7 : decode cX12_count 7 = .ok (.aload_n 0, 1) := by decide +kernel
theorem dX12_count_8 : decode cX12_count 8 = .ok (.getfield 133, 3) := by decide +kernel
theorem dX12_count_11 : decode cX12_count 11 = .ok (.iconst 2, 1) := by decide +kernel
theorem dX12_count_12 : decode cX12_count 12 = .ok (.if_icmp .eq 7, 3) := by decide +kernel
theorem dX12_count_15 : decode cX12_count 15 = .ok (.aload_n 0, 1) := by decide +kernel
theorem dX12_count_16 : decode cX12_count 16 = .ok (.invokevirtual 187, 3) := by decide +kernel
theorem dX12_count_19 : decode cX12_count 19 = .ok (.aload_n 0, 1) := by decide +kernel
theorem dX12_count_20 : decode cX12_count 20 = .ok (.getfield 174, 3) := by decide +kernel
theorem dX12_count_23 : decode cX12_count 23 = .ok (.ifCond .ne 27, 3) := by decide +kernel
theorem dX12_count_26 : decode cX12_count 26 = .ok (.aload_n 0, 1) := by decide +kernel
theorem dX12_count_27 : decode cX12_count 27 = .ok (.getfield 152, 3) := by decide +kernel
theorem dX12_count_30 : decode cX12_count 30 = .ok (.i2l, 1) := by decide +kernel
theorem dX12_count_31 : decode cX12_count 31 = .ok (.iload_n 1, 1) := by decide +kernel
theorem dX12_count_32 : decode cX12_count 32 = .ok (.i2l, 1) := by decide +kernel
theorem dX12_count_33 : decode cX12_count 33 = .ok (.iload_n 2, 1) := by decide +kernel
theorem dX12_count_34 : decode cX12_count 34 = .ok (.i2l, 1) := by decide +kernel
theorem dX12_count_35 : decode cX12_count 35 = .ok (.invokestatic 117, 3) := by decide +kernel
theorem dX12_count_38 : decode cX12_count 38 = .ok (.ifCond .ne 12, 3) := by decide +kernel
theorem dX12_count_41 : decode cX12_count 41 = .ok (.aload_n 0, 1) := by decide +kernel
theorem dX12_count_42 : decode cX12_count 42 = .ok (.iconst 4, 1) := by decide +kernel
theorem dX12_count_43 : decode cX12_count 43 = .ok (.aload_n 0, 1) := by decide +kernel
theorem dX12_count_44 : decode cX12_count 44 = .ok (.getfield 127, 3) := by decide +kernel
theorem dX12_count_47 : decode cX12_count 47 = .ok (.invokevirtual 180, 3) := by decide +kernel
theorem dX12_count_50 : decode cX12_count 50 = .ok (.aload_n 0, 1) := by decide +kernel
theorem dX12_count_51 : decode cX12_count 51 = .ok (.getfield 174, 3) := by decide +kernel
theorem dX12_count_54 : decode cX12_count 54 = .ok (.ifCond .le 5, 3) := by decide +kernel
theorem dX12_count_57 : decode cX12_count 57 = .ok (.iconst 0, 1) := by decide +kernel
theorem dX12_count_58 : decode cX12_count 58 = .ok (.ireturn, 1) := by decide +kernel
theorem dX12_count_59 : decode cX12_count 59 = .ok (.aload_n 0, 1) := by decide +kernel
theorem dX12_count_60 : decode cX12_count 60 = .ok (.getfield 152, 3) := by decide +kernel
theorem dX12_count_63 : decode cX12_count 63 = .ok (.istore_n 3, 1) := by decide +kernel
theorem dX12_count_64 : decode cX12_count 64 = .ok (.aload_n 0, 1) := by decide +kernel
theorem dX12_count_65 : decode cX12_count 65 = .ok (.invokevirtual 184, 3) := by decide +kernel
theorem dX12_count_68 : decode cX12_count 68 = .ok (.iload_n 3, 1) := by decide +kernel
theorem dX12_count_69 : decode cX12_count 69 = .ok (.ireturn, 1) := by decide +kernel
theorem dX12_cut_0 : decode cX12_cut 0 = .ok (.iload_n 0, 1) := by decide +kernel
theorem dX12_cut_1 : decode cX12_cut 1 = .ok (.ifCond .ne 10, 3) := by decide +kernel
theorem dX12_cut_4 : decode cX12_cut 4 = .ok (.lload_n 1, 1) := by decide +kernel
theorem dX12_cut_5 : decode cX12_cut 5 = .ok (.l2i, 1) := by decide +kernel
theorem dX12_cut_6 : decode cX12_cut 6 = .ok (.i2b, 1) := by decide +kernel
theorem dX12_cut_7 : decode cX12_cut 7 = .ok (.i2l, 1) := by decide +kernel
theorem dX12_cut_8 : decode cX12_cut 8 = .ok (.goto 27, 3) := by decide +kernel
theorem dX12_cut_11 : decode cX12_cut 11 = .ok (.iload_n 0, 1) := by decide +kernel
theorem dX12_cut_12 : decode cX12_cut 12 = .ok (.iconst 1, 1) := by decide +kernel
theorem dX12_cut_13 : decode cX12_cut 13 = .ok (.if_icmp .ne 10, 3) := by decide +kernel
theorem dX12_cut_16 : decode cX12_cut 16 = .ok (.lload_n 1, 1) := by decide +kernel
theorem dX12_cut_17 : decode cX12_cut 17 = .ok (.l2i, 1) := by decide +kernel
theorem dX12_cut_18 : decode cX12_cut 18 = .ok (.i2s, 1) := by decide +kernel
theorem dX12_cut_19 : decode cX12_cut 19 = .ok (.i2l, 1) := by decide +kernel
theorem dX12_cut_20 : decode cX12_cut 20 = .ok (.goto 15, 3) := by decide +kernel
theorem dX12_cut_23 : decode cX12_cut 23 = .ok (.iload_n 0, 1) := by decide +kernel
theorem dX12_cut_24 : decode cX12_cut 24 = .ok (.iconst 2, 1) := by decide +kernel
theorem dX12_cut_25 : decode cX12_cut 25 = .ok (.if_icmp .ne 9, 3) := by decide +kernel
theorem dX12_cut_28 : decode cX12_cut 28 = .ok (.lload_n 1, 1) := by decide +kernel
theorem dX12_cut_29 : decode cX12_cut 29 = .ok (.l2i, 1) := by decide +kernel
theorem dX12_cut_30 : decode cX12_cut 30 = .ok (.i2l, 1) := by decide +kernel
theorem dX12_cut_31 : decode cX12_cut 31 = .ok (.goto 4, 3) := by decide +kernel
theorem dX12_cut_34 : decode cX12_cut 34 = .ok (.lload_n 1, 1) := by decide +kernel
theorem dX12_cut_35 : decode cX12_cut 35 = .ok (.lreturn, 1) := by decide +kernel
theorem dX12_differ_0 : decode cX12_differ 0 = .ok (.iconst 0, 1) := by decide +kernel
theorem dX12_differ_1 : decode cX12_differ 1 = .ok (.istore 6, 2) := by decide +kernel
theorem dX12_differ_3 : decode cX12_differ 3 = .ok (.iload 6, 2) := by decide +kernel
theorem dX12_differ_5 : decode cX12_differ 5 = .ok (.aload_n 0, 1) := by decide +kernel
theorem dX12_differ_6 : decode cX12_differ 6 = .ok (.getfield 35, 3) := by decide +kernel
theorem dX12_differ_9 : decode cX12_differ 9 = .ok (.iconst 0, 1) := by decide +kernel
theorem dX12_differ_10 : decode cX12_differ 10 = .ok (.iaload, 1) := by decide +kernel
theorem dX12_differ_11 : decode cX12_differ 11 = .ok (.if_icmp .ge 42, 3) := by decide +kernel
theorem dX12_differ_14 : decode cX12_differ 14 = .ok (.iload 5, 2) := by decide +kernel
theorem dX12_differ_16 : decode cX12_differ 16 = .ok (.iload 6, 2) := by decide +kernel
theorem dX12_differ_18 : decode cX12_differ 18 = .ok (.ishr, 1) := by decide +kernel
theorem dX12_differ_19 : decode cX12_differ 19 = .ok (.iconst 1, 1) := by decide +kernel
theorem dX12_differ_20 : decode cX12_differ 20 = .ok (.iand, 1) := by decide +kernel
theorem dX12_differ_21 : decode cX12_differ 21 = .ok (.iconst 1, 1) := by decide +kernel
theorem dX12_differ_22 : decode cX12_differ 22 = .ok (.if_icmp .ne 25, 3) := by decide +kernel
theorem dX12_differ_25 : decode cX12_differ 25 = .ok (.aload_n 0, 1) := by decide +kernel
theorem dX12_differ_26 : decode cX12_differ 26 = .ok (.iload_n 1, 1) := by decide +kernel
theorem dX12_differ_27 : decode cX12_differ 27 = .ok (.iload 6, 2) := by decide +kernel
theorem dX12_differ_29 : decode cX12_differ 29 = .ok (.iload_n 2, 1) := by decide +kernel
theorem dX12_differ_30 : decode cX12_differ 30 = .ok (.invokevirtual 326, 3) := by decide +kernel
theorem dX12_differ_33 : decode cX12_differ 33 = .ok (.aload_n 0, 1) := by decide +kernel
theorem dX12_differ_34 : decode cX12_differ 34 = .ok (.iload_n 3, 1) := by decide +kernel
theorem dX12_differ_35 : decode cX12_differ 35 = .ok (.iload 6, 2) := by decide +kernel
theorem dX12_differ_37 : decode cX12_differ 37 = .ok (.iload 4, 2) := by decide +kernel
theorem dX12_differ_39 : decode cX12_differ 39 = .ok (.invokevirtual 326, 3) := by decide +kernel
theorem dX12_differ_42 : decode cX12_differ 42 = .ok (.if_icmp .eq 5, 3) := by decide +kernel
theorem dX12_differ_45 : decode cX12_differ 45 = .ok (.iconst 1, 1) := by decide +kernel
theorem dX12_differ_46 : decode cX12_differ 46 = .ok (.ireturn, 1) := by decide +kernel
theorem dX12_differ_47 : decode cX12_differ 47 = .ok (.iinc 6 1, 3) := by decide +kernel
theorem dX12_differ_50 : decode cX12_differ 50 = .ok (.goto (-47), 3) := by decide +kernel
theorem dX12_differ_53 : decode cX12_differ 53 = .ok (.iconst 0, 1) := by decide +kernel
theorem dX12_differ_54 : decode cX12_differ 54 = .ok (.ireturn, 1) := by decide +kernel
theorem dX12_doAll_0 : decode cX12_doAll 0 = .ok (.iload_n 1, 1) := by decide +kernel
theorem dX12_doAll_1 : decode cX12_doAll 1 = .ok (.istore_n 3, 1) := by decide +kernel
theorem dX12_doAll_2 : decode cX12_doAll 2 = .ok (.iload_n 3, 1) := by decide +kernel
theorem dX12_doAll_3 : decode cX12_doAll 3 = .ok (.iload_n 2, 1) := by decide +kernel
theorem dX12_doAll_4 : decode cX12_doAll 4 = .ok (.if_icmp .ge 41, 3) := by decide +kernel
theorem dX12_doAll_7 : decode cX12_doAll 7 = .ok (.aload_n 0, 1) := by decide +kernel
theorem dX12_doAll_8 : decode cX12_doAll 8 = .ok (.getfield 561, 3) := by decide +kernel
theorem dX12_doAll_11 : decode cX12_doAll 11 = .ok (.ifCond .ne 34, 3) := by decide +kernel
theorem dX12_doAll_14 : decode cX12_doAll 14 = .ok (.aload_n 0, 1) := by decide +kernel
theorem dX12_doAll_15 : decode cX12_doAll 15 = .ok (.getfield 555, 3) := by decide +kernel
theorem dX12_doAll_18 : decode cX12_doAll 18 = .ok (.ifCond .ne 27, 3) := by decide +kernel
theorem dX12_doAll_21 : decode cX12_doAll 21 = .ok (.aload_n 0, 1) := by decide +kernel
theorem dX12_doAll_22 : decode cX12_doAll 22 = .ok (.iload_n 3, 1) := by decide +kernel
theorem dX12_doAll_23 : decode cX12_doAll 23 = .ok (.invokevirtual 579, 3) := by decide +kernel
theorem dX12_doAll_26 : decode cX12_doAll 26 = .ok (.aload_n 0, 1) := by decide +kernel
theorem dX12_doAll_27 : decode cX12_doAll 27 = .ok (.getfield 35, 3) := by decide +kernel
theorem dX12_doAll_30 : decode cX12_doAll 30 = .ok (.sipush 181, 3) := by decide +kernel
theorem dX12_doAll_33 : decode cX12_doAll 33 = .ok (.bipush 6, 2) := by decide +kernel
theorem dX12_doAll_35 : decode cX12_doAll 35 = .ok (.iload_n 3, 1) := by decide +kernel
theorem dX12_doAll_36 : decode cX12_doAll 36 = .ok (.imul, 1) := by decide +kernel
theorem dX12_doAll_37 : decode cX12_doAll 37 = .ok (.iadd, 1) := by decide +kernel
theorem dX12_doAll_38 : decode cX12_doAll 38 = .ok (.iconst 4, 1) := by decide +kernel
theorem dX12_doAll_39 : decode cX12_doAll 39 = .ok (.iadd, 1) := by decide +kernel
theorem dX12_doAll_40 : decode cX12_doAll 40 = .ok (.iaload, 1) := by decide +kernel
theorem dX12_doAll_41 : decode cX12_doAll 41 = .ok (.istore_n 3, 1) := by decide +kernel
theorem dX12_doAll_42 : decode cX12_doAll 42 = .ok (.goto (-40), 3) := by decide +kernel
theorem dX12_doAll_45 : decode cX12_doAll 45 = .ok (.return_, 1) := by decide +kernel
theorem dX12_doFeel_0 : decode cX12_doFeel 0 = .ok (.aload_n 0, 1) := by decide +kernel
theorem dX12_doFeel_1 : decode cX12_doFeel 1 = .ok (.iload_n 1, 1) := by decide +kernel
theorem dX12_doFeel_2 : decode cX12_doFeel 2 = .ok (.invokevirtual 264, 3) := by decide +kernel
theorem dX12_doFeel_5 : decode cX12_doFeel 5 = .ok (.ifCond .ne 4, 3) := by decide +kernel
theorem dX12_doFeel_8 : decode cX12_doFeel 8 = .ok (.return_, 1) := by decide +kernel
theorem dX12_doFeel_9 : decode cX12_doFeel 9 = .ok (.aload_n 0, 1) := by decide +kernel
theorem dX12_doFeel_10 : decode cX12_doFeel 10 = .ok (.dup, 1) := by decide +kernel
theorem dX12_doFeel_11 : decode cX12_doFeel 11 = .ok (.getfield 540, 3) := by decide +kernel
theorem dX12_doFeel_14 : decode cX12_doFeel 14 = .ok (.aload_n 0, 1) := by decide +kernel
theorem dX12_doFeel_15 : decode cX12_doFeel 15 = .ok (.getfield 35, 3) := by decide +kernel
theorem dX12_doFeel_18 : decode cX12_doFeel 18 = .ok (.iconst 5, 1) := by decide +kernel
theorem dX12_doFeel_19 : decode cX12_doFeel 19 = .ok (.iaload, 1) := by decide +kernel
theorem dX12_doFeel_20 : decode cX12_doFeel 20 = .ok (.iadd, 1) := by decide +kernel
theorem dX12_doFeel_21 : decode cX12_doFeel 21 = .ok (.putfield 540, 3) := by decide +kernel
theorem dX12_doFeel_24 : decode cX12_doFeel 24 = .ok (.aload_n 0, 1) := by decide +kernel
theorem dX12_doFeel_25 : decode cX12_doFeel 25 = .ok (.dup, 1) := by decide +kernel
theorem dX12_doFeel_26 : decode cX12_doFeel 26 = .ok (.getfield 543, 3) := by decide +kernel
theorem dX12_doFeel_29 : decode cX12_doFeel 29 = .ok (.iconst 1, 1) := by decide +kernel
theorem dX12_doFeel_30 : decode cX12_doFeel 30 = .ok (.iadd, 1) := by decide +kernel
theorem dX12_doFeel_31 : decode cX12_doFeel 31 = .ok (.putfield 543, 3) := by decide +kernel
theorem dX12_doFeel_34 : decode cX12_doFeel 34 = .ok (.aload_n 0, 1) := by decide +kernel
theorem dX12_doFeel_35 : decode cX12_doFeel 35 = .ok (.bipush 16, 2) := by decide +kernel
theorem dX12_doFeel_37 : decode cX12_doFeel 37 = .ok (.invokevirtual 528, 3) := by decide +kernel
theorem dX12_doFeel_40 : decode cX12_doFeel 40 = .ok (.istore_n 2, 1) := by decide +kernel
theorem dX12_doFeel_41 : decode cX12_doFeel 41 = .ok (.iconst 0, 1) := by decide +kernel
theorem dX12_doFeel_42 : decode cX12_doFeel 42 = .ok (.istore_n 3, 1) := by decide +kernel
theorem dX12_doFeel_43 : decode cX12_doFeel 43 = .ok (.aload_n 0, 1) := by decide +kernel
theorem dX12_doFeel_44 : decode cX12_doFeel 44 = .ok (.aload_n 0, 1) := by decide +kernel
theorem dX12_doFeel_45 : decode cX12_doFeel 45 = .ok (.getfield 41, 3) := by decide +kernel
theorem dX12_doFeel_48 : decode cX12_doFeel 48 = .ok (.aload_n 0, 1) := by decide +kernel
theorem dX12_doFeel_49 : decode cX12_doFeel 49 = .ok (.getfield 531, 3) := by decide +kernel
theorem dX12_doFeel_52 : decode cX12_doFeel 52 = .ok (.iaload, 1) := by decide +kernel
theorem dX12_doFeel_53 : decode cX12_doFeel 53 = .ok (.iload_n 1, 1) := by decide +kernel
theorem dX12_doFeel_54 : decode cX12_doFeel 54 = .ok (.aload_n 0, 1) := by decide +kernel
theorem dX12_doFeel_55 : decode cX12_doFeel 55 = .ok (.getfield 534, 3) := by decide +kernel
theorem dX12_doFeel_58 : decode cX12_doFeel 58 = .ok (.iconst 0, 1) := by decide +kernel
theorem dX12_doFeel_59 : decode cX12_doFeel 59 = .ok (.invokevirtual 329, 3) := by decide +kernel
theorem dX12_doFeel_62 : decode cX12_doFeel 62 = .ok (.istore 4, 2) := by decide +kernel
theorem dX12_doFeel_64 : decode cX12_doFeel 64 = .ok (.iload 4, 2) := by decide +kernel
theorem dX12_doFeel_66 : decode cX12_doFeel 66 = .ok (.iload_n 2, 1) := by decide +kernel
theorem dX12_doFeel_67 : decode cX12_doFeel 67 = .ok (.if_icmp .gt 33, 3) := by decide +kernel
theorem dX12_doFeel_70 : decode cX12_doFeel 70 = .ok (.iinc 3 1, 3) := by decide +kernel
theorem dX12_doFeel_73 : decode cX12_doFeel 73 = .ok (.iload 4, 2) := by decide +kernel
theorem dX12_doFeel_75 : decode cX12_doFeel 75 = .ok (.aload_n 0, 1) := by decide +kernel
theorem dX12_doFeel_76 : decode cX12_doFeel 76 = .ok (.aload_n 0, 1) := by decide +kernel
theorem dX12_doFeel_77 : decode cX12_doFeel 77 = .ok (.getfield 41, 3) := by decide +kernel
theorem dX12_doFeel_80 : decode cX12_doFeel 80 = .ok (.aload_n 0, 1) := by decide +kernel
theorem dX12_doFeel_81 : decode cX12_doFeel 81 = .ok (.getfield 531, 3) := by decide +kernel
theorem dX12_doFeel_84 : decode cX12_doFeel 84 = .ok (.iaload, 1) := by decide +kernel
theorem dX12_doFeel_85 : decode cX12_doFeel 85 = .ok (.iload_n 1, 1) := by decide +kernel
theorem dX12_doFeel_86 : decode cX12_doFeel 86 = .ok (.aload_n 0, 1) := by decide +kernel
theorem dX12_doFeel_87 : decode cX12_doFeel 87 = .ok (.getfield 534, 3) := by decide +kernel
theorem dX12_doFeel_90 : decode cX12_doFeel 90 = .ok (.iload_n 3, 1) := by decide +kernel
theorem dX12_doFeel_91 : decode cX12_doFeel 91 = .ok (.invokevirtual 329, 3) := by decide +kernel
theorem dX12_doFeel_94 : decode cX12_doFeel 94 = .ok (.iadd, 1) := by decide +kernel
theorem dX12_doFeel_95 : decode cX12_doFeel 95 = .ok (.istore 4, 2) := by decide +kernel
theorem dX12_doFeel_97 : decode cX12_doFeel 97 = .ok (.goto (-33), 3) := by decide +kernel
theorem dX12_doFeel_100 : decode cX12_doFeel 100 = .ok (.aload_n 0, 1) := by decide +kernel
theorem dX12_doFeel_101 : decode cX12_doFeel 101 = .ok (.getfield 59, 3) := by decide +kernel
theorem dX12_doFeel_104 : decode cX12_doFeel 104 = .ok (.iload_n 1, 1) := by decide +kernel
theorem dX12_doFeel_105 : decode cX12_doFeel 105 = .ok (.iload_n 3, 1) := by decide +kernel
theorem dX12_doFeel_106 : decode cX12_doFeel 106 = .ok (.iastore, 1) := by decide +kernel
theorem dX12_doFeel_107 : decode cX12_doFeel 107 = .ok (.aload_n 0, 1) := by decide +kernel
theorem dX12_doFeel_108 : decode cX12_doFeel 108 = .ok (.iload_n 1, 1) := by decide +kernel
theorem dX12_doFeel_109 : decode cX12_doFeel 109 = .ok (.iload_n 3, 1) := by decide +kernel
theorem dX12_doFeel_110 : decode cX12_doFeel 110 = .ok (.invokevirtual 333, 3) := by decide +kernel
theorem dX12_doFeel_113 : decode cX12_doFeel 113 = .ok (.pop, 1) := by decide +kernel
theorem dX12_doFeel_114 : decode cX12_doFeel 114 = .ok (.return_, 1) := by decide +kernel
theorem dX12_doOne_0 : decode cX12_doOne 0 = .ok (.aload_n 0, 1) := by decide +kernel
theorem dX12_doOne_1 : decode cX12_doOne 1 = .ok (.getfield 558, 3) := by decide +kernel
theorem dX12_doOne_4 : decode cX12_doOne 4 = .ok (.sipush 200, 3) := by decide +kernel
theorem dX12_doOne_7 : decode cX12_doOne 7 = .ok (.if_icmp .ne 9, 3) := by decide +kernel
theorem dX12_doOne_10 : decode cX12_doOne 10 = .ok (.aload_n 0, 1) := by decide +kernel
theorem dX12_doOne_11 : decode cX12_doOne 11 = .ok (.iconst 1, 1) := by decide +kernel
theorem dX12_doOne_12 : decode cX12_doOne 12 = .ok (.putfield 561, 3) := by decide +kernel
theorem dX12_doOne_15 : decode cX12_doOne 15 = .ok (.return_, 1) := by decide +kernel
theorem dX12_doOne_16 : decode cX12_doOne 16 = .ok (.aload_n 0, 1) := by decide +kernel
theorem dX12_doOne_17 : decode cX12_doOne 17 = .ok (.dup, 1) := by decide +kernel
theorem dX12_doOne_18 : decode cX12_doOne 18 = .ok (.getfield 558, 3) := by decide +kernel
theorem dX12_doOne_21 : decode cX12_doOne 21 = .ok (.iconst 1, 1) := by decide +kernel
theorem dX12_doOne_22 : decode cX12_doOne 22 = .ok (.iadd, 1) := by decide +kernel
theorem dX12_doOne_23 : decode cX12_doOne 23 = .ok (.putfield 558, 3) := by decide +kernel
theorem dX12_doOne_26 : decode cX12_doOne 26 = .ok (.sipush 181, 3) := by decide +kernel
theorem dX12_doOne_29 : decode cX12_doOne 29 = .ok (.bipush 6, 2) := by decide +kernel
theorem dX12_doOne_31 : decode cX12_doOne 31 = .ok (.iload_n 1, 1) := by decide +kernel
theorem dX12_doOne_32 : decode cX12_doOne 32 = .ok (.imul, 1) := by decide +kernel
theorem dX12_doOne_33 : decode cX12_doOne 33 = .ok (.iadd, 1) := by decide +kernel
theorem dX12_doOne_34 : decode cX12_doOne 34 = .ok (.istore_n 2, 1) := by decide +kernel
theorem dX12_doOne_35 : decode cX12_doOne 35 = .ok (.aload_n 0, 1) := by decide +kernel
theorem dX12_doOne_36 : decode cX12_doOne 36 = .ok (.getfield 35, 3) := by decide +kernel
theorem dX12_doOne_39 : decode cX12_doOne 39 = .ok (.iload_n 2, 1) := by decide +kernel
theorem dX12_doOne_40 : decode cX12_doOne 40 = .ok (.iaload, 1) := by decide +kernel
theorem dX12_doOne_41 : decode cX12_doOne 41 = .ok (.tableswitch 229 0 9 #[55, 70, 77, 125, 146, 169, 229, 229, 229, 177], 55) := by decide +kernel
theorem dX12_doOne_96 : decode cX12_doOne 96 = .ok (.aload_n 0, 1) := by decide +kernel
theorem dX12_doOne_97 : decode cX12_doOne 97 = .ok (.aload_n 0, 1) := by decide +kernel
theorem dX12_doOne_98 : decode cX12_doOne 98 = .ok (.getfield 35, 3) := by decide +kernel
theorem dX12_doOne_101 : decode cX12_doOne 101 = .ok (.iload_n 2, 1) := by decide +kernel
theorem dX12_doOne_102 : decode cX12_doOne 102 = .ok (.iconst 1, 1) := by decide +kernel
theorem dX12_doOne_103 : decode cX12_doOne 103 = .ok (.iadd, 1) := by decide +kernel
theorem dX12_doOne_104 : decode cX12_doOne 104 = .ok (.iaload, 1) := by decide +kernel
theorem dX12_doOne_105 : decode cX12_doOne 105 = .ok (.invokevirtual 564, 3) := by decide +kernel
theorem dX12_doOne_108 : decode cX12_doOne 108 = .ok (.goto 185, 3) := by decide +kernel
theorem dX12_doOne_111 : decode cX12_doOne 111 = .ok (.aload_n 0, 1) := by decide +kernel
theorem dX12_doOne_112 : decode cX12_doOne 112 = .ok (.invokevirtual 567, 3) := by decide +kernel
theorem dX12_doOne_115 : decode cX12_doOne 115 = .ok (.goto 178, 3) := by decide +kernel
theorem dX12_doOne_118 : decode cX12_doOne 118 = .ok (.aload_n 0, 1) := by decide +kernel
theorem dX12_doOne_119 : decode cX12_doOne 119 = .ok (.dup, 1) := by decide +kernel
theorem dX12_doOne_120 : decode cX12_doOne 120 = .ok (.getfield 540, 3) := by decide +kernel
theorem dX12_doOne_123 : decode cX12_doOne 123 = .ok (.aload_n 0, 1) := by decide +kernel
theorem dX12_doOne_124 : decode cX12_doOne 124 = .ok (.getfield 35, 3) := by decide +kernel
theorem dX12_doOne_127 : decode cX12_doOne 127 = .ok (.bipush 7, 2) := by decide +kernel
theorem dX12_doOne_129 : decode cX12_doOne 129 = .ok (.iaload, 1) := by decide +kernel
theorem dX12_doOne_130 : decode cX12_doOne 130 = .ok (.iadd, 1) := by decide +kernel
theorem dX12_doOne_131 : decode cX12_doOne 131 = .ok (.putfield 540, 3) := by decide +kernel
theorem dX12_doOne_134 : decode cX12_doOne 134 = .ok (.aload_n 0, 1) := by decide +kernel
theorem dX12_doOne_135 : decode cX12_doOne 135 = .ok (.aload_n 0, 1) := by decide +kernel
theorem dX12_doOne_136 : decode cX12_doOne 136 = .ok (.iconst 2, 1) := by decide +kernel
theorem dX12_doOne_137 : decode cX12_doOne 137 = .ok (.aload_n 0, 1) := by decide +kernel
theorem dX12_doOne_138 : decode cX12_doOne 138 = .ok (.getfield 531, 3) := by decide +kernel
theorem dX12_doOne_141 : decode cX12_doOne 141 = .ok (.imul, 1) := by decide +kernel
theorem dX12_doOne_142 : decode cX12_doOne 142 = .ok (.aload_n 0, 1) := by decide +kernel
theorem dX12_doOne_143 : decode cX12_doOne 143 = .ok (.getfield 534, 3) := by decide +kernel
theorem dX12_doOne_146 : decode cX12_doOne 146 = .ok (.iadd, 1) := by decide +kernel
theorem dX12_doOne_147 : decode cX12_doOne 147 = .ok (.invokevirtual 336, 3) := by decide +kernel
theorem dX12_doOne_150 : decode cX12_doOne 150 = .ok (.iconst 2, 1) := by decide +kernel
theorem dX12_doOne_151 : decode cX12_doOne 151 = .ok (.idiv, 1) := by decide +kernel
theorem dX12_doOne_152 : decode cX12_doOne 152 = .ok (.putfield 531, 3) := by decide +kernel
theorem dX12_doOne_155 : decode cX12_doOne 155 = .ok (.aload_n 0, 1) := by decide +kernel
theorem dX12_doOne_156 : decode cX12_doOne 156 = .ok (.invokevirtual 339, 3) := by decide +kernel
theorem dX12_doOne_159 : decode cX12_doOne 159 = .ok (.aload_n 0, 1) := by decide +kernel
theorem dX12_doOne_160 : decode cX12_doOne 160 = .ok (.invokevirtual 537, 3) := by decide +kernel
theorem dX12_doOne_163 : decode cX12_doOne 163 = .ok (.goto 130, 3) := by decide +kernel
theorem dX12_doOne_166 : decode cX12_doOne 166 = .ok (.aload_n 0, 1) := by decide +kernel
theorem dX12_doOne_167 : decode cX12_doOne 167 = .ok (.iconst 1, 1) := by decide +kernel
theorem dX12_doOne_168 : decode cX12_doOne 168 = .ok (.aload_n 0, 1) := by decide +kernel
theorem dX12_doOne_169 : decode cX12_doOne 169 = .ok (.getfield 534, 3) := by decide +kernel
theorem dX12_doOne_172 : decode cX12_doOne 172 = .ok (.isub, 1) := by decide +kernel
theorem dX12_doOne_173 : decode cX12_doOne 173 = .ok (.putfield 534, 3) := by decide +kernel
theorem dX12_doOne_176 : decode cX12_doOne 176 = .ok (.aload_n 0, 1) := by decide +kernel
theorem dX12_doOne_177 : decode cX12_doOne 177 = .ok (.invokevirtual 342, 3) := by decide +kernel
theorem dX12_doOne_180 : decode cX12_doOne 180 = .ok (.aload_n 0, 1) := by decide +kernel
theorem dX12_doOne_181 : decode cX12_doOne 181 = .ok (.invokevirtual 537, 3) := by decide +kernel
theorem dX12_doOne_184 : decode cX12_doOne 184 = .ok (.goto 109, 3) := by decide +kernel
theorem dX12_doOne_187 : decode cX12_doOne 187 = .ok (.aload_n 0, 1) := by decide +kernel
theorem dX12_doOne_188 : decode cX12_doOne 188 = .ok (.dup, 1) := by decide +kernel
theorem dX12_doOne_189 : decode cX12_doOne 189 = .ok (.getfield 540, 3) := by decide +kernel
theorem dX12_doOne_192 : decode cX12_doOne 192 = .ok (.aload_n 0, 1) := by decide +kernel
theorem dX12_doOne_193 : decode cX12_doOne 193 = .ok (.getfield 35, 3) := by decide +kernel
theorem dX12_doOne_196 : decode cX12_doOne 196 = .ok (.bipush 8, 2) := by decide +kernel
theorem dX12_doOne_198 : decode cX12_doOne 198 = .ok (.iaload, 1) := by decide +kernel
theorem dX12_doOne_199 : decode cX12_doOne 199 = .ok (.iadd, 1) := by decide +kernel
theorem dX12_doOne_200 : decode cX12_doOne 200 = .ok (.putfield 540, 3) := by decide +kernel
theorem dX12_doOne_203 : decode cX12_doOne 203 = .ok (.aload_n 0, 1) := by decide +kernel
theorem dX12_doOne_204 : decode cX12_doOne 204 = .ok (.invokevirtual 570, 3) := by decide +kernel
theorem dX12_doOne_207 : decode cX12_doOne 207 = .ok (.goto 86, 3) := by decide +kernel
theorem dX12_doOne_210 : decode cX12_doOne 210 = .ok (.aload_n 0, 1) := by decide +kernel
theorem dX12_doOne_211 : decode cX12_doOne 211 = .ok (.iconst 1, 1) := by decide +kernel
theorem dX12_doOne_212 : decode cX12_doOne 212 = .ok (.putfield 555, 3) := by decide +kernel
theorem dX12_doOne_215 : decode cX12_doOne 215 = .ok (.goto 78, 3) := by decide +kernel
theorem dX12_doOne_218 : decode cX12_doOne 218 = .ok (.iconst 0, 1) := by decide +kernel
theorem dX12_doOne_219 : decode cX12_doOne 219 = .ok (.istore_n 3, 1) := by decide +kernel
theorem dX12_doOne_220 : decode cX12_doOne 220 = .ok (.iload_n 3, 1) := by decide +kernel
theorem dX12_doOne_221 : decode cX12_doOne 221 = .ok (.aload_n 0, 1) := by decide +kernel
theorem dX12_doOne_222 : decode cX12_doOne 222 = .ok (.getfield 35, 3) := by decide +kernel
theorem dX12_doOne_225 : decode cX12_doOne 225 = .ok (.iload_n 2, 1) := by decide +kernel
theorem dX12_doOne_226 : decode cX12_doOne 226 = .ok (.iconst 3, 1) := by decide +kernel
theorem dX12_doOne_227 : decode cX12_doOne 227 = .ok (.iadd, 1) := by decide +kernel
theorem dX12_doOne_228 : decode cX12_doOne 228 = .ok (.iaload, 1) := by decide +kernel
theorem dX12_doOne_229 : decode cX12_doOne 229 = .ok (.if_icmp .ge 38, 3) := by decide +kernel
theorem dX12_doOne_232 : decode cX12_doOne 232 = .ok (.aload_n 0, 1) := by decide +kernel
theorem dX12_doOne_233 : decode cX12_doOne 233 = .ok (.getfield 561, 3) := by decide +kernel
theorem dX12_doOne_236 : decode cX12_doOne 236 = .ok (.ifCond .ne 31, 3) := by decide +kernel
theorem dX12_doOne_239 : decode cX12_doOne 239 = .ok (.aload_n 0, 1) := by decide +kernel
theorem dX12_doOne_240 : decode cX12_doOne 240 = .ok (.getfield 555, 3) := by decide +kernel
theorem dX12_doOne_243 : decode cX12_doOne 243 = .ok (.ifCond .ne 24, 3) := by decide +kernel
theorem dX12_doOne_246 : decode cX12_doOne 246 = .ok (.aload_n 0, 1) := by decide +kernel
theorem dX12_doOne_247 : decode cX12_doOne 247 = .ok (.iload_n 1, 1) := by decide +kernel
theorem dX12_doOne_248 : decode cX12_doOne 248 = .ok (.iconst 1, 1) := by decide +kernel
theorem dX12_doOne_249 : decode cX12_doOne 249 = .ok (.iadd, 1) := by decide +kernel
theorem dX12_doOne_250 : decode cX12_doOne 250 = .ok (.aload_n 0, 1) := by decide +kernel
theorem dX12_doOne_251 : decode cX12_doOne 251 = .ok (.getfield 35, 3) := by decide +kernel
theorem dX12_doOne_254 : decode cX12_doOne 254 = .ok (.iload_n 2, 1) := by decide +kernel
theorem dX12_doOne_255 : decode cX12_doOne 255 = .ok (.iconst 4, 1) := by decide +kernel
theorem dX12_doOne_256 : decode cX12_doOne 256 = .ok (.iadd, 1) := by decide +kernel
theorem dX12_doOne_257 : decode cX12_doOne 257 = .ok (.iaload, 1) := by decide +kernel
theorem dX12_doOne_258 : decode cX12_doOne 258 = .ok (.invokevirtual 573, 3) := by decide +kernel
theorem dX12_doOne_261 : decode cX12_doOne 261 = .ok (.iinc 3 1, 3) := by decide +kernel
theorem dX12_doOne_264 : decode cX12_doOne 264 = .ok (.goto (-44), 3) := by decide +kernel
theorem dX12_doOne_267 : decode cX12_doOne 267 = .ok (.goto 26, 3) := by decide +kernel
theorem dX12_doOne_270 : decode cX12_doOne 270 = .ok (.aload_n 0, 1) := by decide +kernel
theorem dX12_doOne_271 : decode cX12_doOne 271 = .ok (.iload_n 2, 1) := by decide +kernel
theorem dX12_doOne_272 : decode cX12_doOne 272 = .ok (.invokevirtual 576, 3) := by decide +kernel
theorem dX12_doOne_275 : decode cX12_doOne 275 = .ok (.ifCond .eq 18, 3) := by decide +kernel
theorem dX12_doOne_278 : decode cX12_doOne 278 = .ok (.aload_n 0, 1) := by decide +kernel
theorem dX12_doOne_279 : decode cX12_doOne 279 = .ok (.iload_n 1, 1) := by decide +kernel
theorem dX12_doOne_280 : decode cX12_doOne 280 = .ok (.iconst 1, 1) := by decide +kernel
theorem dX12_doOne_281 : decode cX12_doOne 281 = .ok (.iadd, 1) := by decide +kernel
theorem dX12_doOne_282 : decode cX12_doOne 282 = .ok (.aload_n 0, 1) := by decide +kernel
theorem dX12_doOne_283 : decode cX12_doOne 283 = .ok (.getfield 35, 3) := by decide +kernel
theorem dX12_doOne_286 : decode cX12_doOne 286 = .ok (.iload_n 2, 1) := by decide +kernel
theorem dX12_doOne_287 : decode cX12_doOne 287 = .ok (.iconst 4, 1) := by decide +kernel
theorem dX12_doOne_288 : decode cX12_doOne 288 = .ok (.iadd, 1) := by decide +kernel
theorem dX12_doOne_289 : decode cX12_doOne 289 = .ok (.iaload, 1) := by decide +kernel
theorem dX12_doOne_290 : decode cX12_doOne 290 = .ok (.invokevirtual 573, 3) := by decide +kernel
theorem dX12_doOne_293 : decode cX12_doOne 293 = .ok (.return_, 1) := by decide +kernel
theorem dX12_doTry_0 : decode cX12_doTry 0 = .ok (.aload_n 0, 1) := by decide +kernel
theorem dX12_doTry_1 : decode cX12_doTry 1 = .ok (.dup, 1) := by decide +kernel
theorem dX12_doTry_2 : decode cX12_doTry 2 = .ok (.getfield 540, 3) := by decide +kernel
theorem dX12_doTry_5 : decode cX12_doTry 5 = .ok (.aload_n 0, 1) := by decide +kernel
theorem dX12_doTry_6 : decode cX12_doTry 6 = .ok (.getfield 35, 3) := by decide +kernel
theorem dX12_doTry_9 : decode cX12_doTry 9 = .ok (.bipush 6, 2) := by decide +kernel
theorem dX12_doTry_11 : decode cX12_doTry 11 = .ok (.iaload, 1) := by decide +kernel
theorem dX12_doTry_12 : decode cX12_doTry 12 = .ok (.iadd, 1) := by decide +kernel
theorem dX12_doTry_13 : decode cX12_doTry 13 = .ok (.putfield 540, 3) := by decide +kernel
theorem dX12_doTry_16 : decode cX12_doTry 16 = .ok (.aload_n 0, 1) := by decide +kernel
theorem dX12_doTry_17 : decode cX12_doTry 17 = .ok (.dup, 1) := by decide +kernel
theorem dX12_doTry_18 : decode cX12_doTry 18 = .ok (.getfield 546, 3) := by decide +kernel
theorem dX12_doTry_21 : decode cX12_doTry 21 = .ok (.iconst 1, 1) := by decide +kernel
theorem dX12_doTry_22 : decode cX12_doTry 22 = .ok (.iadd, 1) := by decide +kernel
theorem dX12_doTry_23 : decode cX12_doTry 23 = .ok (.putfield 546, 3) := by decide +kernel
theorem dX12_doTry_26 : decode cX12_doTry 26 = .ok (.aload_n 0, 1) := by decide +kernel
theorem dX12_doTry_27 : decode cX12_doTry 27 = .ok (.iconst 1, 1) := by decide +kernel
theorem dX12_doTry_28 : decode cX12_doTry 28 = .ok (.putfield 525, 3) := by decide +kernel
theorem dX12_doTry_31 : decode cX12_doTry 31 = .ok (.aload_n 0, 1) := by decide +kernel
theorem dX12_doTry_32 : decode cX12_doTry 32 = .ok (.aload_n 0, 1) := by decide +kernel
theorem dX12_doTry_33 : decode cX12_doTry 33 = .ok (.getfield 41, 3) := by decide +kernel
theorem dX12_doTry_36 : decode cX12_doTry 36 = .ok (.aload_n 0, 1) := by decide +kernel
theorem dX12_doTry_37 : decode cX12_doTry 37 = .ok (.getfield 531, 3) := by decide +kernel
theorem dX12_doTry_40 : decode cX12_doTry 40 = .ok (.iaload, 1) := by decide +kernel
theorem dX12_doTry_41 : decode cX12_doTry 41 = .ok (.aload_n 0, 1) := by decide +kernel
theorem dX12_doTry_42 : decode cX12_doTry 42 = .ok (.getfield 549, 3) := by decide +kernel
theorem dX12_doTry_45 : decode cX12_doTry 45 = .ok (.invokevirtual 345, 3) := by decide +kernel
theorem dX12_doTry_48 : decode cX12_doTry 48 = .ok (.ifCond .eq 16, 3) := by decide +kernel
theorem dX12_doTry_51 : decode cX12_doTry 51 = .ok (.aload_n 0, 1) := by decide +kernel
theorem dX12_doTry_52 : decode cX12_doTry 52 = .ok (.iconst 1, 1) := by decide +kernel
theorem dX12_doTry_53 : decode cX12_doTry 53 = .ok (.putfield 552, 3) := by decide +kernel
theorem dX12_doTry_56 : decode cX12_doTry 56 = .ok (.aload_n 0, 1) := by decide +kernel
theorem dX12_doTry_57 : decode cX12_doTry 57 = .ok (.iconst 1, 1) := by decide +kernel
theorem dX12_doTry_58 : decode cX12_doTry 58 = .ok (.putfield 555, 3) := by decide +kernel
theorem dX12_doTry_61 : decode cX12_doTry 61 = .ok (.goto 13, 3) := by decide +kernel
theorem dX12_doTry_64 : decode cX12_doTry 64 = .ok (.aload_n 0, 1) := by decide +kernel
theorem dX12_doTry_65 : decode cX12_doTry 65 = .ok (.aload_n 0, 1) := by decide +kernel
theorem dX12_doTry_66 : decode cX12_doTry 66 = .ok (.getfield 549, 3) := by decide +kernel
theorem dX12_doTry_69 : decode cX12_doTry 69 = .ok (.iconst 0, 1) := by decide +kernel
theorem dX12_doTry_70 : decode cX12_doTry 70 = .ok (.invokevirtual 348, 3) := by decide +kernel
theorem dX12_doTry_73 : decode cX12_doTry 73 = .ok (.pop, 1) := by decide +kernel
theorem dX12_doTry_74 : decode cX12_doTry 74 = .ok (.return_, 1) := by decide +kernel
theorem dX12_door_0 : decode cX12_door 0 = .ok (.aload_n 0, 1) := by decide +kernel
theorem dX12_door_1 : decode cX12_door 1 = .ok (.iconst 0, 1) := by decide +kernel
theorem dX12_door_2 : decode cX12_door 2 = .ok (.putfield 82, 3) := by decide +kernel
theorem dX12_door_5 : decode cX12_door 5 = .ok (.aload_n 0, 1) := by decide +kernel
theorem dX12_door_6 : decode cX12_door 6 = .ok (.iconst 0, 1) := by decide +kernel
theorem dX12_door_7 : decode cX12_door 7 = .ok (.putfield 85, 3) := by decide +kernel
theorem dX12_door_10 : decode cX12_door 10 = .ok (.aload_n 0, 1) := by decide +kernel
theorem dX12_door_11 : decode cX12_door 11 = .ok (.iload_n 1, 1) := by decide +kernel
theorem dX12_door_12 : decode cX12_door 12 = .ok (.invokevirtual 295, 3) := by decide +kernel
theorem dX12_door_15 : decode cX12_door 15 = .ok (.ifCond .ne 9, 3) := by decide +kernel
theorem dX12_door_18 : decode cX12_door 18 = .ok (.aload_n 0, 1) := by decide +kernel
theorem dX12_door_19 : decode cX12_door 19 = .ok (.iconst 2, 1) := by decide +kernel
theorem dX12_door_20 : decode cX12_door 20 = .ok (.invokevirtual 269, 3) := by decide +kernel
theorem dX12_door_23 : decode cX12_door 23 = .ok (.ireturn, 1) := by decide +kernel
theorem dX12_door_24 : decode cX12_door 24 = .ok (.iload_n 2, 1) := by decide +kernel
theorem dX12_door_25 : decode cX12_door 25 = .ok (.ifCond .ne 16, 3) := by decide +kernel
theorem dX12_door_28 : decode cX12_door 28 = .ok (.aload_n 0, 1) := by decide +kernel
theorem dX12_door_29 : decode cX12_door 29 = .ok (.getfield 35, 3) := by decide +kernel
theorem dX12_door_32 : decode cX12_door 32 = .ok (.sipush 128, 3) := by decide +kernel
theorem dX12_door_35 : decode cX12_door 35 = .ok (.iload_n 1, 1) := by decide +kernel
theorem dX12_door_36 : decode cX12_door 36 = .ok (.iadd, 1) := by decide +kernel
theorem dX12_door_37 : decode cX12_door 37 = .ok (.iaload, 1) := by decide +kernel
theorem dX12_door_38 : decode cX12_door 38 = .ok (.goto 26, 3) := by decide +kernel
theorem dX12_door_41 : decode cX12_door 41 = .ok (.iload_n 2, 1) := by decide +kernel
theorem dX12_door_42 : decode cX12_door 42 = .ok (.iconst 1, 1) := by decide +kernel
theorem dX12_door_43 : decode cX12_door 43 = .ok (.if_icmp .ne 16, 3) := by decide +kernel
theorem dX12_door_46 : decode cX12_door 46 = .ok (.aload_n 0, 1) := by decide +kernel
theorem dX12_door_47 : decode cX12_door 47 = .ok (.getfield 35, 3) := by decide +kernel
theorem dX12_door_50 : decode cX12_door 50 = .ok (.sipush 133, 3) := by decide +kernel
theorem dX12_door_53 : decode cX12_door 53 = .ok (.iload_n 1, 1) := by decide +kernel
theorem dX12_door_54 : decode cX12_door 54 = .ok (.iadd, 1) := by decide +kernel
theorem dX12_door_55 : decode cX12_door 55 = .ok (.iaload, 1) := by decide +kernel
theorem dX12_door_56 : decode cX12_door 56 = .ok (.goto 8, 3) := by decide +kernel
theorem dX12_door_59 : decode cX12_door 59 = .ok (.aload_n 0, 1) := by decide +kernel
theorem dX12_door_60 : decode cX12_door 60 = .ok (.iconst 5, 1) := by decide +kernel
theorem dX12_door_61 : decode cX12_door 61 = .ok (.invokevirtual 269, 3) := by decide +kernel
theorem dX12_door_64 : decode cX12_door 64 = .ok (.ireturn, 1) := by decide +kernel
theorem dX12_draw_0 : decode cX12_draw 0 = .ok (.aload_n 0, 1) := by decide +kernel
theorem dX12_draw_1 : decode cX12_draw 1 = .ok (.aload_n 0, 1) := by decide +kernel
theorem dX12_draw_2 : decode cX12_draw 2 = .ok (.getfield 521, 3) := by decide +kernel
theorem dX12_draw_5 : decode cX12_draw 5 = .ok (.sipush 2749, 3) := by decide +kernel
theorem dX12_draw_8 : decode cX12_draw 8 = .ok (.imul, 1) := by decide +kernel
theorem dX12_draw_9 : decode cX12_draw 9 = .ok (.sipush 15013, 3) := by decide +kernel
theorem dX12_draw_12 : decode cX12_draw 12 = .ok (.iadd, 1) := by decide +kernel
theorem dX12_draw_13 : decode cX12_draw 13 = .ok (.ldc_w 524, 3) := by decide +kernel
theorem dX12_draw_16 : decode cX12_draw 16 = .ok (.irem, 1) := by decide +kernel
theorem dX12_draw_17 : decode cX12_draw 17 = .ok (.putfield 521, 3) := by decide +kernel
theorem dX12_draw_20 : decode cX12_draw 20 = .ok (.aload_n 0, 1) := by decide +kernel
theorem dX12_draw_21 : decode cX12_draw 21 = .ok (.getfield 521, 3) := by decide +kernel
theorem dX12_draw_24 : decode cX12_draw 24 = .ok (.bipush 8, 2) := by decide +kernel
theorem dX12_draw_26 : decode cX12_draw 26 = .ok (.idiv, 1) := by decide +kernel
theorem dX12_draw_27 : decode cX12_draw 27 = .ok (.iload_n 1, 1) := by decide +kernel
theorem dX12_draw_28 : decode cX12_draw 28 = .ok (.irem, 1) := by decide +kernel
theorem dX12_draw_29 : decode cX12_draw 29 = .ok (.ireturn, 1) := by decide +kernel
theorem dX12_empty_0 : decode cX12_empty 0 = .ok (.iconst 0, 1) := by decide +kernel
theorem dX12_empty_1 : decode cX12_empty 1 = .ok (.istore_n 2, 1) := by decide +kernel
theorem dX12_empty_2 : decode cX12_empty 2 = .ok (.iload_n 2, 1) := by decide +kernel
theorem dX12_empty_3 : decode cX12_empty 3 = .ok (.sipush 180, 3) := by decide +kernel
theorem dX12_empty_6 : decode cX12_empty 6 = .ok (.if_icmp .ge 18, 3) := by decide +kernel
theorem dX12_empty_9 : decode cX12_empty 9 = .ok (.aload_n 0, 1) := by decide +kernel
theorem dX12_empty_10 : decode cX12_empty 10 = .ok (.getfield 35, 3) := by decide +kernel
theorem dX12_empty_13 : decode cX12_empty 13 = .ok (.iload_n 1, 1) := by decide +kernel
theorem dX12_empty_14 : decode cX12_empty 14 = .ok (.iload_n 2, 1) := by decide +kernel
theorem dX12_empty_15 : decode cX12_empty 15 = .ok (.iadd, 1) := by decide +kernel
theorem dX12_empty_16 : decode cX12_empty 16 = .ok (.iconst 0, 1) := by decide +kernel
theorem dX12_empty_17 : decode cX12_empty 17 = .ok (.iastore, 1) := by decide +kernel
theorem dX12_empty_18 : decode cX12_empty 18 = .ok (.iinc 2 1, 3) := by decide +kernel
theorem dX12_empty_21 : decode cX12_empty 21 = .ok (.goto (-19), 3) := by decide +kernel
theorem dX12_empty_24 : decode cX12_empty 24 = .ok (.aload_n 0, 1) := by decide +kernel
theorem dX12_empty_25 : decode cX12_empty 25 = .ok (.getfield 35, 3) := by decide +kernel
theorem dX12_empty_28 : decode cX12_empty 28 = .ok (.iload_n 1, 1) := by decide +kernel
theorem dX12_empty_29 : decode cX12_empty 29 = .ok (.iconst 5, 1) := by decide +kernel
theorem dX12_empty_30 : decode cX12_empty 30 = .ok (.iadd, 1) := by decide +kernel
theorem dX12_empty_31 : decode cX12_empty 31 = .ok (.iconst 1, 1) := by decide +kernel
theorem dX12_empty_32 : decode cX12_empty 32 = .ok (.iastore, 1) := by decide +kernel
theorem dX12_empty_33 : decode cX12_empty 33 = .ok (.aload_n 0, 1) := by decide +kernel
theorem dX12_empty_34 : decode cX12_empty 34 = .ok (.getfield 35, 3) := by decide +kernel
theorem dX12_empty_37 : decode cX12_empty 37 = .ok (.iload_n 1, 1) := by decide +kernel
theorem dX12_empty_38 : decode cX12_empty 38 = .ok (.bipush 6, 2) := by decide +kernel
theorem dX12_empty_40 : decode cX12_empty 40 = .ok (.iadd, 1) := by decide +kernel
theorem dX12_empty_41 : decode cX12_empty 41 = .ok (.iconst 4, 1) := by decide +kernel
theorem dX12_empty_42 : decode cX12_empty 42 = .ok (.iastore, 1) := by decide +kernel
theorem dX12_empty_43 : decode cX12_empty 43 = .ok (.aload_n 0, 1) := by decide +kernel
theorem dX12_empty_44 : decode cX12_empty 44 = .ok (.getfield 35, 3) := by decide +kernel
theorem dX12_empty_47 : decode cX12_empty 47 = .ok (.iload_n 1, 1) := by decide +kernel
theorem dX12_empty_48 : decode cX12_empty 48 = .ok (.bipush 7, 2) := by decide +kernel
theorem dX12_empty_50 : decode cX12_empty 50 = .ok (.iadd, 1) := by decide +kernel
theorem dX12_empty_51 : decode cX12_empty 51 = .ok (.iconst 1, 1) := by decide +kernel
theorem dX12_empty_52 : decode cX12_empty 52 = .ok (.iastore, 1) := by decide +kernel
theorem dX12_empty_53 : decode cX12_empty 53 = .ok (.aload_n 0, 1) := by decide +kernel
theorem dX12_empty_54 : decode cX12_empty 54 = .ok (.getfield 35, 3) := by decide +kernel
theorem dX12_empty_57 : decode cX12_empty 57 = .ok (.iload_n 1, 1) := by decide +kernel
theorem dX12_empty_58 : decode cX12_empty 58 = .ok (.bipush 8, 2) := by decide +kernel
theorem dX12_empty_60 : decode cX12_empty 60 = .ok (.iadd, 1) := by decide +kernel
theorem dX12_empty_61 : decode cX12_empty 61 = .ok (.bipush 9, 2) := by decide +kernel
theorem dX12_empty_63 : decode cX12_empty 63 = .ok (.iastore, 1) := by decide +kernel
theorem dX12_empty_64 : decode cX12_empty 64 = .ok (.aload_n 0, 1) := by decide +kernel
theorem dX12_empty_65 : decode cX12_empty 65 = .ok (.getfield 35, 3) := by decide +kernel
theorem dX12_empty_68 : decode cX12_empty 68 = .ok (.iload_n 1, 1) := by decide +kernel
theorem dX12_empty_69 : decode cX12_empty 69 = .ok (.bipush 9, 2) := by decide +kernel
theorem dX12_empty_71 : decode cX12_empty 71 = .ok (.iadd, 1) := by decide +kernel
theorem dX12_empty_72 : decode cX12_empty 72 = .ok (.bipush 8, 2) := by decide +kernel
theorem dX12_empty_74 : decode cX12_empty 74 = .ok (.iastore, 1) := by decide +kernel
theorem dX12_empty_75 : decode cX12_empty 75 = .ok (.aload_n 0, 1) := by decide +kernel
theorem dX12_empty_76 : decode cX12_empty 76 = .ok (.getfield 35, 3) := by decide +kernel
theorem dX12_empty_79 : decode cX12_empty 79 = .ok (.iload_n 1, 1) := by decide +kernel
theorem dX12_empty_80 : decode cX12_empty 80 = .ok (.bipush 10, 2) := by decide +kernel
theorem dX12_empty_82 : decode cX12_empty 82 = .ok (.iadd, 1) := by decide +kernel
theorem dX12_empty_83 : decode cX12_empty 83 = .ok (.iconst (-1), 1) := by decide +kernel
theorem dX12_empty_84 : decode cX12_empty 84 = .ok (.iastore, 1) := by decide +kernel
theorem dX12_empty_85 : decode cX12_empty 85 = .ok (.return_, 1) := by decide +kernel
theorem dX12_fail_0 : decode cX12_fail 0 = .ok (.aload_n 0, 1) := by decide +kernel
theorem dX12_fail_1 : decode cX12_fail 1 = .ok (.getfield 174, 3) := by decide +kernel
theorem dX12_fail_4 : decode cX12_fail 4 = .ok (.ifCond .le 4, 3) := by decide +kernel
theorem dX12_fail_7 : decode cX12_fail 7 = .ok (.return_, 1) := by decide +kernel
theorem dX12_fail_8 : decode cX12_fail 8 = .ok (.aload_n 0, 1) := by decide +kernel
theorem dX12_fail_9 : decode cX12_fail 9 = .ok (.iload_n 1, 1) := by decide +kernel
theorem dX12_fail_10 : decode cX12_fail 10 = .ok (.putfield 174, 3) := by decide +kernel
theorem dX12_fail_13 : decode cX12_fail 13 = .ok (.aload_n 0, 1) := by decide +kernel
theorem dX12_fail_14 : decode cX12_fail 14 = .ok (.iload_n 2, 1) := by decide +kernel
theorem dX12_fail_15 : decode cX12_fail 15 = .ok (.putfield 177, 3) := by decide +kernel
theorem dX12_fail_18 : decode cX12_fail 18 = .ok (.return_, 1) := by decide +kernel
theorem dX12_fault_0 : decode cX12_fault 0 = .ok (.aload_n 0, 1) := by decide +kernel
theorem dX12_fault_1 : decode cX12_fault 1 = .ok (.iconst 0, 1) := by decide +kernel
theorem dX12_fault_2 : decode cX12_fault 2 = .ok (.putfield 82, 3) := by decide +kernel
theorem dX12_fault_5 : decode cX12_fault 5 = .ok (.iload_n 1, 1) := by decide +kernel
theorem dX12_fault_6 : decode cX12_fault 6 = .ok (.ifCond .ne 10, 3) := by decide +kernel
theorem dX12_fault_9 : decode cX12_fault 9 = .ok (.aload_n 0, 1) := by decide +kernel
theorem dX12_fault_10 : decode cX12_fault 10 = .ok (.getfield 28, 3) := by decide +kernel
theorem dX12_fault_13 : decode cX12_fault 13 = .ok (.goto 16, 3) := by decide +kernel
theorem dX12_fault_16 : decode cX12_fault 16 = .ok (.iload_n 1, 1) := by decide +kernel
theorem dX12_fault_17 : decode cX12_fault 17 = .ok (.iconst 1, 1) := by decide +kernel
theorem dX12_fault_18 : decode cX12_fault 18 = .ok (.if_icmp .ne 10, 3) := by decide +kernel
theorem dX12_fault_21 : decode cX12_fault 21 = .ok (.aload_n 0, 1) := by decide +kernel
theorem dX12_fault_22 : decode cX12_fault 22 = .ok (.getfield 32, 3) := by decide +kernel
theorem dX12_fault_25 : decode cX12_fault 25 = .ok (.goto 4, 3) := by decide +kernel
theorem dX12_fault_28 : decode cX12_fault 28 = .ok (.iconst (-1), 1) := by decide +kernel
theorem dX12_fault_29 : decode cX12_fault 29 = .ok (.ireturn, 1) := by decide +kernel
theorem dX12_feature_0 : decode cX12_feature 0 = .ok (.aload_n 0, 1) := by decide +kernel
theorem dX12_feature_1 : decode cX12_feature 1 = .ok (.iconst 0, 1) := by decide +kernel
theorem dX12_feature_2 : decode cX12_feature 2 = .ok (.putfield 82, 3) := by decide +kernel
theorem dX12_feature_5 : decode cX12_feature 5 = .ok (.aload_n 0, 1) := by decide +kernel
theorem dX12_feature_6 : decode cX12_feature 6 = .ok (.iconst 0, 1) := by decide +kernel
theorem dX12_feature_7 : decode cX12_feature 7 = .ok (.putfield 85, 3) := by decide +kernel
theorem dX12_feature_10 : decode cX12_feature 10 = .ok (.aload_n 0, 1) := by decide +kernel
theorem dX12_feature_11 : decode cX12_feature 11 = .ok (.iload_n 1, 1) := by decide +kernel
theorem dX12_feature_12 : decode cX12_feature 12 = .ok (.invokevirtual 264, 3) := by decide +kernel
theorem dX12_feature_15 : decode cX12_feature 15 = .ok (.ifCond .ne 9, 3) := by decide +kernel
theorem dX12_feature_18 : decode cX12_feature 18 = .ok (.aload_n 0, 1) := by decide +kernel
theorem dX12_feature_19 : decode cX12_feature 19 = .ok (.iconst 2, 1) := by decide +kernel
theorem dX12_feature_20 : decode cX12_feature 20 = .ok (.invokevirtual 269, 3) := by decide +kernel
theorem dX12_feature_23 : decode cX12_feature 23 = .ok (.ireturn, 1) := by decide +kernel
theorem dX12_feature_24 : decode cX12_feature 24 = .ok (.iload_n 2, 1) := by decide +kernel
theorem dX12_feature_25 : decode cX12_feature 25 = .ok (.ifCond .ne 15, 3) := by decide +kernel
theorem dX12_feature_28 : decode cX12_feature 28 = .ok (.aload_n 0, 1) := by decide +kernel
theorem dX12_feature_29 : decode cX12_feature 29 = .ok (.getfield 35, 3) := by decide +kernel
theorem dX12_feature_32 : decode cX12_feature 32 = .ok (.bipush 11, 2) := by decide +kernel
theorem dX12_feature_34 : decode cX12_feature 34 = .ok (.iload_n 1, 1) := by decide +kernel
theorem dX12_feature_35 : decode cX12_feature 35 = .ok (.iadd, 1) := by decide +kernel
theorem dX12_feature_36 : decode cX12_feature 36 = .ok (.iaload, 1) := by decide +kernel
theorem dX12_feature_37 : decode cX12_feature 37 = .ok (.goto 25, 3) := by decide +kernel
theorem dX12_feature_40 : decode cX12_feature 40 = .ok (.iload_n 2, 1) := by decide +kernel
theorem dX12_feature_41 : decode cX12_feature 41 = .ok (.iconst 1, 1) := by decide +kernel
theorem dX12_feature_42 : decode cX12_feature 42 = .ok (.if_icmp .ne 15, 3) := by decide +kernel
theorem dX12_feature_45 : decode cX12_feature 45 = .ok (.aload_n 0, 1) := by decide +kernel
theorem dX12_feature_46 : decode cX12_feature 46 = .ok (.getfield 35, 3) := by decide +kernel
theorem dX12_feature_49 : decode cX12_feature 49 = .ok (.bipush 14, 2) := by decide +kernel
theorem dX12_feature_51 : decode cX12_feature 51 = .ok (.iload_n 1, 1) := by decide +kernel
theorem dX12_feature_52 : decode cX12_feature 52 = .ok (.iadd, 1) := by decide +kernel
theorem dX12_feature_53 : decode cX12_feature 53 = .ok (.iaload, 1) := by decide +kernel
theorem dX12_feature_54 : decode cX12_feature 54 = .ok (.goto 8, 3) := by decide +kernel
theorem dX12_feature_57 : decode cX12_feature 57 = .ok (.aload_n 0, 1) := by decide +kernel
theorem dX12_feature_58 : decode cX12_feature 58 = .ok (.iconst 5, 1) := by decide +kernel
theorem dX12_feature_59 : decode cX12_feature 59 = .ok (.invokevirtual 269, 3) := by decide +kernel
theorem dX12_feature_62 : decode cX12_feature 62 = .ok (.ireturn, 1) := by decide +kernel
theorem dX12_feed_0 : decode cX12_feed 0 = .ok (.aload_n 0, 1) := by decide +kernel
theorem dX12_feed_1 : decode cX12_feed 1 = .ok (.iconst 0, 1) := by decide +kernel
theorem dX12_feed_2 : decode cX12_feed 2 = .ok (.putfield 82, 3) := by decide +kernel
theorem dX12_feed_5 : decode cX12_feed 5 = .ok (.aload_n 0, 1) := by decide +kernel
theorem dX12_feed_6 : decode cX12_feed 6 = .ok (.getfield 190, 3) := by decide +kernel
theorem dX12_feed_9 : decode cX12_feed 9 = .ok (.bipush 20, 2) := by decide +kernel
theorem dX12_feed_11 : decode cX12_feed 11 = .ok (.iadd, 1) := by decide +kernel
theorem dX12_feed_12 : decode cX12_feed 12 = .ok (.sipush 900, 3) := by decide +kernel
theorem dX12_feed_15 : decode cX12_feed 15 = .ok (.if_icmp .le 5, 3) := by decide +kernel
theorem dX12_feed_18 : decode cX12_feed 18 = .ok (.iconst (-1), 1) := by decide +kernel
theorem dX12_feed_19 : decode cX12_feed 19 = .ok (.ireturn, 1) := by decide +kernel
theorem dX12_feed_20 : decode cX12_feed 20 = .ok (.aload_n 0, 1) := by decide +kernel
theorem dX12_feed_21 : decode cX12_feed 21 = .ok (.iload_n 1, 1) := by decide +kernel
theorem dX12_feed_22 : decode cX12_feed 22 = .ok (.invokevirtual 193, 3) := by decide +kernel
theorem dX12_feed_25 : decode cX12_feed 25 = .ok (.aload_n 0, 1) := by decide +kernel
theorem dX12_feed_26 : decode cX12_feed 26 = .ok (.iload_n 2, 1) := by decide +kernel
theorem dX12_feed_27 : decode cX12_feed 27 = .ok (.invokevirtual 193, 3) := by decide +kernel
theorem dX12_feed_30 : decode cX12_feed 30 = .ok (.aload_n 0, 1) := by decide +kernel
theorem dX12_feed_31 : decode cX12_feed 31 = .ok (.iload_n 3, 1) := by decide +kernel
theorem dX12_feed_32 : decode cX12_feed 32 = .ok (.invokevirtual 193, 3) := by decide +kernel
theorem dX12_feed_35 : decode cX12_feed 35 = .ok (.aload_n 0, 1) := by decide +kernel
theorem dX12_feed_36 : decode cX12_feed 36 = .ok (.iload 4, 2) := by decide +kernel
theorem dX12_feed_38 : decode cX12_feed 38 = .ok (.invokevirtual 193, 3) := by decide +kernel
theorem dX12_feed_41 : decode cX12_feed 41 = .ok (.aload_n 0, 1) := by decide +kernel
theorem dX12_feed_42 : decode cX12_feed 42 = .ok (.iload 5, 2) := by decide +kernel
theorem dX12_feed_44 : decode cX12_feed 44 = .ok (.invokevirtual 193, 3) := by decide +kernel
theorem dX12_feed_47 : decode cX12_feed 47 = .ok (.aload_n 0, 1) := by decide +kernel
theorem dX12_feed_48 : decode cX12_feed 48 = .ok (.getfield 190, 3) := by decide +kernel
theorem dX12_feed_51 : decode cX12_feed 51 = .ok (.ireturn, 1) := by decide +kernel
theorem dX12_feel_0 : decode cX12_feel 0 = .ok (.aload_n 0, 1) := by decide +kernel
theorem dX12_feel_1 : decode cX12_feel 1 = .ok (.iconst 0, 1) := by decide +kernel
theorem dX12_feel_2 : decode cX12_feel 2 = .ok (.putfield 82, 3) := by decide +kernel
theorem dX12_feel_5 : decode cX12_feel 5 = .ok (.aload_n 0, 1) := by decide +kernel
theorem dX12_feel_6 : decode cX12_feel 6 = .ok (.iconst 0, 1) := by decide +kernel
theorem dX12_feel_7 : decode cX12_feel 7 = .ok (.putfield 85, 3) := by decide +kernel
theorem dX12_feel_10 : decode cX12_feel 10 = .ok (.aload_n 0, 1) := by decide +kernel
theorem dX12_feel_11 : decode cX12_feel 11 = .ok (.iload_n 1, 1) := by decide +kernel
theorem dX12_feel_12 : decode cX12_feel 12 = .ok (.iload_n 2, 1) := by decide +kernel
theorem dX12_feel_13 : decode cX12_feel 13 = .ok (.invokevirtual 272, 3) := by decide +kernel
theorem dX12_feel_16 : decode cX12_feel 16 = .ok (.ifCond .ne 9, 3) := by decide +kernel
theorem dX12_feel_19 : decode cX12_feel 19 = .ok (.aload_n 0, 1) := by decide +kernel
theorem dX12_feel_20 : decode cX12_feel 20 = .ok (.iconst 2, 1) := by decide +kernel
theorem dX12_feel_21 : decode cX12_feel 21 = .ok (.invokevirtual 97, 3) := by decide +kernel
theorem dX12_feel_24 : decode cX12_feel 24 = .ok (.ireturn, 1) := by decide +kernel
theorem dX12_feel_25 : decode cX12_feel 25 = .ok (.aload_n 0, 1) := by decide +kernel
theorem dX12_feel_26 : decode cX12_feel 26 = .ok (.invokevirtual 323, 3) := by decide +kernel
theorem dX12_feel_29 : decode cX12_feel 29 = .ok (.ifCond .ne 10, 3) := by decide +kernel
theorem dX12_feel_32 : decode cX12_feel 32 = .ok (.aload_n 0, 1) := by decide +kernel
theorem dX12_feel_33 : decode cX12_feel 33 = .ok (.bipush 8, 2) := by decide +kernel
theorem dX12_feel_35 : decode cX12_feel 35 = .ok (.invokevirtual 97, 3) := by decide +kernel
theorem dX12_feel_38 : decode cX12_feel 38 = .ok (.ireturn, 1) := by decide +kernel
theorem dX12_feel_39 : decode cX12_feel 39 = .ok (.aload_n 0, 1) := by decide +kernel
theorem dX12_feel_40 : decode cX12_feel 40 = .ok (.iload_n 1, 1) := by decide +kernel
theorem dX12_feel_41 : decode cX12_feel 41 = .ok (.iload_n 2, 1) := by decide +kernel
theorem dX12_feel_42 : decode cX12_feel 42 = .ok (.invokevirtual 333, 3) := by decide +kernel
theorem dX12_feel_45 : decode cX12_feel 45 = .ok (.ifCond .ne 12, 3) := by decide +kernel
theorem dX12_feel_48 : decode cX12_feel 48 = .ok (.aload_n 0, 1) := by decide +kernel
theorem dX12_feel_49 : decode cX12_feel 49 = .ok (.bipush 9, 2) := by decide +kernel
theorem dX12_feel_51 : decode cX12_feel 51 = .ok (.invokevirtual 97, 3) := by decide +kernel
theorem dX12_feel_54 : decode cX12_feel 54 = .ok (.ifCond .eq 7, 3) := by decide +kernel
theorem dX12_feel_57 : decode cX12_feel 57 = .ok (.iconst 1, 1) := by decide +kernel
theorem dX12_feel_58 : decode cX12_feel 58 = .ok (.goto 4, 3) := by decide +kernel
theorem dX12_feel_61 : decode cX12_feel 61 = .ok (.iconst 0, 1) := by decide +kernel
theorem dX12_feel_62 : decode cX12_feel 62 = .ok (.ireturn, 1) := by decide +kernel
theorem dX12_feelAs_0 : decode cX12_feelAs 0 = .ok (.iconst 0, 1) := by decide +kernel
theorem dX12_feelAs_1 : decode cX12_feelAs 1 = .ok (.istore_n 3, 1) := by decide +kernel
theorem dX12_feelAs_2 : decode cX12_feelAs 2 = .ok (.iload_n 3, 1) := by decide +kernel
theorem dX12_feelAs_3 : decode cX12_feelAs 3 = .ok (.iconst 2, 1) := by decide +kernel
theorem dX12_feelAs_4 : decode cX12_feelAs 4 = .ok (.aload_n 0, 1) := by decide +kernel
theorem dX12_feelAs_5 : decode cX12_feelAs 5 = .ok (.getfield 286, 3) := by decide +kernel
theorem dX12_feelAs_8 : decode cX12_feelAs 8 = .ok (.imul, 1) := by decide +kernel
theorem dX12_feelAs_9 : decode cX12_feelAs 9 = .ok (.if_icmp .ge 45, 3) := by decide +kernel
theorem dX12_feelAs_12 : decode cX12_feelAs 12 = .ok (.aload_n 0, 1) := by decide +kernel
theorem dX12_feelAs_13 : decode cX12_feelAs 13 = .ok (.getfield 56, 3) := by decide +kernel
theorem dX12_feelAs_16 : decode cX12_feelAs 16 = .ok (.iload_n 3, 1) := by decide +kernel
theorem dX12_feelAs_17 : decode cX12_feelAs 17 = .ok (.aload_n 0, 1) := by decide +kernel
theorem dX12_feelAs_18 : decode cX12_feelAs 18 = .ok (.getfield 35, 3) := by decide +kernel
theorem dX12_feelAs_21 : decode cX12_feelAs 21 = .ok (.sipush 160, 3) := by decide +kernel
theorem dX12_feelAs_24 : decode cX12_feelAs 24 = .ok (.iload_n 3, 1) := by decide +kernel
theorem dX12_feelAs_25 : decode cX12_feelAs 25 = .ok (.iadd, 1) := by decide +kernel
theorem dX12_feelAs_26 : decode cX12_feelAs 26 = .ok (.iaload, 1) := by decide +kernel
theorem dX12_feelAs_27 : decode cX12_feelAs 27 = .ok (.i2l, 1) := by decide +kernel
theorem dX12_feelAs_28 : decode cX12_feelAs 28 = .ok (.aload_n 0, 1) := by decide +kernel
theorem dX12_feelAs_29 : decode cX12_feelAs 29 = .ok (.aload_n 0, 1) := by decide +kernel
theorem dX12_feelAs_30 : decode cX12_feelAs 30 = .ok (.getfield 41, 3) := by decide +kernel
theorem dX12_feelAs_33 : decode cX12_feelAs 33 = .ok (.iload_n 3, 1) := by decide +kernel
theorem dX12_feelAs_34 : decode cX12_feelAs 34 = .ok (.iconst 2, 1) := by decide +kernel
theorem dX12_feelAs_35 : decode cX12_feelAs 35 = .ok (.idiv, 1) := by decide +kernel
theorem dX12_feelAs_36 : decode cX12_feelAs 36 = .ok (.iaload, 1) := by decide +kernel
theorem dX12_feelAs_37 : decode cX12_feelAs 37 = .ok (.iload_n 1, 1) := by decide +kernel
theorem dX12_feelAs_38 : decode cX12_feelAs 38 = .ok (.iload_n 3, 1) := by decide +kernel
theorem dX12_feelAs_39 : decode cX12_feelAs 39 = .ok (.iconst 2, 1) := by decide +kernel
theorem dX12_feelAs_40 : decode cX12_feelAs 40 = .ok (.irem, 1) := by decide +kernel
theorem dX12_feelAs_41 : decode cX12_feelAs 41 = .ok (.iload_n 2, 1) := by decide +kernel
theorem dX12_feelAs_42 : decode cX12_feelAs 42 = .ok (.invokevirtual 329, 3) := by decide +kernel
theorem dX12_feelAs_45 : decode cX12_feelAs 45 = .ok (.i2l, 1) := by decide +kernel
theorem dX12_feelAs_46 : decode cX12_feelAs 46 = .ok (.lmul, 1) := by decide +kernel
theorem dX12_feelAs_47 : decode cX12_feelAs 47 = .ok (.lastore, 1) := by decide +kernel
theorem dX12_feelAs_48 : decode cX12_feelAs 48 = .ok (.iinc 3 1, 3) := by decide +kernel
theorem dX12_feelAs_51 : decode cX12_feelAs 51 = .ok (.goto (-49), 3) := by decide +kernel
theorem dX12_feelAs_54 : decode cX12_feelAs 54 = .ok (.aload_n 0, 1) := by decide +kernel
theorem dX12_feelAs_55 : decode cX12_feelAs 55 = .ok (.invokevirtual 317, 3) := by decide +kernel
theorem dX12_feelAs_58 : decode cX12_feelAs 58 = .ok (.ireturn, 1) := by decide +kernel
theorem dX12_feels_0 : decode cX12_feels 0 = .ok (.aload_n 0, 1) := by decide +kernel
theorem dX12_feels_1 : decode cX12_feels 1 = .ok (.iconst 0, 1) := by decide +kernel
theorem dX12_feels_2 : decode cX12_feels 2 = .ok (.putfield 82, 3) := by decide +kernel
theorem dX12_feels_5 : decode cX12_feels 5 = .ok (.aload_n 0, 1) := by decide +kernel
theorem dX12_feels_6 : decode cX12_feels 6 = .ok (.iconst 0, 1) := by decide +kernel
theorem dX12_feels_7 : decode cX12_feels 7 = .ok (.putfield 85, 3) := by decide +kernel
theorem dX12_feels_10 : decode cX12_feels 10 = .ok (.aload_n 0, 1) := by decide +kernel
theorem dX12_feels_11 : decode cX12_feels 11 = .ok (.iload_n 1, 1) := by decide +kernel
theorem dX12_feels_12 : decode cX12_feels 12 = .ok (.iload_n 2, 1) := by decide +kernel
theorem dX12_feels_13 : decode cX12_feels 13 = .ok (.invokevirtual 272, 3) := by decide +kernel
theorem dX12_feels_16 : decode cX12_feels 16 = .ok (.ifCond .eq 33, 3) := by decide +kernel
theorem dX12_feels_19 : decode cX12_feels 19 = .ok (.aload_n 0, 1) := by decide +kernel
theorem dX12_feels_20 : decode cX12_feels 20 = .ok (.iload_n 1, 1) := by decide +kernel
theorem dX12_feels_21 : decode cX12_feels 21 = .ok (.iload_n 3, 1) := by decide +kernel
theorem dX12_feels_22 : decode cX12_feels 22 = .ok (.invokevirtual 272, 3) := by decide +kernel
theorem dX12_feels_25 : decode cX12_feels 25 = .ok (.ifCond .eq 24, 3) := by decide +kernel
theorem dX12_feels_28 : decode cX12_feels 28 = .ok (.aload_n 0, 1) := by decide +kernel
theorem dX12_feels_29 : decode cX12_feels 29 = .ok (.getfield 35, 3) := by decide +kernel
theorem dX12_feels_32 : decode cX12_feels 32 = .ok (.bipush 17, 2) := by decide +kernel
theorem dX12_feels_34 : decode cX12_feels 34 = .ok (.bipush 16, 2) := by decide +kernel
theorem dX12_feels_36 : decode cX12_feels 36 = .ok (.iload_n 1, 1) := by decide +kernel
theorem dX12_feels_37 : decode cX12_feels 37 = .ok (.imul, 1) := by decide +kernel
theorem dX12_feels_38 : decode cX12_feels 38 = .ok (.iadd, 1) := by decide +kernel
theorem dX12_feels_39 : decode cX12_feels 39 = .ok (.iconst 4, 1) := by decide +kernel
theorem dX12_feels_40 : decode cX12_feels 40 = .ok (.iload_n 2, 1) := by decide +kernel
theorem dX12_feels_41 : decode cX12_feels 41 = .ok (.imul, 1) := by decide +kernel
theorem dX12_feels_42 : decode cX12_feels 42 = .ok (.iadd, 1) := by decide +kernel
theorem dX12_feels_43 : decode cX12_feels 43 = .ok (.iload_n 3, 1) := by decide +kernel
theorem dX12_feels_44 : decode cX12_feels 44 = .ok (.iadd, 1) := by decide +kernel
theorem dX12_feels_45 : decode cX12_feels 45 = .ok (.iaload, 1) := by decide +kernel
theorem dX12_feels_46 : decode cX12_feels 46 = .ok (.goto 8, 3) := by decide +kernel
theorem dX12_feels_49 : decode cX12_feels 49 = .ok (.aload_n 0, 1) := by decide +kernel
theorem dX12_feels_50 : decode cX12_feels 50 = .ok (.iconst 2, 1) := by decide +kernel
theorem dX12_feels_51 : decode cX12_feels 51 = .ok (.invokevirtual 269, 3) := by decide +kernel
theorem dX12_feels_54 : decode cX12_feels 54 = .ok (.ireturn, 1) := by decide +kernel
theorem dX12_felt_0 : decode cX12_felt 0 = .ok (.aload_n 0, 1) := by decide +kernel
theorem dX12_felt_1 : decode cX12_felt 1 = .ok (.getfield 35, 3) := by decide +kernel
theorem dX12_felt_4 : decode cX12_felt 4 = .ok (.bipush 17, 2) := by decide +kernel
theorem dX12_felt_6 : decode cX12_felt 6 = .ok (.bipush 16, 2) := by decide +kernel
theorem dX12_felt_8 : decode cX12_felt 8 = .ok (.iload_n 2, 1) := by decide +kernel
theorem dX12_felt_9 : decode cX12_felt 9 = .ok (.imul, 1) := by decide +kernel
theorem dX12_felt_10 : decode cX12_felt 10 = .ok (.iadd, 1) := by decide +kernel
theorem dX12_felt_11 : decode cX12_felt 11 = .ok (.iconst 4, 1) := by decide +kernel
theorem dX12_felt_12 : decode cX12_felt 12 = .ok (.aload_n 0, 1) := by decide +kernel
theorem dX12_felt_13 : decode cX12_felt 13 = .ok (.iload_n 1, 1) := by decide +kernel
theorem dX12_felt_14 : decode cX12_felt 14 = .ok (.iload_n 2, 1) := by decide +kernel
theorem dX12_felt_15 : decode cX12_felt 15 = .ok (.iload_n 3, 1) := by decide +kernel
theorem dX12_felt_16 : decode cX12_felt 16 = .ok (.invokevirtual 326, 3) := by decide +kernel
theorem dX12_felt_19 : decode cX12_felt 19 = .ok (.imul, 1) := by decide +kernel
theorem dX12_felt_20 : decode cX12_felt 20 = .ok (.iadd, 1) := by decide +kernel
theorem dX12_felt_21 : decode cX12_felt 21 = .ok (.iload 4, 2) := by decide +kernel
theorem dX12_felt_23 : decode cX12_felt 23 = .ok (.iadd, 1) := by decide +kernel
theorem dX12_felt_24 : decode cX12_felt 24 = .ok (.iaload, 1) := by decide +kernel
theorem dX12_felt_25 : decode cX12_felt 25 = .ok (.ireturn, 1) := by decide +kernel
theorem dX12_feltWorth_0 : decode cX12_feltWorth 0 = .ok (.lconst 0, 1) := by decide +kernel
theorem dX12_feltWorth_1 : decode cX12_feltWorth 1 = .ok (.lstore 5, 2) := by decide +kernel
theorem dX12_feltWorth_3 : decode cX12_feltWorth 3 = .ok (.iconst 0, 1) := by decide +kernel
theorem dX12_feltWorth_4 : decode cX12_feltWorth 4 = .ok (.istore 7, 2) := by decide +kernel
theorem dX12_feltWorth_6 : decode cX12_feltWorth 6 = .ok (.iload 7, 2) := by decide +kernel
theorem dX12_feltWorth_8 : decode cX12_feltWorth 8 = .ok (.aload_n 0, 1) := by decide +kernel
theorem dX12_feltWorth_9 : decode cX12_feltWorth 9 = .ok (.getfield 35, 3) := by decide +kernel
theorem dX12_feltWorth_12 : decode cX12_feltWorth 12 = .ok (.bipush 11, 2) := by decide +kernel
theorem dX12_feltWorth_14 : decode cX12_feltWorth 14 = .ok (.iload 4, 2) := by decide +kernel
theorem dX12_feltWorth_16 : decode cX12_feltWorth 16 = .ok (.iadd, 1) := by decide +kernel
theorem dX12_feltWorth_17 : decode cX12_feltWorth 17 = .ok (.iaload, 1) := by decide +kernel
theorem dX12_feltWorth_18 : decode cX12_feltWorth 18 = .ok (.if_icmp .ge 95, 3) := by decide +kernel
theorem dX12_feltWorth_21 : decode cX12_feltWorth 21 = .ok (.iconst 0, 1) := by decide +kernel
theorem dX12_feltWorth_22 : decode cX12_feltWorth 22 = .ok (.istore 8, 2) := by decide +kernel
theorem dX12_feltWorth_24 : decode cX12_feltWorth 24 = .ok (.iload 8, 2) := by decide +kernel
theorem dX12_feltWorth_26 : decode cX12_feltWorth 26 = .ok (.iconst 2, 1) := by decide +kernel
theorem dX12_feltWorth_27 : decode cX12_feltWorth 27 = .ok (.aload_n 0, 1) := by decide +kernel
theorem dX12_feltWorth_28 : decode cX12_feltWorth 28 = .ok (.getfield 286, 3) := by decide +kernel
theorem dX12_feltWorth_31 : decode cX12_feltWorth 31 = .ok (.imul, 1) := by decide +kernel
theorem dX12_feltWorth_32 : decode cX12_feltWorth 32 = .ok (.if_icmp .ge 59, 3) := by decide +kernel
theorem dX12_feltWorth_35 : decode cX12_feltWorth 35 = .ok (.aload_n 0, 1) := by decide +kernel
theorem dX12_feltWorth_36 : decode cX12_feltWorth 36 = .ok (.getfield 53, 3) := by decide +kernel
theorem dX12_feltWorth_39 : decode cX12_feltWorth 39 = .ok (.bipush 20, 2) := by decide +kernel
theorem dX12_feltWorth_41 : decode cX12_feltWorth 41 = .ok (.iload_n 1, 1) := by decide +kernel
theorem dX12_feltWorth_42 : decode cX12_feltWorth 42 = .ok (.imul, 1) := by decide +kernel
theorem dX12_feltWorth_43 : decode cX12_feltWorth 43 = .ok (.bipush 20, 2) := by decide +kernel
theorem dX12_feltWorth_45 : decode cX12_feltWorth 45 = .ok (.iadd, 1) := by decide +kernel
theorem dX12_feltWorth_46 : decode cX12_feltWorth 46 = .ok (.iload 8, 2) := by decide +kernel
theorem dX12_feltWorth_48 : decode cX12_feltWorth 48 = .ok (.iadd, 1) := by decide +kernel
theorem dX12_feltWorth_49 : decode cX12_feltWorth 49 = .ok (.aload_n 0, 1) := by decide +kernel
theorem dX12_feltWorth_50 : decode cX12_feltWorth 50 = .ok (.getfield 53, 3) := by decide +kernel
theorem dX12_feltWorth_53 : decode cX12_feltWorth 53 = .ok (.bipush 20, 2) := by decide +kernel
theorem dX12_feltWorth_55 : decode cX12_feltWorth 55 = .ok (.iload_n 1, 1) := by decide +kernel
theorem dX12_feltWorth_56 : decode cX12_feltWorth 56 = .ok (.imul, 1) := by decide +kernel
theorem dX12_feltWorth_57 : decode cX12_feltWorth 57 = .ok (.iload 8, 2) := by decide +kernel
theorem dX12_feltWorth_59 : decode cX12_feltWorth 59 = .ok (.iadd, 1) := by decide +kernel
theorem dX12_feltWorth_60 : decode cX12_feltWorth 60 = .ok (.laload, 1) := by decide +kernel
theorem dX12_feltWorth_61 : decode cX12_feltWorth 61 = .ok (.aload_n 0, 1) := by decide +kernel
theorem dX12_feltWorth_62 : decode cX12_feltWorth 62 = .ok (.aload_n 0, 1) := by decide +kernel
theorem dX12_feltWorth_63 : decode cX12_feltWorth 63 = .ok (.getfield 41, 3) := by decide +kernel
theorem dX12_feltWorth_66 : decode cX12_feltWorth 66 = .ok (.iload 8, 2) := by decide +kernel
theorem dX12_feltWorth_68 : decode cX12_feltWorth 68 = .ok (.iconst 2, 1) := by decide +kernel
theorem dX12_feltWorth_69 : decode cX12_feltWorth 69 = .ok (.idiv, 1) := by decide +kernel
theorem dX12_feltWorth_70 : decode cX12_feltWorth 70 = .ok (.iaload, 1) := by decide +kernel
theorem dX12_feltWorth_71 : decode cX12_feltWorth 71 = .ok (.iload 4, 2) := by decide +kernel
theorem dX12_feltWorth_73 : decode cX12_feltWorth 73 = .ok (.iload 8, 2) := by decide +kernel
theorem dX12_feltWorth_75 : decode cX12_feltWorth 75 = .ok (.iconst 2, 1) := by decide +kernel
theorem dX12_feltWorth_76 : decode cX12_feltWorth 76 = .ok (.irem, 1) := by decide +kernel
theorem dX12_feltWorth_77 : decode cX12_feltWorth 77 = .ok (.iload 7, 2) := by decide +kernel
theorem dX12_feltWorth_79 : decode cX12_feltWorth 79 = .ok (.invokevirtual 329, 3) := by decide +kernel
theorem dX12_feltWorth_82 : decode cX12_feltWorth 82 = .ok (.i2l, 1) := by decide +kernel
theorem dX12_feltWorth_83 : decode cX12_feltWorth 83 = .ok (.lmul, 1) := by decide +kernel
theorem dX12_feltWorth_84 : decode cX12_feltWorth 84 = .ok (.lastore, 1) := by decide +kernel
theorem dX12_feltWorth_85 : decode cX12_feltWorth 85 = .ok (.iinc 8 1, 3) := by decide +kernel
theorem dX12_feltWorth_88 : decode cX12_feltWorth 88 = .ok (.goto (-64), 3) := by decide +kernel
theorem dX12_feltWorth_91 : decode cX12_feltWorth 91 = .ok (.lload 5, 2) := by decide +kernel
theorem dX12_feltWorth_93 : decode cX12_feltWorth 93 = .ok (.aload_n 0, 1) := by decide +kernel
theorem dX12_feltWorth_94 : decode cX12_feltWorth 94 = .ok (.iload_n 1, 1) := by decide +kernel
theorem dX12_feltWorth_95 : decode cX12_feltWorth 95 = .ok (.iconst 1, 1) := by decide +kernel
theorem dX12_feltWorth_96 : decode cX12_feltWorth 96 = .ok (.iadd, 1) := by decide +kernel
theorem dX12_feltWorth_97 : decode cX12_feltWorth 97 = .ok (.iload_n 2, 1) := by decide +kernel
theorem dX12_feltWorth_98 : decode cX12_feltWorth 98 = .ok (.iconst 1, 1) := by decide +kernel
theorem dX12_feltWorth_99 : decode cX12_feltWorth 99 = .ok (.isub, 1) := by decide +kernel
theorem dX12_feltWorth_100 : decode cX12_feltWorth 100 = .ok (.iload_n 3, 1) := by decide +kernel
theorem dX12_feltWorth_101 : decode cX12_feltWorth 101 = .ok (.invokevirtual 379, 3) := by decide +kernel
theorem dX12_feltWorth_104 : decode cX12_feltWorth 104 = .ok (.ladd, 1) := by decide +kernel
theorem dX12_feltWorth_105 : decode cX12_feltWorth 105 = .ok (.lstore 5, 2) := by decide +kernel
theorem dX12_feltWorth_107 : decode cX12_feltWorth 107 = .ok (.iinc 7 1, 3) := by decide +kernel
theorem dX12_feltWorth_110 : decode cX12_feltWorth 110 = .ok (.goto (-104), 3) := by decide +kernel
theorem dX12_feltWorth_113 : decode cX12_feltWorth 113 = .ok (.lload 5, 2) := by decide +kernel
theorem dX12_feltWorth_115 : decode cX12_feltWorth 115 = .ok (.lreturn, 1) := by decide +kernel
theorem dX12_filed_0 : decode cX12_filed 0 = .ok (.aload_n 0, 1) := by decide +kernel
theorem dX12_filed_1 : decode cX12_filed 1 = .ok (.iconst 0, 1) := by decide +kernel
theorem dX12_filed_2 : decode cX12_filed 2 = .ok (.putfield 82, 3) := by decide +kernel
theorem dX12_filed_5 : decode cX12_filed 5 = .ok (.aload_n 0, 1) := by decide +kernel
theorem dX12_filed_6 : decode cX12_filed 6 = .ok (.iconst 0, 1) := by decide +kernel
theorem dX12_filed_7 : decode cX12_filed 7 = .ok (.putfield 85, 3) := by decide +kernel
theorem dX12_filed_10 : decode cX12_filed 10 = .ok (.aload_n 0, 1) := by decide +kernel
theorem dX12_filed_11 : decode cX12_filed 11 = .ok (.iload_n 1, 1) := by decide +kernel
theorem dX12_filed_12 : decode cX12_filed 12 = .ok (.invokevirtual 289, 3) := by decide +kernel
theorem dX12_filed_15 : decode cX12_filed 15 = .ok (.ifCond .ne 9, 3) := by decide +kernel
theorem dX12_filed_18 : decode cX12_filed 18 = .ok (.aload_n 0, 1) := by decide +kernel
theorem dX12_filed_19 : decode cX12_filed 19 = .ok (.iconst 2, 1) := by decide +kernel
theorem dX12_filed_20 : decode cX12_filed 20 = .ok (.invokevirtual 269, 3) := by decide +kernel
theorem dX12_filed_23 : decode cX12_filed 23 = .ok (.ireturn, 1) := by decide +kernel
theorem dX12_filed_24 : decode cX12_filed 24 = .ok (.iload_n 2, 1) := by decide +kernel
theorem dX12_filed_25 : decode cX12_filed 25 = .ok (.i2l, 1) := by decide +kernel
theorem dX12_filed_26 : decode cX12_filed 26 = .ok (.ldc2_w 281, 3) := by decide +kernel
theorem dX12_filed_29 : decode cX12_filed 29 = .ok (.ldc2_w 466, 3) := by decide +kernel
theorem dX12_filed_32 : decode cX12_filed 32 = .ok (.invokestatic 117, 3) := by decide +kernel
theorem dX12_filed_35 : decode cX12_filed 35 = .ok (.ifCond .ne 9, 3) := by decide +kernel
theorem dX12_filed_38 : decode cX12_filed 38 = .ok (.aload_n 0, 1) := by decide +kernel
theorem dX12_filed_39 : decode cX12_filed 39 = .ok (.iconst 5, 1) := by decide +kernel
theorem dX12_filed_40 : decode cX12_filed 40 = .ok (.invokevirtual 269, 3) := by decide +kernel
theorem dX12_filed_43 : decode cX12_filed 43 = .ok (.ireturn, 1) := by decide +kernel
theorem dX12_filed_44 : decode cX12_filed 44 = .ok (.aload_n 0, 1) := by decide +kernel
theorem dX12_filed_45 : decode cX12_filed 45 = .ok (.iload_n 1, 1) := by decide +kernel
theorem dX12_filed_46 : decode cX12_filed 46 = .ok (.invokevirtual 292, 3) := by decide +kernel
theorem dX12_filed_49 : decode cX12_filed 49 = .ok (.iconst 0, 1) := by decide +kernel
theorem dX12_filed_50 : decode cX12_filed 50 = .ok (.istore_n 3, 1) := by decide +kernel
theorem dX12_filed_51 : decode cX12_filed 51 = .ok (.iconst 0, 1) := by decide +kernel
theorem dX12_filed_52 : decode cX12_filed 52 = .ok (.istore 4, 2) := by decide +kernel
theorem dX12_filed_54 : decode cX12_filed 54 = .ok (.iload 4, 2) := by decide +kernel
theorem dX12_filed_56 : decode cX12_filed 56 = .ok (.aload_n 0, 1) := by decide +kernel
theorem dX12_filed_57 : decode cX12_filed 57 = .ok (.getfield 286, 3) := by decide +kernel
theorem dX12_filed_60 : decode cX12_filed 60 = .ok (.if_icmp .ge 109, 3) := by decide +kernel
theorem dX12_filed_63 : decode cX12_filed 63 = .ok (.iconst 0, 1) := by decide +kernel
theorem dX12_filed_64 : decode cX12_filed 64 = .ok (.istore 5, 2) := by decide +kernel
theorem dX12_filed_66 : decode cX12_filed 66 = .ok (.iconst 0, 1) := by decide +kernel
theorem dX12_filed_67 : decode cX12_filed 67 = .ok (.istore 6, 2) := by decide +kernel
theorem dX12_filed_69 : decode cX12_filed 69 = .ok (.iconst 0, 1) := by decide +kernel
theorem dX12_filed_70 : decode cX12_filed 70 = .ok (.istore 7, 2) := by decide +kernel
theorem dX12_filed_72 : decode cX12_filed 72 = .ok (.iload 7, 2) := by decide +kernel
theorem dX12_filed_74 : decode cX12_filed 74 = .ok (.aload_n 0, 1) := by decide +kernel
theorem dX12_filed_75 : decode cX12_filed 75 = .ok (.getfield 286, 3) := by decide +kernel
theorem dX12_filed_78 : decode cX12_filed 78 = .ok (.if_icmp .ge 59, 3) := by decide +kernel
theorem dX12_filed_81 : decode cX12_filed 81 = .ok (.aload_n 0, 1) := by decide +kernel
theorem dX12_filed_82 : decode cX12_filed 82 = .ok (.aload_n 0, 1) := by decide +kernel
theorem dX12_filed_83 : decode cX12_filed 83 = .ok (.getfield 41, 3) := by decide +kernel
theorem dX12_filed_86 : decode cX12_filed 86 = .ok (.iload 4, 2) := by decide +kernel
theorem dX12_filed_88 : decode cX12_filed 88 = .ok (.iaload, 1) := by decide +kernel
theorem dX12_filed_89 : decode cX12_filed 89 = .ok (.iconst 0, 1) := by decide +kernel
theorem dX12_filed_90 : decode cX12_filed 90 = .ok (.aload_n 0, 1) := by decide +kernel
theorem dX12_filed_91 : decode cX12_filed 91 = .ok (.getfield 41, 3) := by decide +kernel
theorem dX12_filed_94 : decode cX12_filed 94 = .ok (.iload 7, 2) := by decide +kernel
theorem dX12_filed_96 : decode cX12_filed 96 = .ok (.iaload, 1) := by decide +kernel
theorem dX12_filed_97 : decode cX12_filed 97 = .ok (.iconst 0, 1) := by decide +kernel
theorem dX12_filed_98 : decode cX12_filed 98 = .ok (.aload_n 0, 1) := by decide +kernel
theorem dX12_filed_99 : decode cX12_filed 99 = .ok (.invokevirtual 457, 3) := by decide +kernel
theorem dX12_filed_102 : decode cX12_filed 102 = .ok (.invokevirtual 453, 3) := by decide +kernel
theorem dX12_filed_105 : decode cX12_filed 105 = .ok (.ifCond .eq 6, 3) := by decide +kernel
theorem dX12_filed_108 : decode cX12_filed 108 = .ok (.goto 23, 3) := by decide +kernel
theorem dX12_filed_111 : decode cX12_filed 111 = .ok (.iinc 5 1, 3) := by decide +kernel
theorem dX12_filed_114 : decode cX12_filed 114 = .ok (.iload 6, 2) := by decide +kernel
theorem dX12_filed_116 : decode cX12_filed 116 = .ok (.iload 7, 2) := by decide +kernel
theorem dX12_filed_118 : decode cX12_filed 118 = .ok (.iload 4, 2) := by decide +kernel
theorem dX12_filed_120 : decode cX12_filed 120 = .ok (.if_icmp .ge 7, 3) := by decide +kernel
theorem dX12_filed_123 : decode cX12_filed 123 = .ok (.iconst 1, 1) := by decide +kernel
theorem dX12_filed_124 : decode cX12_filed 124 = .ok (.goto 4, 3) := by decide +kernel
theorem dX12_filed_127 : decode cX12_filed 127 = .ok (.iconst 0, 1) := by decide +kernel
theorem dX12_filed_128 : decode cX12_filed 128 = .ok (.iadd, 1) := by decide +kernel
theorem dX12_filed_129 : decode cX12_filed 129 = .ok (.istore 6, 2) := by decide +kernel
theorem dX12_filed_131 : decode cX12_filed 131 = .ok (.iinc 7 1, 3) := by decide +kernel
theorem dX12_filed_134 : decode cX12_filed 134 = .ok (.goto (-62), 3) := by decide +kernel
theorem dX12_filed_137 : decode cX12_filed 137 = .ok (.iload 5, 2) := by decide +kernel
theorem dX12_filed_139 : decode cX12_filed 139 = .ok (.iload_n 2, 1) := by decide +kernel
theorem dX12_filed_140 : decode cX12_filed 140 = .ok (.if_icmp .le 10, 3) := by decide +kernel
theorem dX12_filed_143 : decode cX12_filed 143 = .ok (.aload_n 0, 1) := by decide +kernel
theorem dX12_filed_144 : decode cX12_filed 144 = .ok (.bipush 9, 2) := by decide +kernel
theorem dX12_filed_146 : decode cX12_filed 146 = .ok (.invokevirtual 269, 3) := by decide +kernel
theorem dX12_filed_149 : decode cX12_filed 149 = .ok (.ireturn, 1) := by decide +kernel
theorem dX12_filed_150 : decode cX12_filed 150 = .ok (.iload_n 3, 1) := by decide +kernel
theorem dX12_filed_151 : decode cX12_filed 151 = .ok (.iload 6, 2) := by decide +kernel
theorem dX12_filed_153 : decode cX12_filed 153 = .ok (.ifCond .le 7, 3) := by decide +kernel
theorem dX12_filed_156 : decode cX12_filed 156 = .ok (.iconst 1, 1) := by decide +kernel
theorem dX12_filed_157 : decode cX12_filed 157 = .ok (.goto 4, 3) := by decide +kernel
theorem dX12_filed_160 : decode cX12_filed 160 = .ok (.iconst 0, 1) := by decide +kernel
theorem dX12_filed_161 : decode cX12_filed 161 = .ok (.iadd, 1) := by decide +kernel
theorem dX12_filed_162 : decode cX12_filed 162 = .ok (.istore_n 3, 1) := by decide +kernel
theorem dX12_filed_163 : decode cX12_filed 163 = .ok (.iinc 4 1, 3) := by decide +kernel
theorem dX12_filed_166 : decode cX12_filed 166 = .ok (.goto (-112), 3) := by decide +kernel
theorem dX12_filed_169 : decode cX12_filed 169 = .ok (.iload_n 3, 1) := by decide +kernel
theorem dX12_filed_170 : decode cX12_filed 170 = .ok (.ireturn, 1) := by decide +kernel
theorem dX12_findOrder_0 : decode cX12_findOrder 0 = .ok (.aload_n 0, 1) := by decide +kernel
theorem dX12_findOrder_1 : decode cX12_findOrder 1 = .ok (.iload_n 1, 1) := by decide +kernel
theorem dX12_findOrder_2 : decode cX12_findOrder 2 = .ok (.putfield 405, 3) := by decide +kernel
theorem dX12_findOrder_5 : decode cX12_findOrder 5 = .ok (.aload_n 0, 1) := by decide +kernel
theorem dX12_findOrder_6 : decode cX12_findOrder 6 = .ok (.aload_n 0, 1) := by decide +kernel
theorem dX12_findOrder_7 : decode cX12_findOrder 7 = .ok (.getfield 286, 3) := by decide +kernel
theorem dX12_findOrder_10 : decode cX12_findOrder 10 = .ok (.putfield 402, 3) := by decide +kernel
theorem dX12_findOrder_13 : decode cX12_findOrder 13 = .ok (.iconst 0, 1) := by decide +kernel
theorem dX12_findOrder_14 : decode cX12_findOrder 14 = .ok (.istore_n 2, 1) := by decide +kernel
theorem dX12_findOrder_15 : decode cX12_findOrder 15 = .ok (.iload_n 2, 1) := by decide +kernel
theorem dX12_findOrder_16 : decode cX12_findOrder 16 = .ok (.aload_n 0, 1) := by decide +kernel
theorem dX12_findOrder_17 : decode cX12_findOrder 17 = .ok (.getfield 286, 3) := by decide +kernel
theorem dX12_findOrder_20 : decode cX12_findOrder 20 = .ok (.if_icmp .ge 21, 3) := by decide +kernel
theorem dX12_findOrder_23 : decode cX12_findOrder 23 = .ok (.aload_n 0, 1) := by decide +kernel
theorem dX12_findOrder_24 : decode cX12_findOrder 24 = .ok (.getfield 47, 3) := by decide +kernel
theorem dX12_findOrder_27 : decode cX12_findOrder 27 = .ok (.iload_n 2, 1) := by decide +kernel
theorem dX12_findOrder_28 : decode cX12_findOrder 28 = .ok (.aload_n 0, 1) := by decide +kernel
theorem dX12_findOrder_29 : decode cX12_findOrder 29 = .ok (.getfield 41, 3) := by decide +kernel
theorem dX12_findOrder_32 : decode cX12_findOrder 32 = .ok (.iload_n 2, 1) := by decide +kernel
theorem dX12_findOrder_33 : decode cX12_findOrder 33 = .ok (.iaload, 1) := by decide +kernel
theorem dX12_findOrder_34 : decode cX12_findOrder 34 = .ok (.iastore, 1) := by decide +kernel
theorem dX12_findOrder_35 : decode cX12_findOrder 35 = .ok (.iinc 2 1, 3) := by decide +kernel
theorem dX12_findOrder_38 : decode cX12_findOrder 38 = .ok (.goto (-23), 3) := by decide +kernel
theorem dX12_findOrder_41 : decode cX12_findOrder 41 = .ok (.aload_n 0, 1) := by decide +kernel
theorem dX12_findOrder_42 : decode cX12_findOrder 42 = .ok (.iconst 0, 1) := by decide +kernel
theorem dX12_findOrder_43 : decode cX12_findOrder 43 = .ok (.putfield 411, 3) := by decide +kernel
theorem dX12_findOrder_46 : decode cX12_findOrder 46 = .ok (.aload_n 0, 1) := by decide +kernel
theorem dX12_findOrder_47 : decode cX12_findOrder 47 = .ok (.iconst 0, 1) := by decide +kernel
theorem dX12_findOrder_48 : decode cX12_findOrder 48 = .ok (.invokevirtual 429, 3) := by decide +kernel
theorem dX12_findOrder_51 : decode cX12_findOrder 51 = .ok (.aload_n 0, 1) := by decide +kernel
theorem dX12_findOrder_52 : decode cX12_findOrder 52 = .ok (.aload_n 0, 1) := by decide +kernel
theorem dX12_findOrder_53 : decode cX12_findOrder 53 = .ok (.getfield 402, 3) := by decide +kernel
theorem dX12_findOrder_56 : decode cX12_findOrder 56 = .ok (.putfield 432, 3) := by decide +kernel
theorem dX12_findOrder_59 : decode cX12_findOrder 59 = .ok (.iconst 0, 1) := by decide +kernel
theorem dX12_findOrder_60 : decode cX12_findOrder 60 = .ok (.istore_n 2, 1) := by decide +kernel
theorem dX12_findOrder_61 : decode cX12_findOrder 61 = .ok (.iload_n 2, 1) := by decide +kernel
theorem dX12_findOrder_62 : decode cX12_findOrder 62 = .ok (.aload_n 0, 1) := by decide +kernel
theorem dX12_findOrder_63 : decode cX12_findOrder 63 = .ok (.getfield 402, 3) := by decide +kernel
theorem dX12_findOrder_66 : decode cX12_findOrder 66 = .ok (.if_icmp .ge 21, 3) := by decide +kernel
theorem dX12_findOrder_69 : decode cX12_findOrder 69 = .ok (.aload_n 0, 1) := by decide +kernel
theorem dX12_findOrder_70 : decode cX12_findOrder 70 = .ok (.getfield 50, 3) := by decide +kernel
theorem dX12_findOrder_73 : decode cX12_findOrder 73 = .ok (.iload_n 2, 1) := by decide +kernel
theorem dX12_findOrder_74 : decode cX12_findOrder 74 = .ok (.aload_n 0, 1) := by decide +kernel
theorem dX12_findOrder_75 : decode cX12_findOrder 75 = .ok (.getfield 75, 3) := by decide +kernel
theorem dX12_findOrder_78 : decode cX12_findOrder 78 = .ok (.iload_n 2, 1) := by decide +kernel
theorem dX12_findOrder_79 : decode cX12_findOrder 79 = .ok (.iaload, 1) := by decide +kernel
theorem dX12_findOrder_80 : decode cX12_findOrder 80 = .ok (.iastore, 1) := by decide +kernel
theorem dX12_findOrder_81 : decode cX12_findOrder 81 = .ok (.iinc 2 1, 3) := by decide +kernel
theorem dX12_findOrder_84 : decode cX12_findOrder 84 = .ok (.goto (-23), 3) := by decide +kernel
theorem dX12_findOrder_87 : decode cX12_findOrder 87 = .ok (.return_, 1) := by decide +kernel
theorem dX12_findWorth_0 : decode cX12_findWorth 0 = .ok (.iconst 0, 1) := by decide +kernel
theorem dX12_findWorth_1 : decode cX12_findWorth 1 = .ok (.istore_n 3, 1) := by decide +kernel
theorem dX12_findWorth_2 : decode cX12_findWorth 2 = .ok (.iload_n 3, 1) := by decide +kernel
theorem dX12_findWorth_3 : decode cX12_findWorth 3 = .ok (.iconst 2, 1) := by decide +kernel
theorem dX12_findWorth_4 : decode cX12_findWorth 4 = .ok (.aload_n 0, 1) := by decide +kernel
theorem dX12_findWorth_5 : decode cX12_findWorth 5 = .ok (.getfield 286, 3) := by decide +kernel
theorem dX12_findWorth_8 : decode cX12_findWorth 8 = .ok (.imul, 1) := by decide +kernel
theorem dX12_findWorth_9 : decode cX12_findWorth 9 = .ok (.if_icmp .ge 26, 3) := by decide +kernel
theorem dX12_findWorth_12 : decode cX12_findWorth 12 = .ok (.aload_n 0, 1) := by decide +kernel
theorem dX12_findWorth_13 : decode cX12_findWorth 13 = .ok (.getfield 53, 3) := by decide +kernel
theorem dX12_findWorth_16 : decode cX12_findWorth 16 = .ok (.iload_n 3, 1) := by decide +kernel
theorem dX12_findWorth_17 : decode cX12_findWorth 17 = .ok (.aload_n 0, 1) := by decide +kernel
theorem dX12_findWorth_18 : decode cX12_findWorth 18 = .ok (.getfield 35, 3) := by decide +kernel
theorem dX12_findWorth_21 : decode cX12_findWorth 21 = .ok (.sipush 160, 3) := by decide +kernel
theorem dX12_findWorth_24 : decode cX12_findWorth 24 = .ok (.iload_n 3, 1) := by decide +kernel
theorem dX12_findWorth_25 : decode cX12_findWorth 25 = .ok (.iadd, 1) := by decide +kernel
theorem dX12_findWorth_26 : decode cX12_findWorth 26 = .ok (.iaload, 1) := by decide +kernel
theorem dX12_findWorth_27 : decode cX12_findWorth 27 = .ok (.i2l, 1) := by decide +kernel
theorem dX12_findWorth_28 : decode cX12_findWorth 28 = .ok (.lastore, 1) := by decide +kernel
theorem dX12_findWorth_29 : decode cX12_findWorth 29 = .ok (.iinc 3 1, 3) := by decide +kernel
theorem dX12_findWorth_32 : decode cX12_findWorth 32 = .ok (.goto (-30), 3) := by decide +kernel
theorem dX12_findWorth_35 : decode cX12_findWorth 35 = .ok (.aload_n 0, 1) := by decide +kernel
theorem dX12_findWorth_36 : decode cX12_findWorth 36 = .ok (.iconst 0, 1) := by decide +kernel
theorem dX12_findWorth_37 : decode cX12_findWorth 37 = .ok (.iload_n 2, 1) := by decide +kernel
theorem dX12_findWorth_38 : decode cX12_findWorth 38 = .ok (.iload_n 1, 1) := by decide +kernel
theorem dX12_findWorth_39 : decode cX12_findWorth 39 = .ok (.invokevirtual 379, 3) := by decide +kernel
theorem dX12_findWorth_42 : decode cX12_findWorth 42 = .ok (.lreturn, 1) := by decide +kernel
theorem dX12_forgetHere_0 : decode cX12_forgetHere 0 = .ok (.aload_n 0, 1) := by decide +kernel
theorem dX12_forgetHere_1 : decode cX12_forgetHere 1 = .ok (.iconst 0, 1) := by decide +kernel
theorem dX12_forgetHere_2 : decode cX12_forgetHere 2 = .ok (.putfield 525, 3) := by decide +kernel
theorem dX12_forgetHere_5 : decode cX12_forgetHere 5 = .ok (.iconst 0, 1) := by decide +kernel
theorem dX12_forgetHere_6 : decode cX12_forgetHere 6 = .ok (.istore_n 1, 1) := by decide +kernel
theorem dX12_forgetHere_7 : decode cX12_forgetHere 7 = .ok (.iload_n 1, 1) := by decide +kernel
theorem dX12_forgetHere_8 : decode cX12_forgetHere 8 = .ok (.iconst 3, 1) := by decide +kernel
theorem dX12_forgetHere_9 : decode cX12_forgetHere 9 = .ok (.if_icmp .ge 16, 3) := by decide +kernel
theorem dX12_forgetHere_12 : decode cX12_forgetHere 12 = .ok (.aload_n 0, 1) := by decide +kernel
theorem dX12_forgetHere_13 : decode cX12_forgetHere 13 = .ok (.getfield 59, 3) := by decide +kernel
theorem dX12_forgetHere_16 : decode cX12_forgetHere 16 = .ok (.iload_n 1, 1) := by decide +kernel
theorem dX12_forgetHere_17 : decode cX12_forgetHere 17 = .ok (.iconst (-1), 1) := by decide +kernel
theorem dX12_forgetHere_18 : decode cX12_forgetHere 18 = .ok (.iastore, 1) := by decide +kernel
theorem dX12_forgetHere_19 : decode cX12_forgetHere 19 = .ok (.iinc 1 1, 3) := by decide +kernel
theorem dX12_forgetHere_22 : decode cX12_forgetHere 22 = .ok (.goto (-15), 3) := by decide +kernel
theorem dX12_forgetHere_25 : decode cX12_forgetHere 25 = .ok (.return_, 1) := by decide +kernel
theorem dX12_found_0 : decode cX12_found 0 = .ok (.aload_n 0, 1) := by decide +kernel
theorem dX12_found_1 : decode cX12_found 1 = .ok (.iconst 0, 1) := by decide +kernel
theorem dX12_found_2 : decode cX12_found 2 = .ok (.putfield 82, 3) := by decide +kernel
theorem dX12_found_5 : decode cX12_found 5 = .ok (.aload_n 0, 1) := by decide +kernel
theorem dX12_found_6 : decode cX12_found 6 = .ok (.iconst 0, 1) := by decide +kernel
theorem dX12_found_7 : decode cX12_found 7 = .ok (.putfield 85, 3) := by decide +kernel
theorem dX12_found_10 : decode cX12_found 10 = .ok (.iload_n 1, 1) := by decide +kernel
theorem dX12_found_11 : decode cX12_found 11 = .ok (.i2l, 1) := by decide +kernel
theorem dX12_found_12 : decode cX12_found 12 = .ok (.lconst 0, 1) := by decide +kernel
theorem dX12_found_13 : decode cX12_found 13 = .ok (.aload_n 0, 1) := by decide +kernel
theorem dX12_found_14 : decode cX12_found 14 = .ok (.getfield 432, 3) := by decide +kernel
theorem dX12_found_17 : decode cX12_found 17 = .ok (.iconst 1, 1) := by decide +kernel
theorem dX12_found_18 : decode cX12_found 18 = .ok (.isub, 1) := by decide +kernel
theorem dX12_found_19 : decode cX12_found 19 = .ok (.i2l, 1) := by decide +kernel
theorem dX12_found_20 : decode cX12_found 20 = .ok (.invokestatic 117, 3) := by decide +kernel
theorem dX12_found_23 : decode cX12_found 23 = .ok (.ifCond .eq 12, 3) := by decide +kernel
theorem dX12_found_26 : decode cX12_found 26 = .ok (.aload_n 0, 1) := by decide +kernel
theorem dX12_found_27 : decode cX12_found 27 = .ok (.getfield 50, 3) := by decide +kernel
theorem dX12_found_30 : decode cX12_found 30 = .ok (.iload_n 1, 1) := by decide +kernel
theorem dX12_found_31 : decode cX12_found 31 = .ok (.iaload, 1) := by decide +kernel
theorem dX12_found_32 : decode cX12_found 32 = .ok (.goto 9, 3) := by decide +kernel
theorem dX12_found_35 : decode cX12_found 35 = .ok (.aload_n 0, 1) := by decide +kernel
theorem dX12_found_36 : decode cX12_found 36 = .ok (.bipush 8, 2) := by decide +kernel
theorem dX12_found_38 : decode cX12_found 38 = .ok (.invokevirtual 269, 3) := by decide +kernel
theorem dX12_found_41 : decode cX12_found 41 = .ok (.ireturn, 1) := by decide +kernel
theorem dX12_fraction_0 : decode cX12_fraction 0 = .ok (.lload_n 1, 1) := by decide +kernel
theorem dX12_fraction_1 : decode cX12_fraction 1 = .ok (.invokestatic 91, 3) := by decide +kernel
theorem dX12_fraction_4 : decode cX12_fraction 4 = .ok (.lstore 5, 2) := by decide +kernel
theorem dX12_fraction_6 : decode cX12_fraction 6 = .ok (.lload_n 3, 1) := by decide +kernel
theorem dX12_fraction_7 : decode cX12_fraction 7 = .ok (.lstore 7, 2) := by decide +kernel
theorem dX12_fraction_9 : decode cX12_fraction 9 = .ok (.lload 7, 2) := by decide +kernel
theorem dX12_fraction_11 : decode cX12_fraction 11 = .ok (.lconst 0, 1) := by decide +kernel
theorem dX12_fraction_12 : decode cX12_fraction 12 = .ok (.lcmp, 1) := by decide +kernel
theorem dX12_fraction_13 : decode cX12_fraction 13 = .ok (.ifCond .eq 21, 3) := by decide +kernel
theorem dX12_fraction_16 : decode cX12_fraction 16 = .ok (.lload 5, 2) := by decide +kernel
theorem dX12_fraction_18 : decode cX12_fraction 18 = .ok (.lload 7, 2) := by decide +kernel
theorem dX12_fraction_20 : decode cX12_fraction 20 = .ok (.lrem, 1) := by decide +kernel
theorem dX12_fraction_21 : decode cX12_fraction 21 = .ok (.lstore 9, 2) := by decide +kernel
theorem dX12_fraction_23 : decode cX12_fraction 23 = .ok (.lload 7, 2) := by decide +kernel
theorem dX12_fraction_25 : decode cX12_fraction 25 = .ok (.lstore 5, 2) := by decide +kernel
theorem dX12_fraction_27 : decode cX12_fraction 27 = .ok (.lload 9, 2) := by decide +kernel
theorem dX12_fraction_29 : decode cX12_fraction 29 = .ok (.lstore 7, 2) := by decide +kernel
theorem dX12_fraction_31 : decode cX12_fraction 31 = .ok (.goto (-22), 3) := by decide +kernel
theorem dX12_fraction_34 : decode cX12_fraction 34 = .ok (.aload_n 0, 1) := by decide +kernel
theorem dX12_fraction_35 : decode cX12_fraction 35 = .ok (.lload_n 1, 1) := by decide +kernel
theorem dX12_fraction_36 : decode cX12_fraction 36 = .ok (.lload 5, 2) := by decide +kernel
theorem dX12_fraction_38 : decode cX12_fraction 38 = .ok (.ldiv, 1) := by decide +kernel
theorem dX12_fraction_39 : decode cX12_fraction 39 = .ok (.putfield 88, 3) := by decide +kernel
theorem dX12_fraction_42 : decode cX12_fraction 42 = .ok (.aload_n 0, 1) := by decide +kernel
theorem dX12_fraction_43 : decode cX12_fraction 43 = .ok (.lload_n 3, 1) := by decide +kernel
theorem dX12_fraction_44 : decode cX12_fraction 44 = .ok (.lload 5, 2) := by decide +kernel
theorem dX12_fraction_46 : decode cX12_fraction 46 = .ok (.ldiv, 1) := by decide +kernel
theorem dX12_fraction_47 : decode cX12_fraction 47 = .ok (.putfield 7, 3) := by decide +kernel
theorem dX12_fraction_50 : decode cX12_fraction 50 = .ok (.iconst 1, 1) := by decide +kernel
theorem dX12_fraction_51 : decode cX12_fraction 51 = .ok (.ireturn, 1) := by decide +kernel
theorem dX12_from_0 : decode cX12_from 0 = .ok (.aload_n 0, 1) := by decide +kernel
theorem dX12_from_1 : decode cX12_from 1 = .ok (.iconst 0, 1) := by decide +kernel
theorem dX12_from_2 : decode cX12_from 2 = .ok (.putfield 82, 3) := by decide +kernel
theorem dX12_from_5 : decode cX12_from 5 = .ok (.aload_n 0, 1) := by decide +kernel
theorem dX12_from_6 : decode cX12_from 6 = .ok (.iconst 0, 1) := by decide +kernel
theorem dX12_from_7 : decode cX12_from 7 = .ok (.putfield 85, 3) := by decide +kernel
theorem dX12_from_10 : decode cX12_from 10 = .ok (.aload_n 0, 1) := by decide +kernel
theorem dX12_from_11 : decode cX12_from 11 = .ok (.iload_n 1, 1) := by decide +kernel
theorem dX12_from_12 : decode cX12_from 12 = .ok (.invokevirtual 289, 3) := by decide +kernel
theorem dX12_from_15 : decode cX12_from 15 = .ok (.ifCond .ne 9, 3) := by decide +kernel
theorem dX12_from_18 : decode cX12_from 18 = .ok (.aload_n 0, 1) := by decide +kernel
theorem dX12_from_19 : decode cX12_from 19 = .ok (.iconst 2, 1) := by decide +kernel
theorem dX12_from_20 : decode cX12_from 20 = .ok (.invokevirtual 97, 3) := by decide +kernel
theorem dX12_from_23 : decode cX12_from 23 = .ok (.ireturn, 1) := by decide +kernel
theorem dX12_from_24 : decode cX12_from 24 = .ok (.aload_n 0, 1) := by decide +kernel
theorem dX12_from_25 : decode cX12_from 25 = .ok (.iload_n 1, 1) := by decide +kernel
theorem dX12_from_26 : decode cX12_from 26 = .ok (.invokevirtual 292, 3) := by decide +kernel
theorem dX12_from_29 : decode cX12_from 29 = .ok (.iload_n 2, 1) := by decide +kernel
theorem dX12_from_30 : decode cX12_from 30 = .ok (.i2l, 1) := by decide +kernel
theorem dX12_from_31 : decode cX12_from 31 = .ok (.lconst 0, 1) := by decide +kernel
theorem dX12_from_32 : decode cX12_from 32 = .ok (.aload_n 0, 1) := by decide +kernel
theorem dX12_from_33 : decode cX12_from 33 = .ok (.getfield 286, 3) := by decide +kernel
theorem dX12_from_36 : decode cX12_from 36 = .ok (.iconst 1, 1) := by decide +kernel
theorem dX12_from_37 : decode cX12_from 37 = .ok (.isub, 1) := by decide +kernel
theorem dX12_from_38 : decode cX12_from 38 = .ok (.i2l, 1) := by decide +kernel
theorem dX12_from_39 : decode cX12_from 39 = .ok (.invokestatic 117, 3) := by decide +kernel
theorem dX12_from_42 : decode cX12_from 42 = .ok (.ifCond .eq 13, 3) := by decide +kernel
theorem dX12_from_45 : decode cX12_from 45 = .ok (.iload_n 3, 1) := by decide +kernel
theorem dX12_from_46 : decode cX12_from 46 = .ok (.i2l, 1) := by decide +kernel
theorem dX12_from_47 : decode cX12_from 47 = .ok (.lconst 0, 1) := by decide +kernel
theorem dX12_from_48 : decode cX12_from 48 = .ok (.lconst 1, 1) := by decide +kernel
theorem dX12_from_49 : decode cX12_from 49 = .ok (.invokestatic 117, 3) := by decide +kernel
theorem dX12_from_52 : decode cX12_from 52 = .ok (.ifCond .ne 9, 3) := by decide +kernel
theorem dX12_from_55 : decode cX12_from 55 = .ok (.aload_n 0, 1) := by decide +kernel
theorem dX12_from_56 : decode cX12_from 56 = .ok (.iconst 5, 1) := by decide +kernel
theorem dX12_from_57 : decode cX12_from 57 = .ok (.invokevirtual 97, 3) := by decide +kernel
theorem dX12_from_60 : decode cX12_from 60 = .ok (.ireturn, 1) := by decide +kernel
theorem dX12_from_61 : decode cX12_from 61 = .ok (.aload_n 0, 1) := by decide +kernel
theorem dX12_from_62 : decode cX12_from 62 = .ok (.iload_n 2, 1) := by decide +kernel
theorem dX12_from_63 : decode cX12_from 63 = .ok (.iload_n 3, 1) := by decide +kernel
theorem dX12_from_64 : decode cX12_from 64 = .ok (.invokevirtual 396, 3) := by decide +kernel
theorem dX12_from_67 : decode cX12_from 67 = .ok (.aload_n 0, 1) := by decide +kernel
theorem dX12_from_68 : decode cX12_from 68 = .ok (.getfield 393, 3) := by decide +kernel
theorem dX12_from_71 : decode cX12_from 71 = .ok (.lconst 0, 1) := by decide +kernel
theorem dX12_from_72 : decode cX12_from 72 = .ok (.lcmp, 1) := by decide +kernel
theorem dX12_from_73 : decode cX12_from 73 = .ok (.ifCond .ne 12, 3) := by decide +kernel
theorem dX12_from_76 : decode cX12_from 76 = .ok (.aload_n 0, 1) := by decide +kernel
theorem dX12_from_77 : decode cX12_from 77 = .ok (.bipush 8, 2) := by decide +kernel
theorem dX12_from_79 : decode cX12_from 79 = .ok (.invokevirtual 97, 3) := by decide +kernel
theorem dX12_from_82 : decode cX12_from 82 = .ok (.goto 15, 3) := by decide +kernel
theorem dX12_from_85 : decode cX12_from 85 = .ok (.aload_n 0, 1) := by decide +kernel
theorem dX12_from_86 : decode cX12_from 86 = .ok (.aload_n 0, 1) := by decide +kernel
theorem dX12_from_87 : decode cX12_from 87 = .ok (.getfield 390, 3) := by decide +kernel
theorem dX12_from_90 : decode cX12_from 90 = .ok (.aload_n 0, 1) := by decide +kernel
theorem dX12_from_91 : decode cX12_from 91 = .ok (.getfield 393, 3) := by decide +kernel
theorem dX12_from_94 : decode cX12_from 94 = .ok (.invokevirtual 352, 3) := by decide +kernel
theorem dX12_from_97 : decode cX12_from 97 = .ok (.ireturn, 1) := by decide +kernel
theorem dX12_gather_0 : decode cX12_gather 0 = .ok (.aload_n 0, 1) := by decide +kernel
theorem dX12_gather_1 : decode cX12_gather 1 = .ok (.iconst 0, 1) := by decide +kernel
theorem dX12_gather_2 : decode cX12_gather 2 = .ok (.putfield 286, 3) := by decide +kernel
theorem dX12_gather_5 : decode cX12_gather 5 = .ok (.iconst 0, 1) := by decide +kernel
theorem dX12_gather_6 : decode cX12_gather 6 = .ok (.istore_n 2, 1) := by decide +kernel
theorem dX12_gather_7 : decode cX12_gather 7 = .ok (.iload_n 2, 1) := by decide +kernel
theorem dX12_gather_8 : decode cX12_gather 8 = .ok (.aload_n 0, 1) := by decide +kernel
theorem dX12_gather_9 : decode cX12_gather 9 = .ok (.getfield 35, 3) := by decide +kernel
theorem dX12_gather_12 : decode cX12_gather 12 = .ok (.bipush 95, 2) := by decide +kernel
theorem dX12_gather_14 : decode cX12_gather 14 = .ok (.iload_n 1, 1) := by decide +kernel
theorem dX12_gather_15 : decode cX12_gather 15 = .ok (.iadd, 1) := by decide +kernel
theorem dX12_gather_16 : decode cX12_gather 16 = .ok (.iaload, 1) := by decide +kernel
theorem dX12_gather_17 : decode cX12_gather 17 = .ok (.if_icmp .ge 61, 3) := by decide +kernel
theorem dX12_gather_20 : decode cX12_gather 20 = .ok (.aload_n 0, 1) := by decide +kernel
theorem dX12_gather_21 : decode cX12_gather 21 = .ok (.getfield 35, 3) := by decide +kernel
theorem dX12_gather_24 : decode cX12_gather 24 = .ok (.bipush 98, 2) := by decide +kernel
theorem dX12_gather_26 : decode cX12_gather 26 = .ok (.bipush 10, 2) := by decide +kernel
theorem dX12_gather_28 : decode cX12_gather 28 = .ok (.iload_n 1, 1) := by decide +kernel
theorem dX12_gather_29 : decode cX12_gather 29 = .ok (.imul, 1) := by decide +kernel
theorem dX12_gather_30 : decode cX12_gather 30 = .ok (.iadd, 1) := by decide +kernel
theorem dX12_gather_31 : decode cX12_gather 31 = .ok (.iload_n 2, 1) := by decide +kernel
theorem dX12_gather_32 : decode cX12_gather 32 = .ok (.iadd, 1) := by decide +kernel
theorem dX12_gather_33 : decode cX12_gather 33 = .ok (.iaload, 1) := by decide +kernel
theorem dX12_gather_34 : decode cX12_gather 34 = .ok (.istore_n 3, 1) := by decide +kernel
theorem dX12_gather_35 : decode cX12_gather 35 = .ok (.aload_n 0, 1) := by decide +kernel
theorem dX12_gather_36 : decode cX12_gather 36 = .ok (.getfield 35, 3) := by decide +kernel
theorem dX12_gather_39 : decode cX12_gather 39 = .ok (.sipush 150, 3) := by decide +kernel
theorem dX12_gather_42 : decode cX12_gather 42 = .ok (.iload_n 3, 1) := by decide +kernel
theorem dX12_gather_43 : decode cX12_gather 43 = .ok (.iadd, 1) := by decide +kernel
theorem dX12_gather_44 : decode cX12_gather 44 = .ok (.iaload, 1) := by decide +kernel
theorem dX12_gather_45 : decode cX12_gather 45 = .ok (.iconst 1, 1) := by decide +kernel
theorem dX12_gather_46 : decode cX12_gather 46 = .ok (.if_icmp .ne 6, 3) := by decide +kernel
theorem dX12_gather_49 : decode cX12_gather 49 = .ok (.goto 23, 3) := by decide +kernel
theorem dX12_gather_52 : decode cX12_gather 52 = .ok (.aload_n 0, 1) := by decide +kernel
theorem dX12_gather_53 : decode cX12_gather 53 = .ok (.getfield 41, 3) := by decide +kernel
theorem dX12_gather_56 : decode cX12_gather 56 = .ok (.aload_n 0, 1) := by decide +kernel
theorem dX12_gather_57 : decode cX12_gather 57 = .ok (.getfield 286, 3) := by decide +kernel
theorem dX12_gather_60 : decode cX12_gather 60 = .ok (.iload_n 3, 1) := by decide +kernel
theorem dX12_gather_61 : decode cX12_gather 61 = .ok (.iastore, 1) := by decide +kernel
theorem dX12_gather_62 : decode cX12_gather 62 = .ok (.aload_n 0, 1) := by decide +kernel
theorem dX12_gather_63 : decode cX12_gather 63 = .ok (.dup, 1) := by decide +kernel
theorem dX12_gather_64 : decode cX12_gather 64 = .ok (.getfield 286, 3) := by decide +kernel
theorem dX12_gather_67 : decode cX12_gather 67 = .ok (.iconst 1, 1) := by decide +kernel
theorem dX12_gather_68 : decode cX12_gather 68 = .ok (.iadd, 1) := by decide +kernel
theorem dX12_gather_69 : decode cX12_gather 69 = .ok (.putfield 286, 3) := by decide +kernel
theorem dX12_gather_72 : decode cX12_gather 72 = .ok (.iinc 2 1, 3) := by decide +kernel
theorem dX12_gather_75 : decode cX12_gather 75 = .ok (.goto (-68), 3) := by decide +kernel
theorem dX12_gather_78 : decode cX12_gather 78 = .ok (.return_, 1) := by decide +kernel
theorem dX12_goAs_0 : decode cX12_goAs 0 = .ok (.iconst 0, 1) := by decide +kernel
theorem dX12_goAs_1 : decode cX12_goAs 1 = .ok (.istore_n 1, 1) := by decide +kernel
theorem dX12_goAs_2 : decode cX12_goAs 2 = .ok (.iload_n 1, 1) := by decide +kernel
theorem dX12_goAs_3 : decode cX12_goAs 3 = .ok (.iconst 2, 1) := by decide +kernel
theorem dX12_goAs_4 : decode cX12_goAs 4 = .ok (.aload_n 0, 1) := by decide +kernel
theorem dX12_goAs_5 : decode cX12_goAs 5 = .ok (.getfield 286, 3) := by decide +kernel
theorem dX12_goAs_8 : decode cX12_goAs 8 = .ok (.imul, 1) := by decide +kernel
theorem dX12_goAs_9 : decode cX12_goAs 9 = .ok (.if_icmp .ge 30, 3) := by decide +kernel
theorem dX12_goAs_12 : decode cX12_goAs 12 = .ok (.aload_n 0, 1) := by decide +kernel
theorem dX12_goAs_13 : decode cX12_goAs 13 = .ok (.getfield 56, 3) := by decide +kernel
theorem dX12_goAs_16 : decode cX12_goAs 16 = .ok (.aload_n 0, 1) := by decide +kernel
theorem dX12_goAs_17 : decode cX12_goAs 17 = .ok (.iload_n 1, 1) := by decide +kernel
theorem dX12_goAs_18 : decode cX12_goAs 18 = .ok (.invokevirtual 336, 3) := by decide +kernel
theorem dX12_goAs_21 : decode cX12_goAs 21 = .ok (.aload_n 0, 1) := by decide +kernel
theorem dX12_goAs_22 : decode cX12_goAs 22 = .ok (.getfield 35, 3) := by decide +kernel
theorem dX12_goAs_25 : decode cX12_goAs 25 = .ok (.sipush 160, 3) := by decide +kernel
theorem dX12_goAs_28 : decode cX12_goAs 28 = .ok (.iload_n 1, 1) := by decide +kernel
theorem dX12_goAs_29 : decode cX12_goAs 29 = .ok (.iadd, 1) := by decide +kernel
theorem dX12_goAs_30 : decode cX12_goAs 30 = .ok (.iaload, 1) := by decide +kernel
theorem dX12_goAs_31 : decode cX12_goAs 31 = .ok (.i2l, 1) := by decide +kernel
theorem dX12_goAs_32 : decode cX12_goAs 32 = .ok (.lastore, 1) := by decide +kernel
theorem dX12_goAs_33 : decode cX12_goAs 33 = .ok (.iinc 1 1, 3) := by decide +kernel
theorem dX12_goAs_36 : decode cX12_goAs 36 = .ok (.goto (-34), 3) := by decide +kernel
theorem dX12_goAs_39 : decode cX12_goAs 39 = .ok (.iconst 0, 1) := by decide +kernel
theorem dX12_goAs_40 : decode cX12_goAs 40 = .ok (.istore_n 1, 1) := by decide +kernel
theorem dX12_goAs_41 : decode cX12_goAs 41 = .ok (.iload_n 1, 1) := by decide +kernel
theorem dX12_goAs_42 : decode cX12_goAs 42 = .ok (.iconst 2, 1) := by decide +kernel
theorem dX12_goAs_43 : decode cX12_goAs 43 = .ok (.aload_n 0, 1) := by decide +kernel
theorem dX12_goAs_44 : decode cX12_goAs 44 = .ok (.getfield 286, 3) := by decide +kernel
theorem dX12_goAs_47 : decode cX12_goAs 47 = .ok (.imul, 1) := by decide +kernel
theorem dX12_goAs_48 : decode cX12_goAs 48 = .ok (.if_icmp .ge 26, 3) := by decide +kernel
theorem dX12_goAs_51 : decode cX12_goAs 51 = .ok (.aload_n 0, 1) := by decide +kernel
theorem dX12_goAs_52 : decode cX12_goAs 52 = .ok (.getfield 35, 3) := by decide +kernel
theorem dX12_goAs_55 : decode cX12_goAs 55 = .ok (.sipush 160, 3) := by decide +kernel
theorem dX12_goAs_58 : decode cX12_goAs 58 = .ok (.iload_n 1, 1) := by decide +kernel
theorem dX12_goAs_59 : decode cX12_goAs 59 = .ok (.iadd, 1) := by decide +kernel
theorem dX12_goAs_60 : decode cX12_goAs 60 = .ok (.aload_n 0, 1) := by decide +kernel
theorem dX12_goAs_61 : decode cX12_goAs 61 = .ok (.getfield 56, 3) := by decide +kernel
theorem dX12_goAs_64 : decode cX12_goAs 64 = .ok (.iload_n 1, 1) := by decide +kernel
theorem dX12_goAs_65 : decode cX12_goAs 65 = .ok (.laload, 1) := by decide +kernel
theorem dX12_goAs_66 : decode cX12_goAs 66 = .ok (.l2i, 1) := by decide +kernel
theorem dX12_goAs_67 : decode cX12_goAs 67 = .ok (.iastore, 1) := by decide +kernel
theorem dX12_goAs_68 : decode cX12_goAs 68 = .ok (.iinc 1 1, 3) := by decide +kernel
theorem dX12_goAs_71 : decode cX12_goAs 71 = .ok (.goto (-30), 3) := by decide +kernel
theorem dX12_goAs_74 : decode cX12_goAs 74 = .ok (.return_, 1) := by decide +kernel
theorem dX12_goOn_0 : decode cX12_goOn 0 = .ok (.aload_n 0, 1) := by decide +kernel
theorem dX12_goOn_1 : decode cX12_goOn 1 = .ok (.iconst 0, 1) := by decide +kernel
theorem dX12_goOn_2 : decode cX12_goOn 2 = .ok (.putfield 82, 3) := by decide +kernel
theorem dX12_goOn_5 : decode cX12_goOn 5 = .ok (.aload_n 0, 1) := by decide +kernel
theorem dX12_goOn_6 : decode cX12_goOn 6 = .ok (.iconst 0, 1) := by decide +kernel
theorem dX12_goOn_7 : decode cX12_goOn 7 = .ok (.putfield 85, 3) := by decide +kernel
theorem dX12_goOn_10 : decode cX12_goOn 10 = .ok (.aload_n 0, 1) := by decide +kernel
theorem dX12_goOn_11 : decode cX12_goOn 11 = .ok (.invokevirtual 323, 3) := by decide +kernel
theorem dX12_goOn_14 : decode cX12_goOn 14 = .ok (.ifCond .ne 10, 3) := by decide +kernel
theorem dX12_goOn_17 : decode cX12_goOn 17 = .ok (.aload_n 0, 1) := by decide +kernel
theorem dX12_goOn_18 : decode cX12_goOn 18 = .ok (.bipush 8, 2) := by decide +kernel
theorem dX12_goOn_20 : decode cX12_goOn 20 = .ok (.invokevirtual 97, 3) := by decide +kernel
theorem dX12_goOn_23 : decode cX12_goOn 23 = .ok (.ireturn, 1) := by decide +kernel
theorem dX12_goOn_24 : decode cX12_goOn 24 = .ok (.aload_n 0, 1) := by decide +kernel
theorem dX12_goOn_25 : decode cX12_goOn 25 = .ok (.invokevirtual 339, 3) := by decide +kernel
theorem dX12_goOn_28 : decode cX12_goOn 28 = .ok (.iconst 1, 1) := by decide +kernel
theorem dX12_goOn_29 : decode cX12_goOn 29 = .ok (.ireturn, 1) := by decide +kernel
theorem dX12_goneWorth_0 : decode cX12_goneWorth 0 = .ok (.iconst 0, 1) := by decide +kernel
theorem dX12_goneWorth_1 : decode cX12_goneWorth 1 = .ok (.istore 4, 2) := by decide +kernel
theorem dX12_goneWorth_3 : decode cX12_goneWorth 3 = .ok (.iload 4, 2) := by decide +kernel
theorem dX12_goneWorth_5 : decode cX12_goneWorth 5 = .ok (.iconst 2, 1) := by decide +kernel
theorem dX12_goneWorth_6 : decode cX12_goneWorth 6 = .ok (.aload_n 0, 1) := by decide +kernel
theorem dX12_goneWorth_7 : decode cX12_goneWorth 7 = .ok (.getfield 286, 3) := by decide +kernel
theorem dX12_goneWorth_10 : decode cX12_goneWorth 10 = .ok (.imul, 1) := by decide +kernel
theorem dX12_goneWorth_11 : decode cX12_goneWorth 11 = .ok (.if_icmp .ge 40, 3) := by decide +kernel
theorem dX12_goneWorth_14 : decode cX12_goneWorth 14 = .ok (.aload_n 0, 1) := by decide +kernel
theorem dX12_goneWorth_15 : decode cX12_goneWorth 15 = .ok (.getfield 53, 3) := by decide +kernel
theorem dX12_goneWorth_18 : decode cX12_goneWorth 18 = .ok (.bipush 20, 2) := by decide +kernel
theorem dX12_goneWorth_20 : decode cX12_goneWorth 20 = .ok (.iload_n 1, 1) := by decide +kernel
theorem dX12_goneWorth_21 : decode cX12_goneWorth 21 = .ok (.imul, 1) := by decide +kernel
theorem dX12_goneWorth_22 : decode cX12_goneWorth 22 = .ok (.bipush 20, 2) := by decide +kernel
theorem dX12_goneWorth_24 : decode cX12_goneWorth 24 = .ok (.iadd, 1) := by decide +kernel
theorem dX12_goneWorth_25 : decode cX12_goneWorth 25 = .ok (.aload_n 0, 1) := by decide +kernel
theorem dX12_goneWorth_26 : decode cX12_goneWorth 26 = .ok (.iload 4, 2) := by decide +kernel
theorem dX12_goneWorth_28 : decode cX12_goneWorth 28 = .ok (.invokevirtual 336, 3) := by decide +kernel
theorem dX12_goneWorth_31 : decode cX12_goneWorth 31 = .ok (.iadd, 1) := by decide +kernel
theorem dX12_goneWorth_32 : decode cX12_goneWorth 32 = .ok (.aload_n 0, 1) := by decide +kernel
theorem dX12_goneWorth_33 : decode cX12_goneWorth 33 = .ok (.getfield 53, 3) := by decide +kernel
theorem dX12_goneWorth_36 : decode cX12_goneWorth 36 = .ok (.bipush 20, 2) := by decide +kernel
theorem dX12_goneWorth_38 : decode cX12_goneWorth 38 = .ok (.iload_n 1, 1) := by decide +kernel
theorem dX12_goneWorth_39 : decode cX12_goneWorth 39 = .ok (.imul, 1) := by decide +kernel
theorem dX12_goneWorth_40 : decode cX12_goneWorth 40 = .ok (.iload 4, 2) := by decide +kernel
theorem dX12_goneWorth_42 : decode cX12_goneWorth 42 = .ok (.iadd, 1) := by decide +kernel
theorem dX12_goneWorth_43 : decode cX12_goneWorth 43 = .ok (.laload, 1) := by decide +kernel
theorem dX12_goneWorth_44 : decode cX12_goneWorth 44 = .ok (.lastore, 1) := by decide +kernel
theorem dX12_goneWorth_45 : decode cX12_goneWorth 45 = .ok (.iinc 4 1, 3) := by decide +kernel
theorem dX12_goneWorth_48 : decode cX12_goneWorth 48 = .ok (.goto (-45), 3) := by decide +kernel
theorem dX12_goneWorth_51 : decode cX12_goneWorth 51 = .ok (.ldc2_w 360, 3) := by decide +kernel
theorem dX12_goneWorth_54 : decode cX12_goneWorth 54 = .ok (.aload_n 0, 1) := by decide +kernel
theorem dX12_goneWorth_55 : decode cX12_goneWorth 55 = .ok (.iload_n 1, 1) := by decide +kernel
theorem dX12_goneWorth_56 : decode cX12_goneWorth 56 = .ok (.iconst 1, 1) := by decide +kernel
theorem dX12_goneWorth_57 : decode cX12_goneWorth 57 = .ok (.iadd, 1) := by decide +kernel
theorem dX12_goneWorth_58 : decode cX12_goneWorth 58 = .ok (.iload_n 2, 1) := by decide +kernel
theorem dX12_goneWorth_59 : decode cX12_goneWorth 59 = .ok (.iconst 1, 1) := by decide +kernel
theorem dX12_goneWorth_60 : decode cX12_goneWorth 60 = .ok (.isub, 1) := by decide +kernel
theorem dX12_goneWorth_61 : decode cX12_goneWorth 61 = .ok (.iload_n 3, 1) := by decide +kernel
theorem dX12_goneWorth_62 : decode cX12_goneWorth 62 = .ok (.invokevirtual 379, 3) := by decide +kernel
theorem dX12_goneWorth_65 : decode cX12_goneWorth 65 = .ok (.lmul, 1) := by decide +kernel
theorem dX12_goneWorth_66 : decode cX12_goneWorth 66 = .ok (.lreturn, 1) := by decide +kernel
theorem dX12_hasOpener_0 : decode cX12_hasOpener 0 = .ok (.iconst 0, 1) := by decide +kernel
theorem dX12_hasOpener_1 : decode cX12_hasOpener 1 = .ok (.istore_n 2, 1) := by decide +kernel
theorem dX12_hasOpener_2 : decode cX12_hasOpener 2 = .ok (.iload_n 2, 1) := by decide +kernel
theorem dX12_hasOpener_3 : decode cX12_hasOpener 3 = .ok (.aload_n 0, 1) := by decide +kernel
theorem dX12_hasOpener_4 : decode cX12_hasOpener 4 = .ok (.getfield 286, 3) := by decide +kernel
theorem dX12_hasOpener_7 : decode cX12_hasOpener 7 = .ok (.if_icmp .ge 25, 3) := by decide +kernel
theorem dX12_hasOpener_10 : decode cX12_hasOpener 10 = .ok (.aload_n 0, 1) := by decide +kernel
theorem dX12_hasOpener_11 : decode cX12_hasOpener 11 = .ok (.aload_n 0, 1) := by decide +kernel
theorem dX12_hasOpener_12 : decode cX12_hasOpener 12 = .ok (.getfield 41, 3) := by decide +kernel
theorem dX12_hasOpener_15 : decode cX12_hasOpener 15 = .ok (.iload_n 2, 1) := by decide +kernel
theorem dX12_hasOpener_16 : decode cX12_hasOpener 16 = .ok (.iaload, 1) := by decide +kernel
theorem dX12_hasOpener_17 : decode cX12_hasOpener 17 = .ok (.iload_n 1, 1) := by decide +kernel
theorem dX12_hasOpener_18 : decode cX12_hasOpener 18 = .ok (.invokevirtual 345, 3) := by decide +kernel
theorem dX12_hasOpener_21 : decode cX12_hasOpener 21 = .ok (.ifCond .eq 5, 3) := by decide +kernel
theorem dX12_hasOpener_24 : decode cX12_hasOpener 24 = .ok (.iconst 1, 1) := by decide +kernel
theorem dX12_hasOpener_25 : decode cX12_hasOpener 25 = .ok (.ireturn, 1) := by decide +kernel
theorem dX12_hasOpener_26 : decode cX12_hasOpener 26 = .ok (.iinc 2 1, 3) := by decide +kernel
theorem dX12_hasOpener_29 : decode cX12_hasOpener 29 = .ok (.goto (-27), 3) := by decide +kernel
theorem dX12_hasOpener_32 : decode cX12_hasOpener 32 = .ok (.iconst 0, 1) := by decide +kernel
theorem dX12_hasOpener_33 : decode cX12_hasOpener 33 = .ok (.ireturn, 1) := by decide +kernel
theorem dX12_here_0 : decode cX12_here 0 = .ok (.aload_n 0, 1) := by decide +kernel
theorem dX12_here_1 : decode cX12_here 1 = .ok (.iconst 0, 1) := by decide +kernel
theorem dX12_here_2 : decode cX12_here 2 = .ok (.putfield 82, 3) := by decide +kernel
theorem dX12_here_5 : decode cX12_here 5 = .ok (.aload_n 0, 1) := by decide +kernel
theorem dX12_here_6 : decode cX12_here 6 = .ok (.iconst 0, 1) := by decide +kernel
theorem dX12_here_7 : decode cX12_here 7 = .ok (.putfield 85, 3) := by decide +kernel
theorem dX12_here_10 : decode cX12_here 10 = .ok (.aload_n 0, 1) := by decide +kernel
theorem dX12_here_11 : decode cX12_here 11 = .ok (.iload_n 1, 1) := by decide +kernel
theorem dX12_here_12 : decode cX12_here 12 = .ok (.i2l, 1) := by decide +kernel
theorem dX12_here_13 : decode cX12_here 13 = .ok (.invokevirtual 275, 3) := by decide +kernel
theorem dX12_here_16 : decode cX12_here 16 = .ok (.ifCond .ne 9, 3) := by decide +kernel
theorem dX12_here_19 : decode cX12_here 19 = .ok (.aload_n 0, 1) := by decide +kernel
theorem dX12_here_20 : decode cX12_here 20 = .ok (.iconst 2, 1) := by decide +kernel
theorem dX12_here_21 : decode cX12_here 21 = .ok (.invokevirtual 97, 3) := by decide +kernel
theorem dX12_here_24 : decode cX12_here 24 = .ok (.ireturn, 1) := by decide +kernel
theorem dX12_here_25 : decode cX12_here 25 = .ok (.aload_n 0, 1) := by decide +kernel
theorem dX12_here_26 : decode cX12_here 26 = .ok (.invokevirtual 323, 3) := by decide +kernel
theorem dX12_here_29 : decode cX12_here 29 = .ok (.ifCond .ne 10, 3) := by decide +kernel
theorem dX12_here_32 : decode cX12_here 32 = .ok (.aload_n 0, 1) := by decide +kernel
theorem dX12_here_33 : decode cX12_here 33 = .ok (.bipush 8, 2) := by decide +kernel
theorem dX12_here_35 : decode cX12_here 35 = .ok (.invokevirtual 97, 3) := by decide +kernel
theorem dX12_here_38 : decode cX12_here 38 = .ok (.ireturn, 1) := by decide +kernel
theorem dX12_here_39 : decode cX12_here 39 = .ok (.lconst 0, 1) := by decide +kernel
theorem dX12_here_40 : decode cX12_here 40 = .ok (.lstore_n 2, 1) := by decide +kernel
theorem dX12_here_41 : decode cX12_here 41 = .ok (.iconst 0, 1) := by decide +kernel
theorem dX12_here_42 : decode cX12_here 42 = .ok (.istore 4, 2) := by decide +kernel
theorem dX12_here_44 : decode cX12_here 44 = .ok (.iload 4, 2) := by decide +kernel
theorem dX12_here_46 : decode cX12_here 46 = .ok (.iconst 2, 1) := by decide +kernel
theorem dX12_here_47 : decode cX12_here 47 = .ok (.aload_n 0, 1) := by decide +kernel
theorem dX12_here_48 : decode cX12_here 48 = .ok (.getfield 286, 3) := by decide +kernel
theorem dX12_here_51 : decode cX12_here 51 = .ok (.imul, 1) := by decide +kernel
theorem dX12_here_52 : decode cX12_here 52 = .ok (.if_icmp .ge 41, 3) := by decide +kernel
theorem dX12_here_55 : decode cX12_here 55 = .ok (.lload_n 2, 1) := by decide +kernel
theorem dX12_here_56 : decode cX12_here 56 = .ok (.aload_n 0, 1) := by decide +kernel
theorem dX12_here_57 : decode cX12_here 57 = .ok (.getfield 41, 3) := by decide +kernel
theorem dX12_here_60 : decode cX12_here 60 = .ok (.iload 4, 2) := by decide +kernel
theorem dX12_here_62 : decode cX12_here 62 = .ok (.iconst 2, 1) := by decide +kernel
theorem dX12_here_63 : decode cX12_here 63 = .ok (.idiv, 1) := by decide +kernel
theorem dX12_here_64 : decode cX12_here 64 = .ok (.iaload, 1) := by decide +kernel
theorem dX12_here_65 : decode cX12_here 65 = .ok (.iload_n 1, 1) := by decide +kernel
theorem dX12_here_66 : decode cX12_here 66 = .ok (.if_icmp .ne 18, 3) := by decide +kernel
theorem dX12_here_69 : decode cX12_here 69 = .ok (.aload_n 0, 1) := by decide +kernel
theorem dX12_here_70 : decode cX12_here 70 = .ok (.getfield 35, 3) := by decide +kernel
theorem dX12_here_73 : decode cX12_here 73 = .ok (.sipush 160, 3) := by decide +kernel
theorem dX12_here_76 : decode cX12_here 76 = .ok (.iload 4, 2) := by decide +kernel
theorem dX12_here_78 : decode cX12_here 78 = .ok (.iadd, 1) := by decide +kernel
theorem dX12_here_79 : decode cX12_here 79 = .ok (.iaload, 1) := by decide +kernel
theorem dX12_here_80 : decode cX12_here 80 = .ok (.i2l, 1) := by decide +kernel
theorem dX12_here_81 : decode cX12_here 81 = .ok (.goto 4, 3) := by decide +kernel
theorem dX12_here_84 : decode cX12_here 84 = .ok (.lconst 0, 1) := by decide +kernel
theorem dX12_here_85 : decode cX12_here 85 = .ok (.ladd, 1) := by decide +kernel
theorem dX12_here_86 : decode cX12_here 86 = .ok (.lstore_n 2, 1) := by decide +kernel
theorem dX12_here_87 : decode cX12_here 87 = .ok (.iinc 4 1, 3) := by decide +kernel
theorem dX12_here_90 : decode cX12_here 90 = .ok (.goto (-46), 3) := by decide +kernel
theorem dX12_here_93 : decode cX12_here 93 = .ok (.aload_n 0, 1) := by decide +kernel
theorem dX12_here_94 : decode cX12_here 94 = .ok (.lload_n 2, 1) := by decide +kernel
theorem dX12_here_95 : decode cX12_here 95 = .ok (.ldc2_w 315, 3) := by decide +kernel
theorem dX12_here_98 : decode cX12_here 98 = .ok (.invokevirtual 352, 3) := by decide +kernel
theorem dX12_here_101 : decode cX12_here 101 = .ok (.ireturn, 1) := by decide +kernel
theorem dX12_house_0 : decode cX12_house 0 = .ok (.aload_n 0, 1) := by decide +kernel
theorem dX12_house_1 : decode cX12_house 1 = .ok (.iconst 0, 1) := by decide +kernel
theorem dX12_house_2 : decode cX12_house 2 = .ok (.putfield 82, 3) := by decide +kernel
theorem dX12_house_5 : decode cX12_house 5 = .ok (.aload_n 0, 1) := by decide +kernel
theorem dX12_house_6 : decode cX12_house 6 = .ok (.iconst 0, 1) := by decide +kernel
theorem dX12_house_7 : decode cX12_house 7 = .ok (.putfield 85, 3) := by decide +kernel
theorem dX12_house_10 : decode cX12_house 10 = .ok (.aload_n 0, 1) := by decide +kernel
theorem dX12_house_11 : decode cX12_house 11 = .ok (.iload_n 1, 1) := by decide +kernel
theorem dX12_house_12 : decode cX12_house 12 = .ok (.sipush 900, 3) := by decide +kernel
theorem dX12_house_15 : decode cX12_house 15 = .ok (.invokevirtual 233, 3) := by decide +kernel
theorem dX12_house_18 : decode cX12_house 18 = .ok (.ifCond .ne 5, 3) := by decide +kernel
theorem dX12_house_21 : decode cX12_house 21 = .ok (.iconst (-1), 1) := by decide +kernel
theorem dX12_house_22 : decode cX12_house 22 = .ok (.ireturn, 1) := by decide +kernel
theorem dX12_house_23 : decode cX12_house 23 = .ok (.aload_n 0, 1) := by decide +kernel
theorem dX12_house_24 : decode cX12_house 24 = .ok (.sipush 1460, 3) := by decide +kernel
theorem dX12_house_27 : decode cX12_house 27 = .ok (.invokevirtual 78, 3) := by decide +kernel
theorem dX12_house_30 : decode cX12_house 30 = .ok (.aload_n 0, 1) := by decide +kernel
theorem dX12_house_31 : decode cX12_house 31 = .ok (.iconst 0, 1) := by decide +kernel
theorem dX12_house_32 : decode cX12_house 32 = .ok (.putfield 223, 3) := by decide +kernel
theorem dX12_house_35 : decode cX12_house 35 = .ok (.aload_n 0, 1) := by decide +kernel
theorem dX12_house_36 : decode cX12_house 36 = .ok (.iconst 0, 1) := by decide +kernel
theorem dX12_house_37 : decode cX12_house 37 = .ok (.putfield 227, 3) := by decide +kernel
theorem dX12_house_40 : decode cX12_house 40 = .ok (.aload_n 0, 1) := by decide +kernel
theorem dX12_house_41 : decode cX12_house 41 = .ok (.iconst 0, 1) := by decide +kernel
theorem dX12_house_42 : decode cX12_house 42 = .ok (.putfield 230, 3) := by decide +kernel
theorem dX12_house_45 : decode cX12_house 45 = .ok (.aload_n 0, 1) := by decide +kernel
theorem dX12_house_46 : decode cX12_house 46 = .ok (.getfield 174, 3) := by decide +kernel
theorem dX12_house_49 : decode cX12_house 49 = .ok (.ifCond .ne 129, 3) := by decide +kernel
theorem dX12_house_52 : decode cX12_house 52 = .ok (.aload_n 0, 1) := by decide +kernel
theorem dX12_house_53 : decode cX12_house 53 = .ok (.getfield 133, 3) := by decide +kernel
theorem dX12_house_56 : decode cX12_house 56 = .ok (.ifCond .eq 122, 3) := by decide +kernel
theorem dX12_house_59 : decode cX12_house 59 = .ok (.aload_n 0, 1) := by decide +kernel
theorem dX12_house_60 : decode cX12_house 60 = .ok (.invokevirtual 170, 3) := by decide +kernel
theorem dX12_house_63 : decode cX12_house 63 = .ok (.istore_n 2, 1) := by decide +kernel
theorem dX12_house_64 : decode cX12_house 64 = .ok (.iload_n 2, 1) := by decide +kernel
theorem dX12_house_65 : decode cX12_house 65 = .ok (.ifCond .ne 10, 3) := by decide +kernel
theorem dX12_house_68 : decode cX12_house 68 = .ok (.aload_n 0, 1) := by decide +kernel
theorem dX12_house_69 : decode cX12_house 69 = .ok (.invokevirtual 237, 3) := by decide +kernel
theorem dX12_house_72 : decode cX12_house 72 = .ok (.goto 93, 3) := by decide +kernel
theorem dX12_house_75 : decode cX12_house 75 = .ok (.iload_n 2, 1) := by decide +kernel
theorem dX12_house_76 : decode cX12_house 76 = .ok (.iconst 1, 1) := by decide +kernel
theorem dX12_house_77 : decode cX12_house 77 = .ok (.if_icmp .ne 10, 3) := by decide +kernel
theorem dX12_house_80 : decode cX12_house 80 = .ok (.aload_n 0, 1) := by decide +kernel
theorem dX12_house_81 : decode cX12_house 81 = .ok (.invokevirtual 240, 3) := by decide +kernel
theorem dX12_house_84 : decode cX12_house 84 = .ok (.goto 81, 3) := by decide +kernel
theorem dX12_house_87 : decode cX12_house 87 = .ok (.iload_n 2, 1) := by decide +kernel
theorem dX12_house_88 : decode cX12_house 88 = .ok (.iconst 2, 1) := by decide +kernel
theorem dX12_house_89 : decode cX12_house 89 = .ok (.if_icmp .ne 10, 3) := by decide +kernel
theorem dX12_house_92 : decode cX12_house 92 = .ok (.aload_n 0, 1) := by decide +kernel
theorem dX12_house_93 : decode cX12_house 93 = .ok (.invokevirtual 243, 3) := by decide +kernel
theorem dX12_house_96 : decode cX12_house 96 = .ok (.goto 69, 3) := by decide +kernel
theorem dX12_house_99 : decode cX12_house 99 = .ok (.iload_n 2, 1) := by decide +kernel
theorem dX12_house_100 : decode cX12_house 100 = .ok (.iconst 3, 1) := by decide +kernel
theorem dX12_house_101 : decode cX12_house 101 = .ok (.if_icmp .ne 10, 3) := by decide +kernel
theorem dX12_house_104 : decode cX12_house 104 = .ok (.aload_n 0, 1) := by decide +kernel
theorem dX12_house_105 : decode cX12_house 105 = .ok (.invokevirtual 246, 3) := by decide +kernel
theorem dX12_house_108 : decode cX12_house 108 = .ok (.goto 57, 3) := by decide +kernel
theorem dX12_house_111 : decode cX12_house 111 = .ok (.iload_n 2, 1) := by decide +kernel
theorem dX12_house_112 : decode cX12_house 112 = .ok (.iconst 4, 1) := by decide +kernel
theorem dX12_house_113 : decode cX12_house 113 = .ok (.if_icmp .ne 10, 3) := by decide +kernel
theorem dX12_house_116 : decode cX12_house 116 = .ok (.aload_n 0, 1) := by decide +kernel
theorem dX12_house_117 : decode cX12_house 117 = .ok (.invokevirtual 249, 3) := by decide +kernel
theorem dX12_house_120 : decode cX12_house 120 = .ok (.goto 45, 3) := by decide +kernel
theorem dX12_house_123 : decode cX12_house 123 = .ok (.iload_n 2, 1) := by decide +kernel
theorem dX12_house_124 : decode cX12_house 124 = .ok (.iconst 5, 1) := by decide +kernel
theorem dX12_house_125 : decode cX12_house 125 = .ok (.if_icmp .ne 10, 3) := by decide +kernel
theorem dX12_house_128 : decode cX12_house 128 = .ok (.aload_n 0, 1) := by decide +kernel
theorem dX12_house_129 : decode cX12_house 129 = .ok (.invokevirtual 252, 3) := by decide +kernel
theorem dX12_house_132 : decode cX12_house 132 = .ok (.goto 33, 3) := by decide +kernel
theorem dX12_house_135 : decode cX12_house 135 = .ok (.iload_n 2, 1) := by decide +kernel
theorem dX12_house_136 : decode cX12_house 136 = .ok (.bipush 6, 2) := by decide +kernel
theorem dX12_house_138 : decode cX12_house 138 = .ok (.if_icmp .ne 10, 3) := by decide +kernel
theorem dX12_house_141 : decode cX12_house 141 = .ok (.aload_n 0, 1) := by decide +kernel
theorem dX12_house_142 : decode cX12_house 142 = .ok (.invokevirtual 255, 3) := by decide +kernel
theorem dX12_house_145 : decode cX12_house 145 = .ok (.goto 20, 3) := by decide +kernel
theorem dX12_house_148 : decode cX12_house 148 = .ok (.iload_n 2, 1) := by decide +kernel
theorem dX12_house_149 : decode cX12_house 149 = .ok (.bipush 7, 2) := by decide +kernel
theorem dX12_house_151 : decode cX12_house 151 = .ok (.if_icmp .ne 10, 3) := by decide +kernel
theorem dX12_house_154 : decode cX12_house 154 = .ok (.aload_n 0, 1) := by decide +kernel
theorem dX12_house_155 : decode cX12_house 155 = .ok (.invokevirtual 258, 3) := by decide +kernel
theorem dX12_house_158 : decode cX12_house 158 = .ok (.goto 7, 3) := by decide +kernel
theorem dX12_house_161 : decode cX12_house 161 = .ok (.aload_n 0, 1) := by decide +kernel
theorem dX12_house_162 : decode cX12_house 162 = .ok (.invokevirtual 187, 3) := by decide +kernel
theorem dX12_house_165 : decode cX12_house 165 = .ok (.aload_n 0, 1) := by decide +kernel
theorem dX12_house_166 : decode cX12_house 166 = .ok (.aload_n 0, 1) := by decide +kernel
theorem dX12_house_167 : decode cX12_house 167 = .ok (.bipush 59, 2) := by decide +kernel
theorem dX12_house_169 : decode cX12_house 169 = .ok (.invokevirtual 220, 3) := by decide +kernel
theorem dX12_house_172 : decode cX12_house 172 = .ok (.invokevirtual 210, 3) := by decide +kernel
theorem dX12_house_175 : decode cX12_house 175 = .ok (.goto (-130), 3) := by decide +kernel
theorem dX12_house_178 : decode cX12_house 178 = .ok (.aload_n 0, 1) := by decide +kernel
theorem dX12_house_179 : decode cX12_house 179 = .ok (.invokevirtual 261, 3) := by decide +kernel
theorem dX12_house_182 : decode cX12_house 182 = .ok (.ifCond .ne 5, 3) := by decide +kernel
theorem dX12_house_185 : decode cX12_house 185 = .ok (.iconst (-1), 1) := by decide +kernel
theorem dX12_house_186 : decode cX12_house 186 = .ok (.ireturn, 1) := by decide +kernel
theorem dX12_house_187 : decode cX12_house 187 = .ok (.iconst 0, 1) := by decide +kernel
theorem dX12_house_188 : decode cX12_house 188 = .ok (.istore_n 2, 1) := by decide +kernel
theorem dX12_house_189 : decode cX12_house 189 = .ok (.iload_n 2, 1) := by decide +kernel
theorem dX12_house_190 : decode cX12_house 190 = .ok (.sipush 180, 3) := by decide +kernel
theorem dX12_house_193 : decode cX12_house 193 = .ok (.if_icmp .ge 25, 3) := by decide +kernel
theorem dX12_house_196 : decode cX12_house 196 = .ok (.aload_n 0, 1) := by decide +kernel
theorem dX12_house_197 : decode cX12_house 197 = .ok (.getfield 35, 3) := by decide +kernel
theorem dX12_house_200 : decode cX12_house 200 = .ok (.iload_n 2, 1) := by decide +kernel
theorem dX12_house_201 : decode cX12_house 201 = .ok (.aload_n 0, 1) := by decide +kernel
theorem dX12_house_202 : decode cX12_house 202 = .ok (.getfield 35, 3) := by decide +kernel
theorem dX12_house_205 : decode cX12_house 205 = .ok (.sipush 1460, 3) := by decide +kernel
theorem dX12_house_208 : decode cX12_house 208 = .ok (.iload_n 2, 1) := by decide +kernel
theorem dX12_house_209 : decode cX12_house 209 = .ok (.iadd, 1) := by decide +kernel
theorem dX12_house_210 : decode cX12_house 210 = .ok (.iaload, 1) := by decide +kernel
theorem dX12_house_211 : decode cX12_house 211 = .ok (.iastore, 1) := by decide +kernel
theorem dX12_house_212 : decode cX12_house 212 = .ok (.iinc 2 1, 3) := by decide +kernel
theorem dX12_house_215 : decode cX12_house 215 = .ok (.goto (-26), 3) := by decide +kernel
theorem dX12_house_218 : decode cX12_house 218 = .ok (.iconst 0, 1) := by decide +kernel
theorem dX12_house_219 : decode cX12_house 219 = .ok (.istore_n 2, 1) := by decide +kernel
theorem dX12_house_220 : decode cX12_house 220 = .ok (.iload_n 2, 1) := by decide +kernel
theorem dX12_house_221 : decode cX12_house 221 = .ok (.bipush 21, 2) := by decide +kernel
theorem dX12_house_223 : decode cX12_house 223 = .ok (.if_icmp .ge 24, 3) := by decide +kernel
theorem dX12_house_226 : decode cX12_house 226 = .ok (.aload_n 0, 1) := by decide +kernel
theorem dX12_house_227 : decode cX12_house 227 = .ok (.getfield 38, 3) := by decide +kernel
theorem dX12_house_230 : decode cX12_house 230 = .ok (.iload_n 2, 1) := by decide +kernel
theorem dX12_house_231 : decode cX12_house 231 = .ok (.aload_n 0, 1) := by decide +kernel
theorem dX12_house_232 : decode cX12_house 232 = .ok (.getfield 38, 3) := by decide +kernel
theorem dX12_house_235 : decode cX12_house 235 = .ok (.bipush 84, 2) := by decide +kernel
theorem dX12_house_237 : decode cX12_house 237 = .ok (.iload_n 2, 1) := by decide +kernel
theorem dX12_house_238 : decode cX12_house 238 = .ok (.iadd, 1) := by decide +kernel
theorem dX12_house_239 : decode cX12_house 239 = .ok (.laload, 1) := by decide +kernel
theorem dX12_house_240 : decode cX12_house 240 = .ok (.lastore, 1) := by decide +kernel
theorem dX12_house_241 : decode cX12_house 241 = .ok (.iinc 2 1, 3) := by decide +kernel
theorem dX12_house_244 : decode cX12_house 244 = .ok (.goto (-24), 3) := by decide +kernel
theorem dX12_house_247 : decode cX12_house 247 = .ok (.aload_n 0, 1) := by decide +kernel
theorem dX12_house_248 : decode cX12_house 248 = .ok (.getfield 35, 3) := by decide +kernel
theorem dX12_house_251 : decode cX12_house 251 = .ok (.iconst 1, 1) := by decide +kernel
theorem dX12_house_252 : decode cX12_house 252 = .ok (.iaload, 1) := by decide +kernel
theorem dX12_house_253 : decode cX12_house 253 = .ok (.ireturn, 1) := by decide +kernel
theorem dX12_houseWord_0 : decode cX12_houseWord 0 = .ok (.aload_n 0, 1) := by decide +kernel
theorem dX12_houseWord_1 : decode cX12_houseWord 1 = .ok (.bipush 102, 2) := by decide +kernel
theorem dX12_houseWord_3 : decode cX12_houseWord 3 = .ok (.bipush 101, 2) := by decide +kernel
theorem dX12_houseWord_5 : decode cX12_houseWord 5 = .ok (.bipush 97, 2) := by decide +kernel
theorem dX12_houseWord_7 : decode cX12_houseWord 7 = .ok (.bipush 116, 2) := by decide +kernel
theorem dX12_houseWord_9 : decode cX12_houseWord 9 = .ok (.bipush 117, 2) := by decide +kernel
theorem dX12_houseWord_11 : decode cX12_houseWord 11 = .ok (.bipush 114, 2) := by decide +kernel
theorem dX12_houseWord_13 : decode cX12_houseWord 13 = .ok (.invokestatic 158, 3) := by decide +kernel
theorem dX12_houseWord_16 : decode cX12_houseWord 16 = .ok (.ldc2_w 142, 3) := by decide +kernel
theorem dX12_houseWord_19 : decode cX12_houseWord 19 = .ok (.lmul, 1) := by decide +kernel
theorem dX12_houseWord_20 : decode cX12_houseWord 20 = .ok (.ldc2_w 162, 3) := by decide +kernel
theorem dX12_houseWord_23 : decode cX12_houseWord 23 = .ok (.ladd, 1) := by decide +kernel
theorem dX12_houseWord_24 : decode cX12_houseWord 24 = .ok (.ldc2_w 144, 3) := by decide +kernel
theorem dX12_houseWord_27 : decode cX12_houseWord 27 = .ok (.lsub, 1) := by decide +kernel
theorem dX12_houseWord_28 : decode cX12_houseWord 28 = .ok (.invokevirtual 164, 3) := by decide +kernel
theorem dX12_houseWord_31 : decode cX12_houseWord 31 = .ok (.ifCond .eq 5, 3) := by decide +kernel
theorem dX12_houseWord_34 : decode cX12_houseWord 34 = .ok (.iconst 0, 1) := by decide +kernel
theorem dX12_houseWord_35 : decode cX12_houseWord 35 = .ok (.ireturn, 1) := by decide +kernel
theorem dX12_houseWord_36 : decode cX12_houseWord 36 = .ok (.aload_n 0, 1) := by decide +kernel
theorem dX12_houseWord_37 : decode cX12_houseWord 37 = .ok (.bipush 102, 2) := by decide +kernel
theorem dX12_houseWord_39 : decode cX12_houseWord 39 = .ok (.bipush 101, 2) := by decide +kernel
theorem dX12_houseWord_41 : decode cX12_houseWord 41 = .ok (.bipush 101, 2) := by decide +kernel
theorem dX12_houseWord_43 : decode cX12_houseWord 43 = .ok (.bipush 108, 2) := by decide +kernel
theorem dX12_houseWord_45 : decode cX12_houseWord 45 = .ok (.bipush 115, 2) := by decide +kernel
theorem dX12_houseWord_47 : decode cX12_houseWord 47 = .ok (.iconst 0, 1) := by decide +kernel
theorem dX12_houseWord_48 : decode cX12_houseWord 48 = .ok (.invokestatic 158, 3) := by decide +kernel
theorem dX12_houseWord_51 : decode cX12_houseWord 51 = .ok (.invokevirtual 164, 3) := by decide +kernel
theorem dX12_houseWord_54 : decode cX12_houseWord 54 = .ok (.ifCond .eq 5, 3) := by decide +kernel
theorem dX12_houseWord_57 : decode cX12_houseWord 57 = .ok (.iconst 1, 1) := by decide +kernel
theorem dX12_houseWord_58 : decode cX12_houseWord 58 = .ok (.ireturn, 1) := by decide +kernel
theorem dX12_houseWord_59 : decode cX12_houseWord 59 = .ok (.aload_n 0, 1) := by decide +kernel
theorem dX12_houseWord_60 : decode cX12_houseWord 60 = .ok (.bipush 107, 2) := by decide +kernel
theorem dX12_houseWord_62 : decode cX12_houseWord 62 = .ok (.bipush 101, 2) := by decide +kernel
theorem dX12_houseWord_64 : decode cX12_houseWord 64 = .ok (.bipush 121, 2) := by decide +kernel
theorem dX12_houseWord_66 : decode cX12_houseWord 66 = .ok (.iconst 0, 1) := by decide +kernel
theorem dX12_houseWord_67 : decode cX12_houseWord 67 = .ok (.iconst 0, 1) := by decide +kernel
theorem dX12_houseWord_68 : decode cX12_houseWord 68 = .ok (.iconst 0, 1) := by decide +kernel
theorem dX12_houseWord_69 : decode cX12_houseWord 69 = .ok (.invokestatic 158, 3) := by decide +kernel
theorem dX12_houseWord_72 : decode cX12_houseWord 72 = .ok (.invokevirtual 164, 3) := by decide +kernel
theorem dX12_houseWord_75 : decode cX12_houseWord 75 = .ok (.ifCond .eq 5, 3) := by decide +kernel
theorem dX12_houseWord_78 : decode cX12_houseWord 78 = .ok (.iconst 2, 1) := by decide +kernel
theorem dX12_houseWord_79 : decode cX12_houseWord 79 = .ok (.ireturn, 1) := by decide +kernel
theorem dX12_houseWord_80 : decode cX12_houseWord 80 = .ok (.aload_n 0, 1) := by decide +kernel
theorem dX12_houseWord_81 : decode cX12_houseWord 81 = .ok (.bipush 114, 2) := by decide +kernel
theorem dX12_houseWord_83 : decode cX12_houseWord 83 = .ok (.bipush 105, 2) := by decide +kernel
theorem dX12_houseWord_85 : decode cX12_houseWord 85 = .ok (.bipush 110, 2) := by decide +kernel
theorem dX12_houseWord_87 : decode cX12_houseWord 87 = .ok (.bipush 103, 2) := by decide +kernel
theorem dX12_houseWord_89 : decode cX12_houseWord 89 = .ok (.iconst 0, 1) := by decide +kernel
theorem dX12_houseWord_90 : decode cX12_houseWord 90 = .ok (.iconst 0, 1) := by decide +kernel
theorem dX12_houseWord_91 : decode cX12_houseWord 91 = .ok (.invokestatic 158, 3) := by decide +kernel
theorem dX12_houseWord_94 : decode cX12_houseWord 94 = .ok (.invokevirtual 164, 3) := by decide +kernel
theorem dX12_houseWord_97 : decode cX12_houseWord 97 = .ok (.ifCond .eq 5, 3) := by decide +kernel
theorem dX12_houseWord_100 : decode cX12_houseWord 100 = .ok (.iconst 3, 1) := by decide +kernel
theorem dX12_houseWord_101 : decode cX12_houseWord 101 = .ok (.ireturn, 1) := by decide +kernel
theorem dX12_houseWord_102 : decode cX12_houseWord 102 = .ok (.aload_n 0, 1) := by decide +kernel
theorem dX12_houseWord_103 : decode cX12_houseWord 103 = .ok (.bipush 100, 2) := by decide +kernel
theorem dX12_houseWord_105 : decode cX12_houseWord 105 = .ok (.bipush 111, 2) := by decide +kernel
theorem dX12_houseWord_107 : decode cX12_houseWord 107 = .ok (.bipush 111, 2) := by decide +kernel
theorem dX12_houseWord_109 : decode cX12_houseWord 109 = .ok (.bipush 114, 2) := by decide +kernel
theorem dX12_houseWord_111 : decode cX12_houseWord 111 = .ok (.iconst 0, 1) := by decide +kernel
theorem dX12_houseWord_112 : decode cX12_houseWord 112 = .ok (.iconst 0, 1) := by decide +kernel
theorem dX12_houseWord_113 : decode cX12_houseWord 113 = .ok (.invokestatic 158, 3) := by decide +kernel
theorem dX12_houseWord_116 : decode cX12_houseWord 116 = .ok (.invokevirtual 164, 3) := by decide +kernel
theorem dX12_houseWord_119 : decode cX12_houseWord 119 = .ok (.ifCond .eq 5, 3) := by decide +kernel
theorem dX12_houseWord_122 : decode cX12_houseWord 122 = .ok (.iconst 4, 1) := by decide +kernel
theorem dX12_houseWord_123 : decode cX12_houseWord 123 = .ok (.ireturn, 1) := by decide +kernel
theorem dX12_houseWord_124 : decode cX12_houseWord 124 = .ok (.aload_n 0, 1) := by decide +kernel
theorem dX12_houseWord_125 : decode cX12_houseWord 125 = .ok (.bipush 115, 2) := by decide +kernel
theorem dX12_houseWord_127 : decode cX12_houseWord 127 = .ok (.bipush 101, 2) := by decide +kernel
theorem dX12_houseWord_129 : decode cX12_houseWord 129 = .ok (.bipush 99, 2) := by decide +kernel
theorem dX12_houseWord_131 : decode cX12_houseWord 131 = .ok (.bipush 111, 2) := by decide +kernel
theorem dX12_houseWord_133 : decode cX12_houseWord 133 = .ok (.bipush 110, 2) := by decide +kernel
theorem dX12_houseWord_135 : decode cX12_houseWord 135 = .ok (.bipush 100, 2) := by decide +kernel
theorem dX12_houseWord_137 : decode cX12_houseWord 137 = .ok (.invokestatic 158, 3) := by decide +kernel
theorem dX12_houseWord_140 : decode cX12_houseWord 140 = .ok (.ldc2_w 142, 3) := by decide +kernel
theorem dX12_houseWord_143 : decode cX12_houseWord 143 = .ok (.lmul, 1) := by decide +kernel
theorem dX12_houseWord_144 : decode cX12_houseWord 144 = .ok (.ldc2_w 168, 3) := by decide +kernel
theorem dX12_houseWord_147 : decode cX12_houseWord 147 = .ok (.ladd, 1) := by decide +kernel
theorem dX12_houseWord_148 : decode cX12_houseWord 148 = .ok (.ldc2_w 144, 3) := by decide +kernel
theorem dX12_houseWord_151 : decode cX12_houseWord 151 = .ok (.lsub, 1) := by decide +kernel
theorem dX12_houseWord_152 : decode cX12_houseWord 152 = .ok (.invokevirtual 164, 3) := by decide +kernel
theorem dX12_houseWord_155 : decode cX12_houseWord 155 = .ok (.ifCond .eq 5, 3) := by decide +kernel
theorem dX12_houseWord_158 : decode cX12_houseWord 158 = .ok (.iconst 5, 1) := by decide +kernel
theorem dX12_houseWord_159 : decode cX12_houseWord 159 = .ok (.ireturn, 1) := by decide +kernel
theorem dX12_houseWord_160 : decode cX12_houseWord 160 = .ok (.aload_n 0, 1) := by decide +kernel
theorem dX12_houseWord_161 : decode cX12_houseWord 161 = .ok (.bipush 116, 2) := by decide +kernel
theorem dX12_houseWord_163 : decode cX12_houseWord 163 = .ok (.bipush 117, 2) := by decide +kernel
theorem dX12_houseWord_165 : decode cX12_houseWord 165 = .ok (.bipush 114, 2) := by decide +kernel
theorem dX12_houseWord_167 : decode cX12_houseWord 167 = .ok (.bipush 110, 2) := by decide +kernel
theorem dX12_houseWord_169 : decode cX12_houseWord 169 = .ok (.bipush 101, 2) := by decide +kernel
theorem dX12_houseWord_171 : decode cX12_houseWord 171 = .ok (.bipush 100, 2) := by decide +kernel
theorem dX12_houseWord_173 : decode cX12_houseWord 173 = .ok (.invokestatic 158, 3) := by decide +kernel
theorem dX12_houseWord_176 : decode cX12_houseWord 176 = .ok (.invokevirtual 164, 3) := by decide +kernel
theorem dX12_houseWord_179 : decode cX12_houseWord 179 = .ok (.ifCond .eq 6, 3) := by decide +kernel
theorem dX12_houseWord_182 : decode cX12_houseWord 182 = .ok (.bipush 6, 2) := by decide +kernel
theorem dX12_houseWord_184 : decode cX12_houseWord 184 = .ok (.ireturn, 1) := by decide +kernel
theorem dX12_houseWord_185 : decode cX12_houseWord 185 = .ok (.aload_n 0, 1) := by decide +kernel
theorem dX12_houseWord_186 : decode cX12_houseWord 186 = .ok (.bipush 114, 2) := by decide +kernel
theorem dX12_houseWord_188 : decode cX12_houseWord 188 = .ok (.bipush 111, 2) := by decide +kernel
theorem dX12_houseWord_190 : decode cX12_houseWord 190 = .ok (.bipush 117, 2) := by decide +kernel
theorem dX12_houseWord_192 : decode cX12_houseWord 192 = .ok (.bipush 110, 2) := by decide +kernel
theorem dX12_houseWord_194 : decode cX12_houseWord 194 = .ok (.bipush 100, 2) := by decide +kernel
theorem dX12_houseWord_196 : decode cX12_houseWord 196 = .ok (.iconst 0, 1) := by decide +kernel
theorem dX12_houseWord_197 : decode cX12_houseWord 197 = .ok (.invokestatic 158, 3) := by decide +kernel
theorem dX12_houseWord_200 : decode cX12_houseWord 200 = .ok (.invokevirtual 164, 3) := by decide +kernel
theorem dX12_houseWord_203 : decode cX12_houseWord 203 = .ok (.ifCond .eq 6, 3) := by decide +kernel
theorem dX12_houseWord_206 : decode cX12_houseWord 206 = .ok (.bipush 7, 2) := by decide +kernel
theorem dX12_houseWord_208 : decode cX12_houseWord 208 = .ok (.ireturn, 1) := by decide +kernel
theorem dX12_houseWord_209 : decode cX12_houseWord 209 = .ok (.aload_n 0, 1) := by decide +kernel
theorem dX12_houseWord_210 : decode cX12_houseWord 210 = .ok (.bipush 115, 2) := by decide +kernel
theorem dX12_houseWord_212 : decode cX12_houseWord 212 = .ok (.bipush 116, 2) := by decide +kernel
theorem dX12_houseWord_214 : decode cX12_houseWord 214 = .ok (.bipush 101, 2) := by decide +kernel
theorem dX12_houseWord_216 : decode cX12_houseWord 216 = .ok (.bipush 112, 2) := by decide +kernel
theorem dX12_houseWord_218 : decode cX12_houseWord 218 = .ok (.bipush 115, 2) := by decide +kernel
theorem dX12_houseWord_220 : decode cX12_houseWord 220 = .ok (.iconst 0, 1) := by decide +kernel
theorem dX12_houseWord_221 : decode cX12_houseWord 221 = .ok (.invokestatic 158, 3) := by decide +kernel
theorem dX12_houseWord_224 : decode cX12_houseWord 224 = .ok (.invokevirtual 164, 3) := by decide +kernel
theorem dX12_houseWord_227 : decode cX12_houseWord 227 = .ok (.ifCond .eq 6, 3) := by decide +kernel
theorem dX12_houseWord_230 : decode cX12_houseWord 230 = .ok (.bipush 8, 2) := by decide +kernel
theorem dX12_houseWord_232 : decode cX12_houseWord 232 = .ok (.ireturn, 1) := by decide +kernel
theorem dX12_houseWord_233 : decode cX12_houseWord 233 = .ok (.aload_n 0, 1) := by decide +kernel
theorem dX12_houseWord_234 : decode cX12_houseWord 234 = .ok (.bipush 119, 2) := by decide +kernel
theorem dX12_houseWord_236 : decode cX12_houseWord 236 = .ok (.bipush 97, 2) := by decide +kernel
theorem dX12_houseWord_238 : decode cX12_houseWord 238 = .ok (.bipush 110, 2) := by decide +kernel
theorem dX12_houseWord_240 : decode cX12_houseWord 240 = .ok (.bipush 116, 2) := by decide +kernel
theorem dX12_houseWord_242 : decode cX12_houseWord 242 = .ok (.bipush 101, 2) := by decide +kernel
theorem dX12_houseWord_244 : decode cX12_houseWord 244 = .ok (.bipush 100, 2) := by decide +kernel
theorem dX12_houseWord_246 : decode cX12_houseWord 246 = .ok (.invokestatic 158, 3) := by decide +kernel
theorem dX12_houseWord_249 : decode cX12_houseWord 249 = .ok (.invokevirtual 164, 3) := by decide +kernel
theorem dX12_houseWord_252 : decode cX12_houseWord 252 = .ok (.ifCond .eq 6, 3) := by decide +kernel
theorem dX12_houseWord_255 : decode cX12_houseWord 255 = .ok (.bipush 9, 2) := by decide +kernel
theorem dX12_houseWord_257 : decode cX12_houseWord 257 = .ok (.ireturn, 1) := by decide +kernel
theorem dX12_houseWord_258 : decode cX12_houseWord 258 = .ok (.aload_n 0, 1) := by decide +kernel
theorem dX12_houseWord_259 : decode cX12_houseWord 259 = .ok (.bipush 98, 2) := by decide +kernel
theorem dX12_houseWord_261 : decode cX12_houseWord 261 = .ok (.bipush 121, 2) := by decide +kernel
theorem dX12_houseWord_263 : decode cX12_houseWord 263 = .ok (.iconst 0, 1) := by decide +kernel
theorem dX12_houseWord_264 : decode cX12_houseWord 264 = .ok (.iconst 0, 1) := by decide +kernel
theorem dX12_houseWord_265 : decode cX12_houseWord 265 = .ok (.iconst 0, 1) := by decide +kernel
theorem dX12_houseWord_266 : decode cX12_houseWord 266 = .ok (.iconst 0, 1) := by decide +kernel
theorem dX12_houseWord_267 : decode cX12_houseWord 267 = .ok (.invokestatic 158, 3) := by decide +kernel
theorem dX12_houseWord_270 : decode cX12_houseWord 270 = .ok (.invokevirtual 164, 3) := by decide +kernel
theorem dX12_houseWord_273 : decode cX12_houseWord 273 = .ok (.ifCond .eq 6, 3) := by decide +kernel
theorem dX12_houseWord_276 : decode cX12_houseWord 276 = .ok (.bipush 10, 2) := by decide +kernel
theorem dX12_houseWord_278 : decode cX12_houseWord 278 = .ok (.ireturn, 1) := by decide +kernel
theorem dX12_houseWord_279 : decode cX12_houseWord 279 = .ok (.aload_n 0, 1) := by decide +kernel
theorem dX12_houseWord_280 : decode cX12_houseWord 280 = .ok (.bipush 102, 2) := by decide +kernel
theorem dX12_houseWord_282 : decode cX12_houseWord 282 = .ok (.bipush 101, 2) := by decide +kernel
theorem dX12_houseWord_284 : decode cX12_houseWord 284 = .ok (.bipush 101, 2) := by decide +kernel
theorem dX12_houseWord_286 : decode cX12_houseWord 286 = .ok (.bipush 108, 2) := by decide +kernel
theorem dX12_houseWord_288 : decode cX12_houseWord 288 = .ok (.iconst 0, 1) := by decide +kernel
theorem dX12_houseWord_289 : decode cX12_houseWord 289 = .ok (.iconst 0, 1) := by decide +kernel
theorem dX12_houseWord_290 : decode cX12_houseWord 290 = .ok (.invokestatic 158, 3) := by decide +kernel
theorem dX12_houseWord_293 : decode cX12_houseWord 293 = .ok (.invokevirtual 164, 3) := by decide +kernel
theorem dX12_houseWord_296 : decode cX12_houseWord 296 = .ok (.ifCond .eq 6, 3) := by decide +kernel
theorem dX12_houseWord_299 : decode cX12_houseWord 299 = .ok (.bipush 11, 2) := by decide +kernel
theorem dX12_houseWord_301 : decode cX12_houseWord 301 = .ok (.ireturn, 1) := by decide +kernel
theorem dX12_houseWord_302 : decode cX12_houseWord 302 = .ok (.aload_n 0, 1) := by decide +kernel
theorem dX12_houseWord_303 : decode cX12_houseWord 303 = .ok (.bipush 116, 2) := by decide +kernel
theorem dX12_houseWord_305 : decode cX12_houseWord 305 = .ok (.bipush 114, 2) := by decide +kernel
theorem dX12_houseWord_307 : decode cX12_houseWord 307 = .ok (.bipush 121, 2) := by decide +kernel
theorem dX12_houseWord_309 : decode cX12_houseWord 309 = .ok (.iconst 0, 1) := by decide +kernel
theorem dX12_houseWord_310 : decode cX12_houseWord 310 = .ok (.iconst 0, 1) := by decide +kernel
theorem dX12_houseWord_311 : decode cX12_houseWord 311 = .ok (.iconst 0, 1) := by decide +kernel
theorem dX12_houseWord_312 : decode cX12_houseWord 312 = .ok (.invokestatic 158, 3) := by decide +kernel
theorem dX12_houseWord_315 : decode cX12_houseWord 315 = .ok (.invokevirtual 164, 3) := by decide +kernel
theorem dX12_houseWord_318 : decode cX12_houseWord 318 = .ok (.ifCond .eq 6, 3) := by decide +kernel
theorem dX12_houseWord_321 : decode cX12_houseWord 321 = .ok (.bipush 12, 2) := by decide +kernel
theorem dX12_houseWord_323 : decode cX12_houseWord 323 = .ok (.ireturn, 1) := by decide +kernel
theorem dX12_houseWord_324 : decode cX12_houseWord 324 = .ok (.aload_n 0, 1) := by decide +kernel
theorem dX12_houseWord_325 : decode cX12_houseWord 325 = .ok (.bipush 103, 2) := by decide +kernel
theorem dX12_houseWord_327 : decode cX12_houseWord 327 = .ok (.bipush 111, 2) := by decide +kernel
theorem dX12_houseWord_329 : decode cX12_houseWord 329 = .ok (.iconst 0, 1) := by decide +kernel
theorem dX12_houseWord_330 : decode cX12_houseWord 330 = .ok (.iconst 0, 1) := by decide +kernel
theorem dX12_houseWord_331 : decode cX12_houseWord 331 = .ok (.iconst 0, 1) := by decide +kernel
theorem dX12_houseWord_332 : decode cX12_houseWord 332 = .ok (.iconst 0, 1) := by decide +kernel
theorem dX12_houseWord_333 : decode cX12_houseWord 333 = .ok (.invokestatic 158, 3) := by decide +kernel
theorem dX12_houseWord_336 : decode cX12_houseWord 336 = .ok (.invokevirtual 164, 3) := by decide +kernel
theorem dX12_houseWord_339 : decode cX12_houseWord 339 = .ok (.ifCond .eq 6, 3) := by decide +kernel
theorem dX12_houseWord_342 : decode cX12_houseWord 342 = .ok (.bipush 13, 2) := by decide +kernel
theorem dX12_houseWord_344 : decode cX12_houseWord 344 = .ok (.ireturn, 1) := by decide +kernel
theorem dX12_houseWord_345 : decode cX12_houseWord 345 = .ok (.aload_n 0, 1) := by decide +kernel
theorem dX12_houseWord_346 : decode cX12_houseWord 346 = .ok (.bipush 100, 2) := by decide +kernel
theorem dX12_houseWord_348 : decode cX12_houseWord 348 = .ok (.bipush 114, 2) := by decide +kernel
theorem dX12_houseWord_350 : decode cX12_houseWord 350 = .ok (.bipush 111, 2) := by decide +kernel
theorem dX12_houseWord_352 : decode cX12_houseWord 352 = .ok (.bipush 112, 2) := by decide +kernel
theorem dX12_houseWord_354 : decode cX12_houseWord 354 = .ok (.iconst 0, 1) := by decide +kernel
theorem dX12_houseWord_355 : decode cX12_houseWord 355 = .ok (.iconst 0, 1) := by decide +kernel
theorem dX12_houseWord_356 : decode cX12_houseWord 356 = .ok (.invokestatic 158, 3) := by decide +kernel
theorem dX12_houseWord_359 : decode cX12_houseWord 359 = .ok (.invokevirtual 164, 3) := by decide +kernel
theorem dX12_houseWord_362 : decode cX12_houseWord 362 = .ok (.ifCond .eq 8, 3) := by decide +kernel
theorem dX12_houseWord_365 : decode cX12_houseWord 365 = .ok (.bipush 14, 2) := by decide +kernel
theorem dX12_houseWord_367 : decode cX12_houseWord 367 = .ok (.goto 4, 3) := by decide +kernel
theorem dX12_houseWord_370 : decode cX12_houseWord 370 = .ok (.iconst (-1), 1) := by decide +kernel
theorem dX12_houseWord_371 : decode cX12_houseWord 371 = .ok (.ireturn, 1) := by decide +kernel
theorem dX12_inRow_0 : decode cX12_inRow 0 = .ok (.aload_n 0, 1) := by decide +kernel
theorem dX12_inRow_1 : decode cX12_inRow 1 = .ok (.iconst 0, 1) := by decide +kernel
theorem dX12_inRow_2 : decode cX12_inRow 2 = .ok (.putfield 82, 3) := by decide +kernel
theorem dX12_inRow_5 : decode cX12_inRow 5 = .ok (.aload_n 0, 1) := by decide +kernel
theorem dX12_inRow_6 : decode cX12_inRow 6 = .ok (.iconst 0, 1) := by decide +kernel
theorem dX12_inRow_7 : decode cX12_inRow 7 = .ok (.putfield 85, 3) := by decide +kernel
theorem dX12_inRow_10 : decode cX12_inRow 10 = .ok (.aload_n 0, 1) := by decide +kernel
theorem dX12_inRow_11 : decode cX12_inRow 11 = .ok (.iload_n 1, 1) := by decide +kernel
theorem dX12_inRow_12 : decode cX12_inRow 12 = .ok (.invokevirtual 295, 3) := by decide +kernel
theorem dX12_inRow_15 : decode cX12_inRow 15 = .ok (.ifCond .ne 9, 3) := by decide +kernel
theorem dX12_inRow_18 : decode cX12_inRow 18 = .ok (.aload_n 0, 1) := by decide +kernel
theorem dX12_inRow_19 : decode cX12_inRow 19 = .ok (.iconst 2, 1) := by decide +kernel
theorem dX12_inRow_20 : decode cX12_inRow 20 = .ok (.invokevirtual 269, 3) := by decide +kernel
theorem dX12_inRow_23 : decode cX12_inRow 23 = .ok (.ireturn, 1) := by decide +kernel
theorem dX12_inRow_24 : decode cX12_inRow 24 = .ok (.aload_n 0, 1) := by decide +kernel
theorem dX12_inRow_25 : decode cX12_inRow 25 = .ok (.iconst 0, 1) := by decide +kernel
theorem dX12_inRow_26 : decode cX12_inRow 26 = .ok (.putfield 441, 3) := by decide +kernel
theorem dX12_inRow_29 : decode cX12_inRow 29 = .ok (.iconst 0, 1) := by decide +kernel
theorem dX12_inRow_30 : decode cX12_inRow 30 = .ok (.istore_n 2, 1) := by decide +kernel
theorem dX12_inRow_31 : decode cX12_inRow 31 = .ok (.iload_n 2, 1) := by decide +kernel
theorem dX12_inRow_32 : decode cX12_inRow 32 = .ok (.aload_n 0, 1) := by decide +kernel
theorem dX12_inRow_33 : decode cX12_inRow 33 = .ok (.getfield 35, 3) := by decide +kernel
theorem dX12_inRow_36 : decode cX12_inRow 36 = .ok (.iconst 2, 1) := by decide +kernel
theorem dX12_inRow_37 : decode cX12_inRow 37 = .ok (.iaload, 1) := by decide +kernel
theorem dX12_inRow_38 : decode cX12_inRow 38 = .ok (.if_icmp .ge 35, 3) := by decide +kernel
theorem dX12_inRow_41 : decode cX12_inRow 41 = .ok (.aload_n 0, 1) := by decide +kernel
theorem dX12_inRow_42 : decode cX12_inRow 42 = .ok (.iload_n 2, 1) := by decide +kernel
theorem dX12_inRow_43 : decode cX12_inRow 43 = .ok (.invokevirtual 292, 3) := by decide +kernel
theorem dX12_inRow_46 : decode cX12_inRow 46 = .ok (.aload_n 0, 1) := by decide +kernel
theorem dX12_inRow_47 : decode cX12_inRow 47 = .ok (.dup, 1) := by decide +kernel
theorem dX12_inRow_48 : decode cX12_inRow 48 = .ok (.getfield 441, 3) := by decide +kernel
theorem dX12_inRow_51 : decode cX12_inRow 51 = .ok (.aload_n 0, 1) := by decide +kernel
theorem dX12_inRow_52 : decode cX12_inRow 52 = .ok (.getfield 286, 3) := by decide +kernel
theorem dX12_inRow_55 : decode cX12_inRow 55 = .ok (.ifCond .le 7, 3) := by decide +kernel
theorem dX12_inRow_58 : decode cX12_inRow 58 = .ok (.iconst 1, 1) := by decide +kernel
theorem dX12_inRow_59 : decode cX12_inRow 59 = .ok (.goto 4, 3) := by decide +kernel
theorem dX12_inRow_62 : decode cX12_inRow 62 = .ok (.iconst 0, 1) := by decide +kernel
theorem dX12_inRow_63 : decode cX12_inRow 63 = .ok (.iadd, 1) := by decide +kernel
theorem dX12_inRow_64 : decode cX12_inRow 64 = .ok (.putfield 441, 3) := by decide +kernel
theorem dX12_inRow_67 : decode cX12_inRow 67 = .ok (.iinc 2 1, 3) := by decide +kernel
theorem dX12_inRow_70 : decode cX12_inRow 70 = .ok (.goto (-39), 3) := by decide +kernel
theorem dX12_inRow_73 : decode cX12_inRow 73 = .ok (.aload_n 0, 1) := by decide +kernel
theorem dX12_inRow_74 : decode cX12_inRow 74 = .ok (.iconst 0, 1) := by decide +kernel
theorem dX12_inRow_75 : decode cX12_inRow 75 = .ok (.putfield 411, 3) := by decide +kernel
theorem dX12_inRow_78 : decode cX12_inRow 78 = .ok (.aload_n 0, 1) := by decide +kernel
theorem dX12_inRow_79 : decode cX12_inRow 79 = .ok (.iconst 0, 1) := by decide +kernel
theorem dX12_inRow_80 : decode cX12_inRow 80 = .ok (.iload_n 1, 1) := by decide +kernel
theorem dX12_inRow_81 : decode cX12_inRow 81 = .ok (.invokevirtual 447, 3) := by decide +kernel
theorem dX12_inRow_84 : decode cX12_inRow 84 = .ok (.aload_n 0, 1) := by decide +kernel
theorem dX12_inRow_85 : decode cX12_inRow 85 = .ok (.getfield 411, 3) := by decide +kernel
theorem dX12_inRow_88 : decode cX12_inRow 88 = .ok (.ifCond .ne 10, 3) := by decide +kernel
theorem dX12_inRow_91 : decode cX12_inRow 91 = .ok (.aload_n 0, 1) := by decide +kernel
theorem dX12_inRow_92 : decode cX12_inRow 92 = .ok (.bipush 8, 2) := by decide +kernel
theorem dX12_inRow_94 : decode cX12_inRow 94 = .ok (.invokevirtual 269, 3) := by decide +kernel
theorem dX12_inRow_97 : decode cX12_inRow 97 = .ok (.ireturn, 1) := by decide +kernel
theorem dX12_inRow_98 : decode cX12_inRow 98 = .ok (.aload_n 0, 1) := by decide +kernel
theorem dX12_inRow_99 : decode cX12_inRow 99 = .ok (.aload_n 0, 1) := by decide +kernel
theorem dX12_inRow_100 : decode cX12_inRow 100 = .ok (.getfield 441, 3) := by decide +kernel
theorem dX12_inRow_103 : decode cX12_inRow 103 = .ok (.putfield 432, 3) := by decide +kernel
theorem dX12_inRow_106 : decode cX12_inRow 106 = .ok (.iconst 0, 1) := by decide +kernel
theorem dX12_inRow_107 : decode cX12_inRow 107 = .ok (.istore_n 2, 1) := by decide +kernel
theorem dX12_inRow_108 : decode cX12_inRow 108 = .ok (.iload_n 2, 1) := by decide +kernel
theorem dX12_inRow_109 : decode cX12_inRow 109 = .ok (.aload_n 0, 1) := by decide +kernel
theorem dX12_inRow_110 : decode cX12_inRow 110 = .ok (.getfield 441, 3) := by decide +kernel
theorem dX12_inRow_113 : decode cX12_inRow 113 = .ok (.if_icmp .ge 21, 3) := by decide +kernel
theorem dX12_inRow_116 : decode cX12_inRow 116 = .ok (.aload_n 0, 1) := by decide +kernel
theorem dX12_inRow_117 : decode cX12_inRow 117 = .ok (.getfield 50, 3) := by decide +kernel
theorem dX12_inRow_120 : decode cX12_inRow 120 = .ok (.iload_n 2, 1) := by decide +kernel
theorem dX12_inRow_121 : decode cX12_inRow 121 = .ok (.aload_n 0, 1) := by decide +kernel
theorem dX12_inRow_122 : decode cX12_inRow 122 = .ok (.getfield 75, 3) := by decide +kernel
theorem dX12_inRow_125 : decode cX12_inRow 125 = .ok (.iload_n 2, 1) := by decide +kernel
theorem dX12_inRow_126 : decode cX12_inRow 126 = .ok (.iaload, 1) := by decide +kernel
theorem dX12_inRow_127 : decode cX12_inRow 127 = .ok (.iastore, 1) := by decide +kernel
theorem dX12_inRow_128 : decode cX12_inRow 128 = .ok (.iinc 2 1, 3) := by decide +kernel
theorem dX12_inRow_131 : decode cX12_inRow 131 = .ok (.goto (-23), 3) := by decide +kernel
theorem dX12_inRow_134 : decode cX12_inRow 134 = .ok (.aload_n 0, 1) := by decide +kernel
theorem dX12_inRow_135 : decode cX12_inRow 135 = .ok (.aload_n 0, 1) := by decide +kernel
theorem dX12_inRow_136 : decode cX12_inRow 136 = .ok (.getfield 417, 3) := by decide +kernel
theorem dX12_inRow_139 : decode cX12_inRow 139 = .ok (.aload_n 0, 1) := by decide +kernel
theorem dX12_inRow_140 : decode cX12_inRow 140 = .ok (.getfield 414, 3) := by decide +kernel
theorem dX12_inRow_143 : decode cX12_inRow 143 = .ok (.invokevirtual 352, 3) := by decide +kernel
theorem dX12_inRow_146 : decode cX12_inRow 146 = .ok (.pop, 1) := by decide +kernel
theorem dX12_inRow_147 : decode cX12_inRow 147 = .ok (.aload_n 0, 1) := by decide +kernel
theorem dX12_inRow_148 : decode cX12_inRow 148 = .ok (.getfield 441, 3) := by decide +kernel
theorem dX12_inRow_151 : decode cX12_inRow 151 = .ok (.ireturn, 1) := by decide +kernel
theorem dX12_init_0 : decode cX12_init 0 = .ok (.aload_n 0, 1) := by decide +kernel
theorem dX12_init_1 : decode cX12_init 1 = .ok (.invokespecial 1, 3) := by decide +kernel
theorem dX12_init_4 : decode cX12_init 4 = .ok (.aload_n 0, 1) := by decide +kernel
theorem dX12_init_5 : decode cX12_init 5 = .ok (.lconst 1, 1) := by decide +kernel
theorem dX12_init_6 : decode cX12_init 6 = .ok (.putfield 7, 3) := by decide +kernel
theorem dX12_init_9 : decode cX12_init 9 = .ok (.aload_n 0, 1) := by decide +kernel
theorem dX12_init_10 : decode cX12_init 10 = .ok (.iconst 4, 1) := by decide +kernel
theorem dX12_init_11 : decode cX12_init 11 = .ok (.newarray .int, 2) := by decide +kernel
theorem dX12_init_13 : decode cX12_init 13 = .ok (.putfield 13, 3) := by decide +kernel
theorem dX12_init_16 : decode cX12_init 16 = .ok (.aload_n 0, 1) := by decide +kernel
theorem dX12_init_17 : decode cX12_init 17 = .ok (.iconst 4, 1) := by decide +kernel
theorem dX12_init_18 : decode cX12_init 18 = .ok (.newarray .int, 2) := by decide +kernel
theorem dX12_init_20 : decode cX12_init 20 = .ok (.putfield 17, 3) := by decide +kernel
theorem dX12_init_23 : decode cX12_init 23 = .ok (.aload_n 0, 1) := by decide +kernel
theorem dX12_init_24 : decode cX12_init 24 = .ok (.sipush 240, 3) := by decide +kernel
theorem dX12_init_27 : decode cX12_init 27 = .ok (.newarray .long, 2) := by decide +kernel
theorem dX12_init_29 : decode cX12_init 29 = .ok (.putfield 20, 3) := by decide +kernel
theorem dX12_init_32 : decode cX12_init 32 = .ok (.aload_n 0, 1) := by decide +kernel
theorem dX12_init_33 : decode cX12_init 33 = .ok (.sipush 900, 3) := by decide +kernel
theorem dX12_init_36 : decode cX12_init 36 = .ok (.newarray .byte, 2) := by decide +kernel
theorem dX12_init_38 : decode cX12_init 38 = .ok (.putfield 24, 3) := by decide +kernel
theorem dX12_init_41 : decode cX12_init 41 = .ok (.aload_n 0, 1) := by decide +kernel
theorem dX12_init_42 : decode cX12_init 42 = .ok (.iconst (-1), 1) := by decide +kernel
theorem dX12_init_43 : decode cX12_init 43 = .ok (.putfield 28, 3) := by decide +kernel
theorem dX12_init_46 : decode cX12_init 46 = .ok (.aload_n 0, 1) := by decide +kernel
theorem dX12_init_47 : decode cX12_init 47 = .ok (.iconst (-1), 1) := by decide +kernel
theorem dX12_init_48 : decode cX12_init 48 = .ok (.putfield 32, 3) := by decide +kernel
theorem dX12_init_51 : decode cX12_init 51 = .ok (.aload_n 0, 1) := by decide +kernel
theorem dX12_init_52 : decode cX12_init 52 = .ok (.sipush 1825, 3) := by decide +kernel
theorem dX12_init_55 : decode cX12_init 55 = .ok (.newarray .int, 2) := by decide +kernel
theorem dX12_init_57 : decode cX12_init 57 = .ok (.putfield 35, 3) := by decide +kernel
theorem dX12_init_60 : decode cX12_init 60 = .ok (.aload_n 0, 1) := by decide +kernel
theorem dX12_init_61 : decode cX12_init 61 = .ok (.bipush 105, 2) := by decide +kernel
theorem dX12_init_63 : decode cX12_init 63 = .ok (.newarray .long, 2) := by decide +kernel
theorem dX12_init_65 : decode cX12_init 65 = .ok (.putfield 38, 3) := by decide +kernel
theorem dX12_init_68 : decode cX12_init 68 = .ok (.aload_n 0, 1) := by decide +kernel
theorem dX12_init_69 : decode cX12_init 69 = .ok (.bipush 10, 2) := by decide +kernel
theorem dX12_init_71 : decode cX12_init 71 = .ok (.newarray .int, 2) := by decide +kernel
theorem dX12_init_73 : decode cX12_init 73 = .ok (.putfield 41, 3) := by decide +kernel
theorem dX12_init_76 : decode cX12_init 76 = .ok (.aload_n 0, 1) := by decide +kernel
theorem dX12_init_77 : decode cX12_init 77 = .ok (.bipush 10, 2) := by decide +kernel
theorem dX12_init_79 : decode cX12_init 79 = .ok (.newarray .int, 2) := by decide +kernel
theorem dX12_init_81 : decode cX12_init 81 = .ok (.putfield 44, 3) := by decide +kernel
theorem dX12_init_84 : decode cX12_init 84 = .ok (.aload_n 0, 1) := by decide +kernel
theorem dX12_init_85 : decode cX12_init 85 = .ok (.bipush 10, 2) := by decide +kernel
theorem dX12_init_87 : decode cX12_init 87 = .ok (.newarray .int, 2) := by decide +kernel
theorem dX12_init_89 : decode cX12_init 89 = .ok (.putfield 47, 3) := by decide +kernel
theorem dX12_init_92 : decode cX12_init 92 = .ok (.aload_n 0, 1) := by decide +kernel
theorem dX12_init_93 : decode cX12_init 93 = .ok (.bipush 10, 2) := by decide +kernel
theorem dX12_init_95 : decode cX12_init 95 = .ok (.newarray .int, 2) := by decide +kernel
theorem dX12_init_97 : decode cX12_init 97 = .ok (.putfield 50, 3) := by decide +kernel
theorem dX12_init_100 : decode cX12_init 100 = .ok (.aload_n 0, 1) := by decide +kernel
theorem dX12_init_101 : decode cX12_init 101 = .ok (.bipush 100, 2) := by decide +kernel
theorem dX12_init_103 : decode cX12_init 103 = .ok (.newarray .long, 2) := by decide +kernel
theorem dX12_init_105 : decode cX12_init 105 = .ok (.putfield 53, 3) := by decide +kernel
theorem dX12_init_108 : decode cX12_init 108 = .ok (.aload_n 0, 1) := by decide +kernel
theorem dX12_init_109 : decode cX12_init 109 = .ok (.bipush 20, 2) := by decide +kernel
theorem dX12_init_111 : decode cX12_init 111 = .ok (.newarray .long, 2) := by decide +kernel
theorem dX12_init_113 : decode cX12_init 113 = .ok (.putfield 56, 3) := by decide +kernel
theorem dX12_init_116 : decode cX12_init 116 = .ok (.aload_n 0, 1) := by decide +kernel
theorem dX12_init_117 : decode cX12_init 117 = .ok (.iconst 3, 1) := by decide +kernel
theorem dX12_init_118 : decode cX12_init 118 = .ok (.newarray .int, 2) := by decide +kernel
theorem dX12_init_120 : decode cX12_init 120 = .ok (.putfield 59, 3) := by decide +kernel
theorem dX12_init_123 : decode cX12_init 123 = .ok (.aload_n 0, 1) := by decide +kernel
theorem dX12_init_124 : decode cX12_init 124 = .ok (.bipush 7, 2) := by decide +kernel
theorem dX12_init_126 : decode cX12_init 126 = .ok (.newarray .int, 2) := by decide +kernel
theorem dX12_init_128 : decode cX12_init 128 = .ok (.putfield 62, 3) := by decide +kernel
theorem dX12_init_131 : decode cX12_init 131 = .ok (.aload_n 0, 1) := by decide +kernel
theorem dX12_init_132 : decode cX12_init 132 = .ok (.bipush 20, 2) := by decide +kernel
theorem dX12_init_134 : decode cX12_init 134 = .ok (.newarray .int, 2) := by decide +kernel
theorem dX12_init_136 : decode cX12_init 136 = .ok (.putfield 65, 3) := by decide +kernel
theorem dX12_init_139 : decode cX12_init 139 = .ok (.aload_n 0, 1) := by decide +kernel
theorem dX12_init_140 : decode cX12_init 140 = .ok (.iconst 3, 1) := by decide +kernel
theorem dX12_init_141 : decode cX12_init 141 = .ok (.newarray .boolean, 2) := by decide +kernel
theorem dX12_init_143 : decode cX12_init 143 = .ok (.putfield 68, 3) := by decide +kernel
theorem dX12_init_146 : decode cX12_init 146 = .ok (.aload_n 0, 1) := by decide +kernel
theorem dX12_init_147 : decode cX12_init 147 = .ok (.bipush 10, 2) := by decide +kernel
theorem dX12_init_149 : decode cX12_init 149 = .ok (.newarray .boolean, 2) := by decide +kernel
theorem dX12_init_151 : decode cX12_init 151 = .ok (.putfield 72, 3) := by decide +kernel
theorem dX12_init_154 : decode cX12_init 154 = .ok (.aload_n 0, 1) := by decide +kernel
theorem dX12_init_155 : decode cX12_init 155 = .ok (.bipush 10, 2) := by decide +kernel
theorem dX12_init_157 : decode cX12_init 157 = .ok (.newarray .int, 2) := by decide +kernel
theorem dX12_init_159 : decode cX12_init 159 = .ok (.putfield 75, 3) := by decide +kernel
theorem dX12_init_162 : decode cX12_init 162 = .ok (.iconst 0, 1) := by decide +kernel
theorem dX12_init_163 : decode cX12_init 163 = .ok (.istore_n 1, 1) := by decide +kernel
theorem dX12_init_164 : decode cX12_init 164 = .ok (.iload_n 1, 1) := by decide +kernel
theorem dX12_init_165 : decode cX12_init 165 = .ok (.iconst 4, 1) := by decide +kernel
theorem dX12_init_166 : decode cX12_init 166 = .ok (.if_icmp .ge 16, 3) := by decide +kernel
theorem dX12_init_169 : decode cX12_init 169 = .ok (.aload_n 0, 1) := by decide +kernel
theorem dX12_init_170 : decode cX12_init 170 = .ok (.getfield 17, 3) := by decide +kernel
theorem dX12_init_173 : decode cX12_init 173 = .ok (.iload_n 1, 1) := by decide +kernel
theorem dX12_init_174 : decode cX12_init 174 = .ok (.iconst (-1), 1) := by decide +kernel
theorem dX12_init_175 : decode cX12_init 175 = .ok (.iastore, 1) := by decide +kernel
theorem dX12_init_176 : decode cX12_init 176 = .ok (.iinc 1 1, 3) := by decide +kernel
theorem dX12_init_179 : decode cX12_init 179 = .ok (.goto (-15), 3) := by decide +kernel
theorem dX12_init_182 : decode cX12_init 182 = .ok (.aload_n 0, 1) := by decide +kernel
theorem dX12_init_183 : decode cX12_init 183 = .ok (.iconst 0, 1) := by decide +kernel
theorem dX12_init_184 : decode cX12_init 184 = .ok (.invokevirtual 78, 3) := by decide +kernel
theorem dX12_init_187 : decode cX12_init 187 = .ok (.return_, 1) := by decide +kernel
theorem dX12_insert_0 : decode cX12_insert 0 = .ok (.aload_n 0, 1) := by decide +kernel
theorem dX12_insert_1 : decode cX12_insert 1 = .ok (.getfield 35, 3) := by decide +kernel
theorem dX12_insert_4 : decode cX12_insert 4 = .ok (.bipush 95, 2) := by decide +kernel
theorem dX12_insert_6 : decode cX12_insert 6 = .ok (.iload_n 2, 1) := by decide +kernel
theorem dX12_insert_7 : decode cX12_insert 7 = .ok (.iadd, 1) := by decide +kernel
theorem dX12_insert_8 : decode cX12_insert 8 = .ok (.iaload, 1) := by decide +kernel
theorem dX12_insert_9 : decode cX12_insert 9 = .ok (.istore 4, 2) := by decide +kernel
theorem dX12_insert_11 : decode cX12_insert 11 = .ok (.iload 4, 2) := by decide +kernel
theorem dX12_insert_13 : decode cX12_insert 13 = .ok (.iload_n 3, 1) := by decide +kernel
theorem dX12_insert_14 : decode cX12_insert 14 = .ok (.if_icmp .le 41, 3) := by decide +kernel
theorem dX12_insert_17 : decode cX12_insert 17 = .ok (.aload_n 0, 1) := by decide +kernel
theorem dX12_insert_18 : decode cX12_insert 18 = .ok (.getfield 35, 3) := by decide +kernel
theorem dX12_insert_21 : decode cX12_insert 21 = .ok (.bipush 98, 2) := by decide +kernel
theorem dX12_insert_23 : decode cX12_insert 23 = .ok (.bipush 10, 2) := by decide +kernel
theorem dX12_insert_25 : decode cX12_insert 25 = .ok (.iload_n 2, 1) := by decide +kernel
theorem dX12_insert_26 : decode cX12_insert 26 = .ok (.imul, 1) := by decide +kernel
theorem dX12_insert_27 : decode cX12_insert 27 = .ok (.iadd, 1) := by decide +kernel
theorem dX12_insert_28 : decode cX12_insert 28 = .ok (.iload 4, 2) := by decide +kernel
theorem dX12_insert_30 : decode cX12_insert 30 = .ok (.iadd, 1) := by decide +kernel
theorem dX12_insert_31 : decode cX12_insert 31 = .ok (.aload_n 0, 1) := by decide +kernel
theorem dX12_insert_32 : decode cX12_insert 32 = .ok (.getfield 35, 3) := by decide +kernel
theorem dX12_insert_35 : decode cX12_insert 35 = .ok (.bipush 98, 2) := by decide +kernel
theorem dX12_insert_37 : decode cX12_insert 37 = .ok (.bipush 10, 2) := by decide +kernel
theorem dX12_insert_39 : decode cX12_insert 39 = .ok (.iload_n 2, 1) := by decide +kernel
theorem dX12_insert_40 : decode cX12_insert 40 = .ok (.imul, 1) := by decide +kernel
theorem dX12_insert_41 : decode cX12_insert 41 = .ok (.iadd, 1) := by decide +kernel
theorem dX12_insert_42 : decode cX12_insert 42 = .ok (.iload 4, 2) := by decide +kernel
theorem dX12_insert_44 : decode cX12_insert 44 = .ok (.iadd, 1) := by decide +kernel
theorem dX12_insert_45 : decode cX12_insert 45 = .ok (.iconst 1, 1) := by decide +kernel
theorem dX12_insert_46 : decode cX12_insert 46 = .ok (.isub, 1) := by decide +kernel
theorem dX12_insert_47 : decode cX12_insert 47 = .ok (.iaload, 1) := by decide +kernel
theorem dX12_insert_48 : decode cX12_insert 48 = .ok (.iastore, 1) := by decide +kernel
theorem dX12_insert_49 : decode cX12_insert 49 = .ok (.iinc 4 (-1), 3) := by decide +kernel
theorem dX12_insert_52 : decode cX12_insert 52 = .ok (.goto (-41), 3) := by decide +kernel
theorem dX12_insert_55 : decode cX12_insert 55 = .ok (.aload_n 0, 1) := by decide +kernel
theorem dX12_insert_56 : decode cX12_insert 56 = .ok (.getfield 35, 3) := by decide +kernel
theorem dX12_insert_59 : decode cX12_insert 59 = .ok (.bipush 98, 2) := by decide +kernel
theorem dX12_insert_61 : decode cX12_insert 61 = .ok (.bipush 10, 2) := by decide +kernel
theorem dX12_insert_63 : decode cX12_insert 63 = .ok (.iload_n 2, 1) := by decide +kernel
theorem dX12_insert_64 : decode cX12_insert 64 = .ok (.imul, 1) := by decide +kernel
theorem dX12_insert_65 : decode cX12_insert 65 = .ok (.iadd, 1) := by decide +kernel
theorem dX12_insert_66 : decode cX12_insert 66 = .ok (.iload_n 3, 1) := by decide +kernel
theorem dX12_insert_67 : decode cX12_insert 67 = .ok (.iadd, 1) := by decide +kernel
theorem dX12_insert_68 : decode cX12_insert 68 = .ok (.iload_n 1, 1) := by decide +kernel
theorem dX12_insert_69 : decode cX12_insert 69 = .ok (.iastore, 1) := by decide +kernel
theorem dX12_insert_70 : decode cX12_insert 70 = .ok (.aload_n 0, 1) := by decide +kernel
theorem dX12_insert_71 : decode cX12_insert 71 = .ok (.getfield 35, 3) := by decide +kernel
theorem dX12_insert_74 : decode cX12_insert 74 = .ok (.bipush 95, 2) := by decide +kernel
theorem dX12_insert_76 : decode cX12_insert 76 = .ok (.iload_n 2, 1) := by decide +kernel
theorem dX12_insert_77 : decode cX12_insert 77 = .ok (.iadd, 1) := by decide +kernel
theorem dX12_insert_78 : decode cX12_insert 78 = .ok (.dup2, 1) := by decide +kernel
theorem dX12_insert_79 : decode cX12_insert 79 = .ok (.iaload, 1) := by decide +kernel
theorem dX12_insert_80 : decode cX12_insert 80 = .ok (.iconst 1, 1) := by decide +kernel
theorem dX12_insert_81 : decode cX12_insert 81 = .ok (.iadd, 1) := by decide +kernel
theorem dX12_insert_82 : decode cX12_insert 82 = .ok (.iastore, 1) := by decide +kernel
theorem dX12_insert_83 : decode cX12_insert 83 = .ok (.return_, 1) := by decide +kernel
theorem dX12_isDigit_0 : decode cX12_isDigit 0 = .ok (.iload_n 0, 1) := by decide +kernel
theorem dX12_isDigit_1 : decode cX12_isDigit 1 = .ok (.bipush 48, 2) := by decide +kernel
theorem dX12_isDigit_3 : decode cX12_isDigit 3 = .ok (.if_icmp .lt 13, 3) := by decide +kernel
theorem dX12_isDigit_6 : decode cX12_isDigit 6 = .ok (.iload_n 0, 1) := by decide +kernel
theorem dX12_isDigit_7 : decode cX12_isDigit 7 = .ok (.bipush 57, 2) := by decide +kernel
theorem dX12_isDigit_9 : decode cX12_isDigit 9 = .ok (.if_icmp .gt 7, 3) := by decide +kernel
theorem dX12_isDigit_12 : decode cX12_isDigit 12 = .ok (.iconst 1, 1) := by decide +kernel
theorem dX12_isDigit_13 : decode cX12_isDigit 13 = .ok (.goto 4, 3) := by decide +kernel
theorem dX12_isDigit_16 : decode cX12_isDigit 16 = .ok (.iconst 0, 1) := by decide +kernel
theorem dX12_isDigit_17 : decode cX12_isDigit 17 = .ok (.ireturn, 1) := by decide +kernel
theorem dX12_isDoor_0 : decode cX12_isDoor 0 = .ok (.iload_n 1, 1) := by decide +kernel
theorem dX12_isDoor_1 : decode cX12_isDoor 1 = .ok (.i2l, 1) := by decide +kernel
theorem dX12_isDoor_2 : decode cX12_isDoor 2 = .ok (.lconst 0, 1) := by decide +kernel
theorem dX12_isDoor_3 : decode cX12_isDoor 3 = .ok (.aload_n 0, 1) := by decide +kernel
theorem dX12_isDoor_4 : decode cX12_isDoor 4 = .ok (.getfield 35, 3) := by decide +kernel
theorem dX12_isDoor_7 : decode cX12_isDoor 7 = .ok (.iconst 3, 1) := by decide +kernel
theorem dX12_isDoor_8 : decode cX12_isDoor 8 = .ok (.iaload, 1) := by decide +kernel
theorem dX12_isDoor_9 : decode cX12_isDoor 9 = .ok (.iconst 1, 1) := by decide +kernel
theorem dX12_isDoor_10 : decode cX12_isDoor 10 = .ok (.isub, 1) := by decide +kernel
theorem dX12_isDoor_11 : decode cX12_isDoor 11 = .ok (.i2l, 1) := by decide +kernel
theorem dX12_isDoor_12 : decode cX12_isDoor 12 = .ok (.invokestatic 117, 3) := by decide +kernel
theorem dX12_isDoor_15 : decode cX12_isDoor 15 = .ok (.ireturn, 1) := by decide +kernel
theorem dX12_isEnd_0 : decode cX12_isEnd 0 = .ok (.aload_n 0, 1) := by decide +kernel
theorem dX12_isEnd_1 : decode cX12_isEnd 1 = .ok (.bipush 101, 2) := by decide +kernel
theorem dX12_isEnd_3 : decode cX12_isEnd 3 = .ok (.bipush 110, 2) := by decide +kernel
theorem dX12_isEnd_5 : decode cX12_isEnd 5 = .ok (.bipush 100, 2) := by decide +kernel
theorem dX12_isEnd_7 : decode cX12_isEnd 7 = .ok (.iconst 0, 1) := by decide +kernel
theorem dX12_isEnd_8 : decode cX12_isEnd 8 = .ok (.iconst 0, 1) := by decide +kernel
theorem dX12_isEnd_9 : decode cX12_isEnd 9 = .ok (.iconst 0, 1) := by decide +kernel
theorem dX12_isEnd_10 : decode cX12_isEnd 10 = .ok (.invokestatic 158, 3) := by decide +kernel
theorem dX12_isEnd_13 : decode cX12_isEnd 13 = .ok (.invokevirtual 164, 3) := by decide +kernel
theorem dX12_isEnd_16 : decode cX12_isEnd 16 = .ok (.ireturn, 1) := by decide +kernel
theorem dX12_isFeature_0 : decode cX12_isFeature 0 = .ok (.iload_n 1, 1) := by decide +kernel
theorem dX12_isFeature_1 : decode cX12_isFeature 1 = .ok (.i2l, 1) := by decide +kernel
theorem dX12_isFeature_2 : decode cX12_isFeature 2 = .ok (.lconst 0, 1) := by decide +kernel
theorem dX12_isFeature_3 : decode cX12_isFeature 3 = .ok (.aload_n 0, 1) := by decide +kernel
theorem dX12_isFeature_4 : decode cX12_isFeature 4 = .ok (.getfield 35, 3) := by decide +kernel
theorem dX12_isFeature_7 : decode cX12_isFeature 7 = .ok (.iconst 0, 1) := by decide +kernel
theorem dX12_isFeature_8 : decode cX12_isFeature 8 = .ok (.iaload, 1) := by decide +kernel
theorem dX12_isFeature_9 : decode cX12_isFeature 9 = .ok (.iconst 1, 1) := by decide +kernel
theorem dX12_isFeature_10 : decode cX12_isFeature 10 = .ok (.isub, 1) := by decide +kernel
theorem dX12_isFeature_11 : decode cX12_isFeature 11 = .ok (.i2l, 1) := by decide +kernel
theorem dX12_isFeature_12 : decode cX12_isFeature 12 = .ok (.invokestatic 117, 3) := by decide +kernel
theorem dX12_isFeature_15 : decode cX12_isFeature 15 = .ok (.ireturn, 1) := by decide +kernel
theorem dX12_isFelt_0 : decode cX12_isFelt 0 = .ok (.aload_n 0, 1) := by decide +kernel
theorem dX12_isFelt_1 : decode cX12_isFelt 1 = .ok (.bipush 102, 2) := by decide +kernel
theorem dX12_isFelt_3 : decode cX12_isFelt 3 = .ok (.bipush 101, 2) := by decide +kernel
theorem dX12_isFelt_5 : decode cX12_isFelt 5 = .ok (.bipush 108, 2) := by decide +kernel
theorem dX12_isFelt_7 : decode cX12_isFelt 7 = .ok (.bipush 116, 2) := by decide +kernel
theorem dX12_isFelt_9 : decode cX12_isFelt 9 = .ok (.iconst 0, 1) := by decide +kernel
theorem dX12_isFelt_10 : decode cX12_isFelt 10 = .ok (.iconst 0, 1) := by decide +kernel
theorem dX12_isFelt_11 : decode cX12_isFelt 11 = .ok (.invokestatic 158, 3) := by decide +kernel
theorem dX12_isFelt_14 : decode cX12_isFelt 14 = .ok (.invokevirtual 164, 3) := by decide +kernel
theorem dX12_isFelt_17 : decode cX12_isFelt 17 = .ok (.ireturn, 1) := by decide +kernel
theorem dX12_isHeld_0 : decode cX12_isHeld 0 = .ok (.aload_n 0, 1) := by decide +kernel
theorem dX12_isHeld_1 : decode cX12_isHeld 1 = .ok (.getfield 35, 3) := by decide +kernel
theorem dX12_isHeld_4 : decode cX12_isHeld 4 = .ok (.bipush 10, 2) := by decide +kernel
theorem dX12_isHeld_6 : decode cX12_isHeld 6 = .ok (.iaload, 1) := by decide +kernel
theorem dX12_isHeld_7 : decode cX12_isHeld 7 = .ok (.ifCond .ge 5, 3) := by decide +kernel
theorem dX12_isHeld_10 : decode cX12_isHeld 10 = .ok (.iconst 0, 1) := by decide +kernel
theorem dX12_isHeld_11 : decode cX12_isHeld 11 = .ok (.ireturn, 1) := by decide +kernel
theorem dX12_isHeld_12 : decode cX12_isHeld 12 = .ok (.aload_n 0, 1) := by decide +kernel
theorem dX12_isHeld_13 : decode cX12_isHeld 13 = .ok (.aload_n 0, 1) := by decide +kernel
theorem dX12_isHeld_14 : decode cX12_isHeld 14 = .ok (.getfield 35, 3) := by decide +kernel
theorem dX12_isHeld_17 : decode cX12_isHeld 17 = .ok (.bipush 10, 2) := by decide +kernel
theorem dX12_isHeld_19 : decode cX12_isHeld 19 = .ok (.iaload, 1) := by decide +kernel
theorem dX12_isHeld_20 : decode cX12_isHeld 20 = .ok (.invokevirtual 292, 3) := by decide +kernel
theorem dX12_isHeld_23 : decode cX12_isHeld 23 = .ok (.iconst 1, 1) := by decide +kernel
theorem dX12_isHeld_24 : decode cX12_isHeld 24 = .ok (.ireturn, 1) := by decide +kernel
theorem dX12_isHouseName_0 : decode cX12_isHouseName 0 = .ok (.aload_n 0, 1) := by decide +kernel
theorem dX12_isHouseName_1 : decode cX12_isHouseName 1 = .ok (.getfield 133, 3) := by decide +kernel
theorem dX12_isHouseName_4 : decode cX12_isHouseName 4 = .ok (.iconst 1, 1) := by decide +kernel
theorem dX12_isHouseName_5 : decode cX12_isHouseName 5 = .ok (.if_icmp .ne 23, 3) := by decide +kernel
theorem dX12_isHouseName_8 : decode cX12_isHouseName 8 = .ok (.aload_n 0, 1) := by decide +kernel
theorem dX12_isHouseName_9 : decode cX12_isHouseName 9 = .ok (.getfield 146, 3) := by decide +kernel
theorem dX12_isHouseName_12 : decode cX12_isHouseName 12 = .ok (.bipush 8, 2) := by decide +kernel
theorem dX12_isHouseName_14 : decode cX12_isHouseName 14 = .ok (.if_icmp .gt 14, 3) := by decide +kernel
theorem dX12_isHouseName_17 : decode cX12_isHouseName 17 = .ok (.aload_n 0, 1) := by decide +kernel
theorem dX12_isHouseName_18 : decode cX12_isHouseName 18 = .ok (.invokevirtual 170, 3) := by decide +kernel
theorem dX12_isHouseName_21 : decode cX12_isHouseName 21 = .ok (.ifCond .ge 7, 3) := by decide +kernel
theorem dX12_isHouseName_24 : decode cX12_isHouseName 24 = .ok (.iconst 1, 1) := by decide +kernel
theorem dX12_isHouseName_25 : decode cX12_isHouseName 25 = .ok (.goto 4, 3) := by decide +kernel
theorem dX12_isHouseName_28 : decode cX12_isHouseName 28 = .ok (.iconst 0, 1) := by decide +kernel
theorem dX12_isHouseName_29 : decode cX12_isHouseName 29 = .ok (.ireturn, 1) := by decide +kernel
theorem dX12_isIn_0 : decode cX12_isIn 0 = .ok (.lload_n 0, 1) := by decide +kernel
theorem dX12_isIn_1 : decode cX12_isIn 1 = .ok (.lload_n 2, 1) := by decide +kernel
theorem dX12_isIn_2 : decode cX12_isIn 2 = .ok (.lcmp, 1) := by decide +kernel
theorem dX12_isIn_3 : decode cX12_isIn 3 = .ok (.ifCond .lt 14, 3) := by decide +kernel
theorem dX12_isIn_6 : decode cX12_isIn 6 = .ok (.lload_n 0, 1) := by decide +kernel
theorem dX12_isIn_7 : decode cX12_isIn 7 = .ok (.lload 4, 2) := by decide +kernel
theorem dX12_isIn_9 : decode cX12_isIn 9 = .ok (.lcmp, 1) := by decide +kernel
theorem dX12_isIn_10 : decode cX12_isIn 10 = .ok (.ifCond .gt 7, 3) := by decide +kernel
theorem dX12_isIn_13 : decode cX12_isIn 13 = .ok (.iconst 1, 1) := by decide +kernel
theorem dX12_isIn_14 : decode cX12_isIn 14 = .ok (.goto 4, 3) := by decide +kernel
theorem dX12_isIn_17 : decode cX12_isIn 17 = .ok (.iconst 0, 1) := by decide +kernel
theorem dX12_isIn_18 : decode cX12_isIn 18 = .ok (.ireturn, 1) := by decide +kernel
theorem dX12_isKey_0 : decode cX12_isKey 0 = .ok (.lload_n 1, 1) := by decide +kernel
theorem dX12_isKey_1 : decode cX12_isKey 1 = .ok (.lconst 0, 1) := by decide +kernel
theorem dX12_isKey_2 : decode cX12_isKey 2 = .ok (.aload_n 0, 1) := by decide +kernel
theorem dX12_isKey_3 : decode cX12_isKey 3 = .ok (.getfield 35, 3) := by decide +kernel
theorem dX12_isKey_6 : decode cX12_isKey 6 = .ok (.iconst 1, 1) := by decide +kernel
theorem dX12_isKey_7 : decode cX12_isKey 7 = .ok (.iaload, 1) := by decide +kernel
theorem dX12_isKey_8 : decode cX12_isKey 8 = .ok (.iconst 1, 1) := by decide +kernel
theorem dX12_isKey_9 : decode cX12_isKey 9 = .ok (.isub, 1) := by decide +kernel
theorem dX12_isKey_10 : decode cX12_isKey 10 = .ok (.i2l, 1) := by decide +kernel
theorem dX12_isKey_11 : decode cX12_isKey 11 = .ok (.invokestatic 117, 3) := by decide +kernel
theorem dX12_isKey_14 : decode cX12_isKey 14 = .ok (.ireturn, 1) := by decide +kernel
theorem dX12_isKnown_0 : decode cX12_isKnown 0 = .ok (.iconst 0, 1) := by decide +kernel
theorem dX12_isKnown_1 : decode cX12_isKnown 1 = .ok (.istore_n 3, 1) := by decide +kernel
theorem dX12_isKnown_2 : decode cX12_isKnown 2 = .ok (.iload_n 3, 1) := by decide +kernel
theorem dX12_isKnown_3 : decode cX12_isKnown 3 = .ok (.aload_n 0, 1) := by decide +kernel
theorem dX12_isKnown_4 : decode cX12_isKnown 4 = .ok (.getfield 286, 3) := by decide +kernel
theorem dX12_isKnown_7 : decode cX12_isKnown 7 = .ok (.if_icmp .ge 63, 3) := by decide +kernel
theorem dX12_isKnown_10 : decode cX12_isKnown 10 = .ok (.iconst 0, 1) := by decide +kernel
theorem dX12_isKnown_11 : decode cX12_isKnown 11 = .ok (.istore 4, 2) := by decide +kernel
theorem dX12_isKnown_13 : decode cX12_isKnown 13 = .ok (.iload 4, 2) := by decide +kernel
theorem dX12_isKnown_15 : decode cX12_isKnown 15 = .ok (.aload_n 0, 1) := by decide +kernel
theorem dX12_isKnown_16 : decode cX12_isKnown 16 = .ok (.getfield 286, 3) := by decide +kernel
theorem dX12_isKnown_19 : decode cX12_isKnown 19 = .ok (.if_icmp .ge 45, 3) := by decide +kernel
theorem dX12_isKnown_22 : decode cX12_isKnown 22 = .ok (.iload_n 3, 1) := by decide +kernel
theorem dX12_isKnown_23 : decode cX12_isKnown 23 = .ok (.iload 4, 2) := by decide +kernel
theorem dX12_isKnown_25 : decode cX12_isKnown 25 = .ok (.if_icmp .eq 15, 3) := by decide +kernel
theorem dX12_isKnown_28 : decode cX12_isKnown 28 = .ok (.aload_n 0, 1) := by decide +kernel
theorem dX12_isKnown_29 : decode cX12_isKnown 29 = .ok (.iload_n 3, 1) := by decide +kernel
theorem dX12_isKnown_30 : decode cX12_isKnown 30 = .ok (.iload 4, 2) := by decide +kernel
theorem dX12_isKnown_32 : decode cX12_isKnown 32 = .ok (.iconst 0, 1) := by decide +kernel
theorem dX12_isKnown_33 : decode cX12_isKnown 33 = .ok (.iload_n 1, 1) := by decide +kernel
theorem dX12_isKnown_34 : decode cX12_isKnown 34 = .ok (.invokevirtual 468, 3) := by decide +kernel
theorem dX12_isKnown_37 : decode cX12_isKnown 37 = .ok (.ifCond .ne 19, 3) := by decide +kernel
theorem dX12_isKnown_40 : decode cX12_isKnown 40 = .ok (.iload_n 2, 1) := by decide +kernel
theorem dX12_isKnown_41 : decode cX12_isKnown 41 = .ok (.ifCond .eq 17, 3) := by decide +kernel
theorem dX12_isKnown_44 : decode cX12_isKnown 44 = .ok (.aload_n 0, 1) := by decide +kernel
theorem dX12_isKnown_45 : decode cX12_isKnown 45 = .ok (.iload_n 3, 1) := by decide +kernel
theorem dX12_isKnown_46 : decode cX12_isKnown 46 = .ok (.iload 4, 2) := by decide +kernel
theorem dX12_isKnown_48 : decode cX12_isKnown 48 = .ok (.iconst 1, 1) := by decide +kernel
theorem dX12_isKnown_49 : decode cX12_isKnown 49 = .ok (.iload_n 1, 1) := by decide +kernel
theorem dX12_isKnown_50 : decode cX12_isKnown 50 = .ok (.invokevirtual 468, 3) := by decide +kernel
theorem dX12_isKnown_53 : decode cX12_isKnown 53 = .ok (.ifCond .eq 5, 3) := by decide +kernel
theorem dX12_isKnown_56 : decode cX12_isKnown 56 = .ok (.iconst 0, 1) := by decide +kernel
theorem dX12_isKnown_57 : decode cX12_isKnown 57 = .ok (.ireturn, 1) := by decide +kernel
theorem dX12_isKnown_58 : decode cX12_isKnown 58 = .ok (.iinc 4 1, 3) := by decide +kernel
theorem dX12_isKnown_61 : decode cX12_isKnown 61 = .ok (.goto (-48), 3) := by decide +kernel
theorem dX12_isKnown_64 : decode cX12_isKnown 64 = .ok (.iinc 3 1, 3) := by decide +kernel
theorem dX12_isKnown_67 : decode cX12_isKnown 67 = .ok (.goto (-65), 3) := by decide +kernel
theorem dX12_isKnown_70 : decode cX12_isKnown 70 = .ok (.iconst 1, 1) := by decide +kernel
theorem dX12_isKnown_71 : decode cX12_isKnown 71 = .ok (.ireturn, 1) := by decide +kernel
theorem dX12_isLetter_0 : decode cX12_isLetter 0 = .ok (.iload_n 0, 1) := by decide +kernel
theorem dX12_isLetter_1 : decode cX12_isLetter 1 = .ok (.bipush 97, 2) := by decide +kernel
theorem dX12_isLetter_3 : decode cX12_isLetter 3 = .ok (.if_icmp .lt 13, 3) := by decide +kernel
theorem dX12_isLetter_6 : decode cX12_isLetter 6 = .ok (.iload_n 0, 1) := by decide +kernel
theorem dX12_isLetter_7 : decode cX12_isLetter 7 = .ok (.bipush 122, 2) := by decide +kernel
theorem dX12_isLetter_9 : decode cX12_isLetter 9 = .ok (.if_icmp .gt 7, 3) := by decide +kernel
theorem dX12_isLetter_12 : decode cX12_isLetter 12 = .ok (.iconst 1, 1) := by decide +kernel
theorem dX12_isLetter_13 : decode cX12_isLetter 13 = .ok (.goto 4, 3) := by decide +kernel
theorem dX12_isLetter_16 : decode cX12_isLetter 16 = .ok (.iconst 0, 1) := by decide +kernel
theorem dX12_isLetter_17 : decode cX12_isLetter 17 = .ok (.ireturn, 1) := by decide +kernel
theorem dX12_isLoop_0 : decode cX12_isLoop 0 = .ok (.aload_n 0, 1) := by decide +kernel
theorem dX12_isLoop_1 : decode cX12_isLoop 1 = .ok (.bipush 108, 2) := by decide +kernel
theorem dX12_isLoop_3 : decode cX12_isLoop 3 = .ok (.bipush 111, 2) := by decide +kernel
theorem dX12_isLoop_5 : decode cX12_isLoop 5 = .ok (.bipush 111, 2) := by decide +kernel
theorem dX12_isLoop_7 : decode cX12_isLoop 7 = .ok (.bipush 112, 2) := by decide +kernel
theorem dX12_isLoop_9 : decode cX12_isLoop 9 = .ok (.iconst 0, 1) := by decide +kernel
theorem dX12_isLoop_10 : decode cX12_isLoop 10 = .ok (.iconst 0, 1) := by decide +kernel
theorem dX12_isLoop_11 : decode cX12_isLoop 11 = .ok (.invokestatic 158, 3) := by decide +kernel
theorem dX12_isLoop_14 : decode cX12_isLoop 14 = .ok (.invokevirtual 164, 3) := by decide +kernel
theorem dX12_isLoop_17 : decode cX12_isLoop 17 = .ok (.ireturn, 1) := by decide +kernel
theorem dX12_isOnly_0 : decode cX12_isOnly 0 = .ok (.aload_n 0, 1) := by decide +kernel
theorem dX12_isOnly_1 : decode cX12_isOnly 1 = .ok (.iload_n 1, 1) := by decide +kernel
theorem dX12_isOnly_2 : decode cX12_isOnly 2 = .ok (.invokevirtual 278, 3) := by decide +kernel
theorem dX12_isOnly_5 : decode cX12_isOnly 5 = .ok (.ifCond .lt 26, 3) := by decide +kernel
theorem dX12_isOnly_8 : decode cX12_isOnly 8 = .ok (.aload_n 0, 1) := by decide +kernel
theorem dX12_isOnly_9 : decode cX12_isOnly 9 = .ok (.getfield 35, 3) := by decide +kernel
theorem dX12_isOnly_12 : decode cX12_isOnly 12 = .ok (.sipush 150, 3) := by decide +kernel
theorem dX12_isOnly_15 : decode cX12_isOnly 15 = .ok (.iload_n 1, 1) := by decide +kernel
theorem dX12_isOnly_16 : decode cX12_isOnly 16 = .ok (.iadd, 1) := by decide +kernel
theorem dX12_isOnly_17 : decode cX12_isOnly 17 = .ok (.iaload, 1) := by decide +kernel
theorem dX12_isOnly_18 : decode cX12_isOnly 18 = .ok (.iconst 1, 1) := by decide +kernel
theorem dX12_isOnly_19 : decode cX12_isOnly 19 = .ok (.if_icmp .eq 12, 3) := by decide +kernel
theorem dX12_isOnly_22 : decode cX12_isOnly 22 = .ok (.aload_n 0, 1) := by decide +kernel
theorem dX12_isOnly_23 : decode cX12_isOnly 23 = .ok (.iload_n 1, 1) := by decide +kernel
theorem dX12_isOnly_24 : decode cX12_isOnly 24 = .ok (.iload_n 2, 1) := by decide +kernel
theorem dX12_isOnly_25 : decode cX12_isOnly 25 = .ok (.invokevirtual 345, 3) := by decide +kernel
theorem dX12_isOnly_28 : decode cX12_isOnly 28 = .ok (.ifCond .ne 5, 3) := by decide +kernel
theorem dX12_isOnly_31 : decode cX12_isOnly 31 = .ok (.iconst 0, 1) := by decide +kernel
theorem dX12_isOnly_32 : decode cX12_isOnly 32 = .ok (.ireturn, 1) := by decide +kernel
theorem dX12_isOnly_33 : decode cX12_isOnly 33 = .ok (.aload_n 0, 1) := by decide +kernel
theorem dX12_isOnly_34 : decode cX12_isOnly 34 = .ok (.aload_n 0, 1) := by decide +kernel
theorem dX12_isOnly_35 : decode cX12_isOnly 35 = .ok (.iload_n 1, 1) := by decide +kernel
theorem dX12_isOnly_36 : decode cX12_isOnly 36 = .ok (.invokevirtual 278, 3) := by decide +kernel
theorem dX12_isOnly_39 : decode cX12_isOnly 39 = .ok (.invokevirtual 292, 3) := by decide +kernel
theorem dX12_isOnly_42 : decode cX12_isOnly 42 = .ok (.iconst 0, 1) := by decide +kernel
theorem dX12_isOnly_43 : decode cX12_isOnly 43 = .ok (.istore_n 3, 1) := by decide +kernel
theorem dX12_isOnly_44 : decode cX12_isOnly 44 = .ok (.iconst 0, 1) := by decide +kernel
theorem dX12_isOnly_45 : decode cX12_isOnly 45 = .ok (.istore 4, 2) := by decide +kernel
theorem dX12_isOnly_47 : decode cX12_isOnly 47 = .ok (.iload 4, 2) := by decide +kernel
theorem dX12_isOnly_49 : decode cX12_isOnly 49 = .ok (.aload_n 0, 1) := by decide +kernel
theorem dX12_isOnly_50 : decode cX12_isOnly 50 = .ok (.getfield 286, 3) := by decide +kernel
theorem dX12_isOnly_53 : decode cX12_isOnly 53 = .ok (.if_icmp .ge 32, 3) := by decide +kernel
theorem dX12_isOnly_56 : decode cX12_isOnly 56 = .ok (.iload_n 3, 1) := by decide +kernel
theorem dX12_isOnly_57 : decode cX12_isOnly 57 = .ok (.aload_n 0, 1) := by decide +kernel
theorem dX12_isOnly_58 : decode cX12_isOnly 58 = .ok (.aload_n 0, 1) := by decide +kernel
theorem dX12_isOnly_59 : decode cX12_isOnly 59 = .ok (.getfield 41, 3) := by decide +kernel
theorem dX12_isOnly_62 : decode cX12_isOnly 62 = .ok (.iload 4, 2) := by decide +kernel
theorem dX12_isOnly_64 : decode cX12_isOnly 64 = .ok (.iaload, 1) := by decide +kernel
theorem dX12_isOnly_65 : decode cX12_isOnly 65 = .ok (.iload_n 2, 1) := by decide +kernel
theorem dX12_isOnly_66 : decode cX12_isOnly 66 = .ok (.invokevirtual 345, 3) := by decide +kernel
theorem dX12_isOnly_69 : decode cX12_isOnly 69 = .ok (.ifCond .eq 7, 3) := by decide +kernel
theorem dX12_isOnly_72 : decode cX12_isOnly 72 = .ok (.iconst 1, 1) := by decide +kernel
theorem dX12_isOnly_73 : decode cX12_isOnly 73 = .ok (.goto 4, 3) := by decide +kernel
theorem dX12_isOnly_76 : decode cX12_isOnly 76 = .ok (.iconst 0, 1) := by decide +kernel
theorem dX12_isOnly_77 : decode cX12_isOnly 77 = .ok (.iadd, 1) := by decide +kernel
theorem dX12_isOnly_78 : decode cX12_isOnly 78 = .ok (.istore_n 3, 1) := by decide +kernel
theorem dX12_isOnly_79 : decode cX12_isOnly 79 = .ok (.iinc 4 1, 3) := by decide +kernel
theorem dX12_isOnly_82 : decode cX12_isOnly 82 = .ok (.goto (-35), 3) := by decide +kernel
theorem dX12_isOnly_85 : decode cX12_isOnly 85 = .ok (.iload_n 3, 1) := by decide +kernel
theorem dX12_isOnly_86 : decode cX12_isOnly 86 = .ok (.iconst 1, 1) := by decide +kernel
theorem dX12_isOnly_87 : decode cX12_isOnly 87 = .ok (.if_icmp .ne 7, 3) := by decide +kernel
theorem dX12_isOnly_90 : decode cX12_isOnly 90 = .ok (.iconst 1, 1) := by decide +kernel
theorem dX12_isOnly_91 : decode cX12_isOnly 91 = .ok (.goto 4, 3) := by decide +kernel
theorem dX12_isOnly_94 : decode cX12_isOnly 94 = .ok (.iconst 0, 1) := by decide +kernel
theorem dX12_isOnly_95 : decode cX12_isOnly 95 = .ok (.ireturn, 1) := by decide +kernel
theorem dX12_isOrdered_0 : decode cX12_isOrdered 0 = .ok (.iconst 0, 1) := by decide +kernel
theorem dX12_isOrdered_1 : decode cX12_isOrdered 1 = .ok (.istore_n 2, 1) := by decide +kernel
theorem dX12_isOrdered_2 : decode cX12_isOrdered 2 = .ok (.iload_n 2, 1) := by decide +kernel
theorem dX12_isOrdered_3 : decode cX12_isOrdered 3 = .ok (.aload_n 0, 1) := by decide +kernel
theorem dX12_isOrdered_4 : decode cX12_isOrdered 4 = .ok (.getfield 402, 3) := by decide +kernel
theorem dX12_isOrdered_7 : decode cX12_isOrdered 7 = .ok (.if_icmp .ge 21, 3) := by decide +kernel
theorem dX12_isOrdered_10 : decode cX12_isOrdered 10 = .ok (.aload_n 0, 1) := by decide +kernel
theorem dX12_isOrdered_11 : decode cX12_isOrdered 11 = .ok (.getfield 47, 3) := by decide +kernel
theorem dX12_isOrdered_14 : decode cX12_isOrdered 14 = .ok (.iload_n 2, 1) := by decide +kernel
theorem dX12_isOrdered_15 : decode cX12_isOrdered 15 = .ok (.iaload, 1) := by decide +kernel
theorem dX12_isOrdered_16 : decode cX12_isOrdered 16 = .ok (.iload_n 1, 1) := by decide +kernel
theorem dX12_isOrdered_17 : decode cX12_isOrdered 17 = .ok (.if_icmp .ne 5, 3) := by decide +kernel
theorem dX12_isOrdered_20 : decode cX12_isOrdered 20 = .ok (.iconst 1, 1) := by decide +kernel
theorem dX12_isOrdered_21 : decode cX12_isOrdered 21 = .ok (.ireturn, 1) := by decide +kernel
theorem dX12_isOrdered_22 : decode cX12_isOrdered 22 = .ok (.iinc 2 1, 3) := by decide +kernel
theorem dX12_isOrdered_25 : decode cX12_isOrdered 25 = .ok (.goto (-23), 3) := by decide +kernel
theorem dX12_isOrdered_28 : decode cX12_isOrdered 28 = .ok (.iconst 0, 1) := by decide +kernel
theorem dX12_isOrdered_29 : decode cX12_isOrdered 29 = .ok (.ireturn, 1) := by decide +kernel
theorem dX12_isRing_0 : decode cX12_isRing 0 = .ok (.iload_n 1, 1) := by decide +kernel
theorem dX12_isRing_1 : decode cX12_isRing 1 = .ok (.i2l, 1) := by decide +kernel
