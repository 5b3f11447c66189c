theorem dX9_word_115 : decode cX9_word 115 = .ok (.iconst 0, 1) := by decide +kernel
theorem dX9_word_116 : decode cX9_word 116 = .ok (.ireturn, 1) := by decide +kernel
theorem dX9_letter_0 : decode cX9_letter 0 = .ok (.aload_n 0, 1) := by decide +kernel
theorem dX9_letter_1 : decode cX9_letter 1 = .ok (.iconst 0, 1) := by decide +kernel
theorem dX9_letter_2 : decode cX9_letter 2 = .ok (.putfield 60, 3) := by decide +kernel
theorem dX9_letter_5 : decode cX9_letter 5 = .ok (.aload_n 0, 1) := by decide +kernel
theorem dX9_letter_6 : decode cX9_letter 6 = .ok (.aload_n 0, 1) := by decide +kernel
theorem dX9_letter_7 : decode cX9_letter 7 = .ok (.iload_n 1, 1) := by decide +kernel
theorem dX9_letter_8 : decode cX9_letter 8 = .ok (.invokevirtual 180, 3) := by decide +kernel
theorem dX9_letter_11 : decode cX9_letter 11 = .ok (.ifCond .eq 38, 3) := by decide +kernel
theorem dX9_letter_14 : decode cX9_letter 14 = .ok (.iload_n 2, 1) := by decide +kernel
theorem dX9_letter_15 : decode cX9_letter 15 = .ok (.iconst 0, 1) := by decide +kernel
theorem dX9_letter_16 : decode cX9_letter 16 = .ok (.aload_n 0, 1) := by decide +kernel
theorem dX9_letter_17 : decode cX9_letter 17 = .ok (.getfield 20, 3) := by decide +kernel
theorem dX9_letter_20 : decode cX9_letter 20 = .ok (.aload_n 0, 1) := by decide +kernel
theorem dX9_letter_21 : decode cX9_letter 21 = .ok (.iload_n 1, 1) := by decide +kernel
theorem dX9_letter_22 : decode cX9_letter 22 = .ok (.invokevirtual 180, 3) := by decide +kernel
theorem dX9_letter_25 : decode cX9_letter 25 = .ok (.ifCond .eq 7, 3) := by decide +kernel
theorem dX9_letter_28 : decode cX9_letter 28 = .ok (.iload_n 1, 1) := by decide +kernel
theorem dX9_letter_29 : decode cX9_letter 29 = .ok (.goto 4, 3) := by decide +kernel
theorem dX9_letter_32 : decode cX9_letter 32 = .ok (.iconst 0, 1) := by decide +kernel
theorem dX9_letter_33 : decode cX9_letter 33 = .ok (.invokestatic 103, 3) := by decide +kernel
theorem dX9_letter_36 : decode cX9_letter 36 = .ok (.bipush 10, 2) := by decide +kernel
theorem dX9_letter_38 : decode cX9_letter 38 = .ok (.iadd, 1) := by decide +kernel
theorem dX9_letter_39 : decode cX9_letter 39 = .ok (.laload, 1) := by decide +kernel
theorem dX9_letter_40 : decode cX9_letter 40 = .ok (.l2i, 1) := by decide +kernel
theorem dX9_letter_41 : decode cX9_letter 41 = .ok (.iconst 1, 1) := by decide +kernel
theorem dX9_letter_42 : decode cX9_letter 42 = .ok (.isub, 1) := by decide +kernel
theorem dX9_letter_43 : decode cX9_letter 43 = .ok (.invokestatic 116, 3) := by decide +kernel
theorem dX9_letter_46 : decode cX9_letter 46 = .ok (.ifCond .ne 7, 3) := by decide +kernel
theorem dX9_letter_49 : decode cX9_letter 49 = .ok (.iconst 1, 1) := by decide +kernel
theorem dX9_letter_50 : decode cX9_letter 50 = .ok (.goto 4, 3) := by decide +kernel
theorem dX9_letter_53 : decode cX9_letter 53 = .ok (.iconst 0, 1) := by decide +kernel
theorem dX9_letter_54 : decode cX9_letter 54 = .ok (.iconst 1, 1) := by decide +kernel
theorem dX9_letter_55 : decode cX9_letter 55 = .ok (.iconst 0, 1) := by decide +kernel
theorem dX9_letter_56 : decode cX9_letter 56 = .ok (.invokevirtual 119, 3) := by decide +kernel
theorem dX9_letter_59 : decode cX9_letter 59 = .ok (.ifCond .eq 5, 3) := by decide +kernel
theorem dX9_letter_62 : decode cX9_letter 62 = .ok (.iconst 0, 1) := by decide +kernel
theorem dX9_letter_63 : decode cX9_letter 63 = .ok (.ireturn, 1) := by decide +kernel
theorem dX9_letter_64 : decode cX9_letter 64 = .ok (.aload_n 0, 1) := by decide +kernel
theorem dX9_letter_65 : decode cX9_letter 65 = .ok (.getfield 20, 3) := by decide +kernel
theorem dX9_letter_68 : decode cX9_letter 68 = .ok (.iload_n 1, 1) := by decide +kernel
theorem dX9_letter_69 : decode cX9_letter 69 = .ok (.invokestatic 103, 3) := by decide +kernel
theorem dX9_letter_72 : decode cX9_letter 72 = .ok (.iload_n 2, 1) := by decide +kernel
theorem dX9_letter_73 : decode cX9_letter 73 = .ok (.iadd, 1) := by decide +kernel
theorem dX9_letter_74 : decode cX9_letter 74 = .ok (.laload, 1) := by decide +kernel
theorem dX9_letter_75 : decode cX9_letter 75 = .ok (.l2i, 1) := by decide +kernel
theorem dX9_letter_76 : decode cX9_letter 76 = .ok (.ireturn, 1) := by decide +kernel
theorem dX9_isMore_0 : decode cX9_isMore 0 = .ok (.iload_n 0, 1) := by decide +kernel
theorem dX9_isMore_1 : decode cX9_isMore 1 = .ok (.ifCond .ne 16, 3) := by decide +kernel
theorem dX9_isMore_4 : decode cX9_isMore 4 = .ok (.iload_n 1, 1) := by decide +kernel
theorem dX9_isMore_5 : decode cX9_isMore 5 = .ok (.iload_n 3, 1) := by decide +kernel
theorem dX9_isMore_6 : decode cX9_isMore 6 = .ok (.if_icmp .le 7, 3) := by decide +kernel
theorem dX9_isMore_9 : decode cX9_isMore 9 = .ok (.iconst 1, 1) := by decide +kernel
theorem dX9_isMore_10 : decode cX9_isMore 10 = .ok (.goto 27, 3) := by decide +kernel
theorem dX9_isMore_13 : decode cX9_isMore 13 = .ok (.iconst 0, 1) := by decide +kernel
theorem dX9_isMore_14 : decode cX9_isMore 14 = .ok (.goto 23, 3) := by decide +kernel
theorem dX9_isMore_17 : decode cX9_isMore 17 = .ok (.iload_n 1, 1) := by decide +kernel
theorem dX9_isMore_18 : decode cX9_isMore 18 = .ok (.i2l, 1) := by decide +kernel
theorem dX9_isMore_19 : decode cX9_isMore 19 = .ok (.iload 4, 2) := by decide +kernel
theorem dX9_isMore_21 : decode cX9_isMore 21 = .ok (.i2l, 1) := by decide +kernel
theorem dX9_isMore_22 : decode cX9_isMore 22 = .ok (.lmul, 1) := by decide +kernel
theorem dX9_isMore_23 : decode cX9_isMore 23 = .ok (.iload_n 3, 1) := by decide +kernel
theorem dX9_isMore_24 : decode cX9_isMore 24 = .ok (.i2l, 1) := by decide +kernel
theorem dX9_isMore_25 : decode cX9_isMore 25 = .ok (.iload_n 2, 1) := by decide +kernel
theorem dX9_isMore_26 : decode cX9_isMore 26 = .ok (.i2l, 1) := by decide +kernel
theorem dX9_isMore_27 : decode cX9_isMore 27 = .ok (.lmul, 1) := by decide +kernel
theorem dX9_isMore_28 : decode cX9_isMore 28 = .ok (.lcmp, 1) := by decide +kernel
theorem dX9_isMore_29 : decode cX9_isMore 29 = .ok (.ifCond .le 7, 3) := by decide +kernel
theorem dX9_isMore_32 : decode cX9_isMore 32 = .ok (.iconst 1, 1) := by decide +kernel
theorem dX9_isMore_33 : decode cX9_isMore 33 = .ok (.goto 4, 3) := by decide +kernel
theorem dX9_isMore_36 : decode cX9_isMore 36 = .ok (.iconst 0, 1) := by decide +kernel
theorem dX9_isMore_37 : decode cX9_isMore 37 = .ok (.ireturn, 1) := by decide +kernel
theorem dX9_chosen_0 : decode cX9_chosen 0 = .ok (.iconst (-1), 1) := by decide +kernel
theorem dX9_chosen_1 : decode cX9_chosen 1 = .ok (.istore_n 3, 1) := by decide +kernel
theorem dX9_chosen_2 : decode cX9_chosen 2 = .ok (.iconst 0, 1) := by decide +kernel
theorem dX9_chosen_3 : decode cX9_chosen 3 = .ok (.istore 4, 2) := by decide +kernel
theorem dX9_chosen_5 : decode cX9_chosen 5 = .ok (.iconst 1, 1) := by decide +kernel
theorem dX9_chosen_6 : decode cX9_chosen 6 = .ok (.istore 5, 2) := by decide +kernel
theorem dX9_chosen_8 : decode cX9_chosen 8 = .ok (.iconst 0, 1) := by decide +kernel
theorem dX9_chosen_9 : decode cX9_chosen 9 = .ok (.istore 6, 2) := by decide +kernel
theorem dX9_chosen_11 : decode cX9_chosen 11 = .ok (.iload 6, 2) := by decide +kernel
theorem dX9_chosen_13 : decode cX9_chosen 13 = .ok (.aload_n 0, 1) := by decide +kernel
theorem dX9_chosen_14 : decode cX9_chosen 14 = .ok (.invokevirtual 133, 3) := by decide +kernel
theorem dX9_chosen_17 : decode cX9_chosen 17 = .ok (.if_icmp .ge 89, 3) := by decide +kernel
theorem dX9_chosen_20 : decode cX9_chosen 20 = .ok (.aload_n 0, 1) := by decide +kernel
theorem dX9_chosen_21 : decode cX9_chosen 21 = .ok (.iload_n 2, 1) := by decide +kernel
theorem dX9_chosen_22 : decode cX9_chosen 22 = .ok (.iload 6, 2) := by decide +kernel
theorem dX9_chosen_24 : decode cX9_chosen 24 = .ok (.invokevirtual 189, 3) := by decide +kernel
theorem dX9_chosen_27 : decode cX9_chosen 27 = .ok (.ifCond .ne 6, 3) := by decide +kernel
theorem dX9_chosen_30 : decode cX9_chosen 30 = .ok (.goto 70, 3) := by decide +kernel
theorem dX9_chosen_33 : decode cX9_chosen 33 = .ok (.aload_n 0, 1) := by decide +kernel
theorem dX9_chosen_34 : decode cX9_chosen 34 = .ok (.dup, 1) := by decide +kernel
theorem dX9_chosen_35 : decode cX9_chosen 35 = .ok (.getfield 202, 3) := by decide +kernel
theorem dX9_chosen_38 : decode cX9_chosen 38 = .ok (.iconst 1, 1) := by decide +kernel
theorem dX9_chosen_39 : decode cX9_chosen 39 = .ok (.iadd, 1) := by decide +kernel
theorem dX9_chosen_40 : decode cX9_chosen 40 = .ok (.putfield 202, 3) := by decide +kernel
theorem dX9_chosen_43 : decode cX9_chosen 43 = .ok (.aload_n 0, 1) := by decide +kernel
theorem dX9_chosen_44 : decode cX9_chosen 44 = .ok (.iload_n 2, 1) := by decide +kernel
theorem dX9_chosen_45 : decode cX9_chosen 45 = .ok (.iload 6, 2) := by decide +kernel
theorem dX9_chosen_47 : decode cX9_chosen 47 = .ok (.invokevirtual 193, 3) := by decide +kernel
theorem dX9_chosen_50 : decode cX9_chosen 50 = .ok (.istore 7, 2) := by decide +kernel
theorem dX9_chosen_52 : decode cX9_chosen 52 = .ok (.aload_n 0, 1) := by decide +kernel
theorem dX9_chosen_53 : decode cX9_chosen 53 = .ok (.iload_n 2, 1) := by decide +kernel
theorem dX9_chosen_54 : decode cX9_chosen 54 = .ok (.iload 6, 2) := by decide +kernel
theorem dX9_chosen_56 : decode cX9_chosen 56 = .ok (.invokevirtual 169, 3) := by decide +kernel
theorem dX9_chosen_59 : decode cX9_chosen 59 = .ok (.istore 8, 2) := by decide +kernel
theorem dX9_chosen_61 : decode cX9_chosen 61 = .ok (.iload 7, 2) := by decide +kernel
theorem dX9_chosen_63 : decode cX9_chosen 63 = .ok (.ifCond .eq 37, 3) := by decide +kernel
theorem dX9_chosen_66 : decode cX9_chosen 66 = .ok (.iload_n 3, 1) := by decide +kernel
theorem dX9_chosen_67 : decode cX9_chosen 67 = .ok (.iconst (-1), 1) := by decide +kernel
theorem dX9_chosen_68 : decode cX9_chosen 68 = .ok (.if_icmp .eq 21, 3) := by decide +kernel
theorem dX9_chosen_71 : decode cX9_chosen 71 = .ok (.iload_n 1, 1) := by decide +kernel
theorem dX9_chosen_72 : decode cX9_chosen 72 = .ok (.iload 7, 2) := by decide +kernel
theorem dX9_chosen_74 : decode cX9_chosen 74 = .ok (.iload 8, 2) := by decide +kernel
theorem dX9_chosen_76 : decode cX9_chosen 76 = .ok (.iload 4, 2) := by decide +kernel
theorem dX9_chosen_78 : decode cX9_chosen 78 = .ok (.iload 5, 2) := by decide +kernel
theorem dX9_chosen_80 : decode cX9_chosen 80 = .ok (.invokestatic 205, 3) := by decide +kernel
theorem dX9_chosen_83 : decode cX9_chosen 83 = .ok (.ifCond .ne 6, 3) := by decide +kernel
theorem dX9_chosen_86 : decode cX9_chosen 86 = .ok (.goto 14, 3) := by decide +kernel
theorem dX9_chosen_89 : decode cX9_chosen 89 = .ok (.iload 6, 2) := by decide +kernel
theorem dX9_chosen_91 : decode cX9_chosen 91 = .ok (.istore_n 3, 1) := by decide +kernel
theorem dX9_chosen_92 : decode cX9_chosen 92 = .ok (.iload 7, 2) := by decide +kernel
theorem dX9_chosen_94 : decode cX9_chosen 94 = .ok (.istore 4, 2) := by decide +kernel
theorem dX9_chosen_96 : decode cX9_chosen 96 = .ok (.iload 8, 2) := by decide +kernel
theorem dX9_chosen_98 : decode cX9_chosen 98 = .ok (.istore 5, 2) := by decide +kernel
theorem dX9_chosen_100 : decode cX9_chosen 100 = .ok (.iinc 6 1, 3) := by decide +kernel
theorem dX9_chosen_103 : decode cX9_chosen 103 = .ok (.goto (-92), 3) := by decide +kernel
theorem dX9_chosen_106 : decode cX9_chosen 106 = .ok (.iload_n 3, 1) := by decide +kernel
theorem dX9_chosen_107 : decode cX9_chosen 107 = .ok (.ireturn, 1) := by decide +kernel
theorem dX9_goes_0 : decode cX9_goes 0 = .ok (.aload_n 0, 1) := by decide +kernel
theorem dX9_goes_1 : decode cX9_goes 1 = .ok (.iconst 0, 1) := by decide +kernel
theorem dX9_goes_2 : decode cX9_goes 2 = .ok (.putfield 209, 3) := by decide +kernel
theorem dX9_goes_5 : decode cX9_goes 5 = .ok (.aload_n 0, 1) := by decide +kernel
theorem dX9_goes_6 : decode cX9_goes 6 = .ok (.iconst 0, 1) := by decide +kernel
theorem dX9_goes_7 : decode cX9_goes 7 = .ok (.putfield 212, 3) := by decide +kernel
theorem dX9_goes_10 : decode cX9_goes 10 = .ok (.aload_n 0, 1) := by decide +kernel
theorem dX9_goes_11 : decode cX9_goes 11 = .ok (.iconst 0, 1) := by decide +kernel
theorem dX9_goes_12 : decode cX9_goes 12 = .ok (.putfield 202, 3) := by decide +kernel
theorem dX9_goes_15 : decode cX9_goes 15 = .ok (.aload_n 0, 1) := by decide +kernel
theorem dX9_goes_16 : decode cX9_goes 16 = .ok (.iload_n 1, 1) := by decide +kernel
theorem dX9_goes_17 : decode cX9_goes 17 = .ok (.iconst 0, 1) := by decide +kernel
theorem dX9_goes_18 : decode cX9_goes 18 = .ok (.invokevirtual 215, 3) := by decide +kernel
theorem dX9_goes_21 : decode cX9_goes 21 = .ok (.istore_n 2, 1) := by decide +kernel
theorem dX9_goes_22 : decode cX9_goes 22 = .ok (.iload_n 2, 1) := by decide +kernel
theorem dX9_goes_23 : decode cX9_goes 23 = .ok (.iconst (-1), 1) := by decide +kernel
theorem dX9_goes_24 : decode cX9_goes 24 = .ok (.if_icmp .eq 50, 3) := by decide +kernel
theorem dX9_goes_27 : decode cX9_goes 27 = .ok (.aload_n 0, 1) := by decide +kernel
theorem dX9_goes_28 : decode cX9_goes 28 = .ok (.getfield 32, 3) := by decide +kernel
theorem dX9_goes_31 : decode cX9_goes 31 = .ok (.aload_n 0, 1) := by decide +kernel
theorem dX9_goes_32 : decode cX9_goes 32 = .ok (.getfield 209, 3) := by decide +kernel
theorem dX9_goes_35 : decode cX9_goes 35 = .ok (.iload_n 2, 1) := by decide +kernel
theorem dX9_goes_36 : decode cX9_goes 36 = .ok (.iastore, 1) := by decide +kernel
theorem dX9_goes_37 : decode cX9_goes 37 = .ok (.aload_n 0, 1) := by decide +kernel
theorem dX9_goes_38 : decode cX9_goes 38 = .ok (.dup, 1) := by decide +kernel
theorem dX9_goes_39 : decode cX9_goes 39 = .ok (.getfield 209, 3) := by decide +kernel
theorem dX9_goes_42 : decode cX9_goes 42 = .ok (.iconst 1, 1) := by decide +kernel
theorem dX9_goes_43 : decode cX9_goes 43 = .ok (.iadd, 1) := by decide +kernel
theorem dX9_goes_44 : decode cX9_goes 44 = .ok (.putfield 209, 3) := by decide +kernel
theorem dX9_goes_47 : decode cX9_goes 47 = .ok (.aload_n 0, 1) := by decide +kernel
theorem dX9_goes_48 : decode cX9_goes 48 = .ok (.dup, 1) := by decide +kernel
theorem dX9_goes_49 : decode cX9_goes 49 = .ok (.getfield 212, 3) := by decide +kernel
theorem dX9_goes_52 : decode cX9_goes 52 = .ok (.aload_n 0, 1) := by decide +kernel
theorem dX9_goes_53 : decode cX9_goes 53 = .ok (.iload_n 2, 1) := by decide +kernel
theorem dX9_goes_54 : decode cX9_goes 54 = .ok (.invokevirtual 163, 3) := by decide +kernel
theorem dX9_goes_57 : decode cX9_goes 57 = .ok (.ior, 1) := by decide +kernel
theorem dX9_goes_58 : decode cX9_goes 58 = .ok (.putfield 212, 3) := by decide +kernel
theorem dX9_goes_61 : decode cX9_goes 61 = .ok (.aload_n 0, 1) := by decide +kernel
theorem dX9_goes_62 : decode cX9_goes 62 = .ok (.iload_n 1, 1) := by decide +kernel
theorem dX9_goes_63 : decode cX9_goes 63 = .ok (.aload_n 0, 1) := by decide +kernel
theorem dX9_goes_64 : decode cX9_goes 64 = .ok (.getfield 212, 3) := by decide +kernel
theorem dX9_goes_67 : decode cX9_goes 67 = .ok (.invokevirtual 215, 3) := by decide +kernel
theorem dX9_goes_70 : decode cX9_goes 70 = .ok (.istore_n 2, 1) := by decide +kernel
theorem dX9_goes_71 : decode cX9_goes 71 = .ok (.goto (-49), 3) := by decide +kernel
theorem dX9_goes_74 : decode cX9_goes 74 = .ok (.return_, 1) := by decide +kernel
theorem dX9_single_0 : decode cX9_single 0 = .ok (.iconst (-1), 1) := by decide +kernel
theorem dX9_single_1 : decode cX9_single 1 = .ok (.istore_n 1, 1) := by decide +kernel
theorem dX9_single_2 : decode cX9_single 2 = .ok (.iconst 0, 1) := by decide +kernel
theorem dX9_single_3 : decode cX9_single 3 = .ok (.istore_n 2, 1) := by decide +kernel
theorem dX9_single_4 : decode cX9_single 4 = .ok (.iload_n 2, 1) := by decide +kernel
theorem dX9_single_5 : decode cX9_single 5 = .ok (.aload_n 0, 1) := by decide +kernel
theorem dX9_single_6 : decode cX9_single 6 = .ok (.invokevirtual 133, 3) := by decide +kernel
theorem dX9_single_9 : decode cX9_single 9 = .ok (.if_icmp .ge 44, 3) := by decide +kernel
theorem dX9_single_12 : decode cX9_single 12 = .ok (.aload_n 0, 1) := by decide +kernel
theorem dX9_single_13 : decode cX9_single 13 = .ok (.iconst 0, 1) := by decide +kernel
theorem dX9_single_14 : decode cX9_single 14 = .ok (.iload_n 2, 1) := by decide +kernel
theorem dX9_single_15 : decode cX9_single 15 = .ok (.invokevirtual 189, 3) := by decide +kernel
theorem dX9_single_18 : decode cX9_single 18 = .ok (.ifCond .eq 29, 3) := by decide +kernel
theorem dX9_single_21 : decode cX9_single 21 = .ok (.aload_n 0, 1) := by decide +kernel
theorem dX9_single_22 : decode cX9_single 22 = .ok (.iconst 0, 1) := by decide +kernel
theorem dX9_single_23 : decode cX9_single 23 = .ok (.iload_n 2, 1) := by decide +kernel
theorem dX9_single_24 : decode cX9_single 24 = .ok (.invokevirtual 193, 3) := by decide +kernel
theorem dX9_single_27 : decode cX9_single 27 = .ok (.iload_n 1, 1) := by decide +kernel
theorem dX9_single_28 : decode cX9_single 28 = .ok (.iconst (-1), 1) := by decide +kernel
theorem dX9_single_29 : decode cX9_single 29 = .ok (.if_icmp .ne 7, 3) := by decide +kernel
theorem dX9_single_32 : decode cX9_single 32 = .ok (.iconst 0, 1) := by decide +kernel
theorem dX9_single_33 : decode cX9_single 33 = .ok (.goto 9, 3) := by decide +kernel
theorem dX9_single_36 : decode cX9_single 36 = .ok (.aload_n 0, 1) := by decide +kernel
theorem dX9_single_37 : decode cX9_single 37 = .ok (.iconst 0, 1) := by decide +kernel
theorem dX9_single_38 : decode cX9_single 38 = .ok (.iload_n 1, 1) := by decide +kernel
theorem dX9_single_39 : decode cX9_single 39 = .ok (.invokevirtual 193, 3) := by decide +kernel
theorem dX9_single_42 : decode cX9_single 42 = .ok (.if_icmp .le 5, 3) := by decide +kernel
theorem dX9_single_45 : decode cX9_single 45 = .ok (.iload_n 2, 1) := by decide +kernel
theorem dX9_single_46 : decode cX9_single 46 = .ok (.istore_n 1, 1) := by decide +kernel
theorem dX9_single_47 : decode cX9_single 47 = .ok (.iinc 2 1, 3) := by decide +kernel
theorem dX9_single_50 : decode cX9_single 50 = .ok (.goto (-46), 3) := by decide +kernel
theorem dX9_single_53 : decode cX9_single 53 = .ok (.iload_n 1, 1) := by decide +kernel
theorem dX9_single_54 : decode cX9_single 54 = .ok (.ireturn, 1) := by decide +kernel
theorem dX9_lays_0 : decode cX9_lays 0 = .ok (.aload_n 0, 1) := by decide +kernel
theorem dX9_lays_1 : decode cX9_lays 1 = .ok (.iload_n 1, 1) := by decide +kernel
theorem dX9_lays_2 : decode cX9_lays 2 = .ok (.ifCond .ne 7, 3) := by decide +kernel
theorem dX9_lays_5 : decode cX9_lays 5 = .ok (.iconst 0, 1) := by decide +kernel
theorem dX9_lays_6 : decode cX9_lays 6 = .ok (.goto 4, 3) := by decide +kernel
theorem dX9_lays_9 : decode cX9_lays 9 = .ok (.iconst 1, 1) := by decide +kernel
theorem dX9_lays_10 : decode cX9_lays 10 = .ok (.invokevirtual 218, 3) := by decide +kernel
theorem dX9_lays_13 : decode cX9_lays 13 = .ok (.iload_n 1, 1) := by decide +kernel
theorem dX9_lays_14 : decode cX9_lays 14 = .ok (.iconst 2, 1) := by decide +kernel
theorem dX9_lays_15 : decode cX9_lays 15 = .ok (.if_icmp .ge 4, 3) := by decide +kernel
theorem dX9_lays_18 : decode cX9_lays 18 = .ok (.return_, 1) := by decide +kernel
theorem dX9_lays_19 : decode cX9_lays 19 = .ok (.aload_n 0, 1) := by decide +kernel
theorem dX9_lays_20 : decode cX9_lays 20 = .ok (.invokevirtual 221, 3) := by decide +kernel
theorem dX9_lays_23 : decode cX9_lays 23 = .ok (.istore_n 2, 1) := by decide +kernel
theorem dX9_lays_24 : decode cX9_lays 24 = .ok (.iload_n 2, 1) := by decide +kernel
theorem dX9_lays_25 : decode cX9_lays 25 = .ok (.iconst (-1), 1) := by decide +kernel
theorem dX9_lays_26 : decode cX9_lays 26 = .ok (.if_icmp .eq 23, 3) := by decide +kernel
theorem dX9_lays_29 : decode cX9_lays 29 = .ok (.aload_n 0, 1) := by decide +kernel
theorem dX9_lays_30 : decode cX9_lays 30 = .ok (.aload_n 0, 1) := by decide +kernel
theorem dX9_lays_31 : decode cX9_lays 31 = .ok (.iload_n 2, 1) := by decide +kernel
theorem dX9_lays_32 : decode cX9_lays 32 = .ok (.invokevirtual 163, 3) := by decide +kernel
theorem dX9_lays_35 : decode cX9_lays 35 = .ok (.invokevirtual 196, 3) := by decide +kernel
theorem dX9_lays_38 : decode cX9_lays 38 = .ok (.aload_n 0, 1) := by decide +kernel
theorem dX9_lays_39 : decode cX9_lays 39 = .ok (.aload_n 0, 1) := by decide +kernel
theorem dX9_lays_40 : decode cX9_lays 40 = .ok (.getfield 212, 3) := by decide +kernel
theorem dX9_lays_43 : decode cX9_lays 43 = .ok (.invokevirtual 196, 3) := by decide +kernel
theorem dX9_lays_46 : decode cX9_lays 46 = .ok (.if_icmp .gt 4, 3) := by decide +kernel
theorem dX9_lays_49 : decode cX9_lays 49 = .ok (.return_, 1) := by decide +kernel
theorem dX9_lays_50 : decode cX9_lays 50 = .ok (.aload_n 0, 1) := by decide +kernel
theorem dX9_lays_51 : decode cX9_lays 51 = .ok (.iconst 1, 1) := by decide +kernel
theorem dX9_lays_52 : decode cX9_lays 52 = .ok (.putfield 209, 3) := by decide +kernel
theorem dX9_lays_55 : decode cX9_lays 55 = .ok (.aload_n 0, 1) := by decide +kernel
theorem dX9_lays_56 : decode cX9_lays 56 = .ok (.getfield 32, 3) := by decide +kernel
theorem dX9_lays_59 : decode cX9_lays 59 = .ok (.iconst 0, 1) := by decide +kernel
theorem dX9_lays_60 : decode cX9_lays 60 = .ok (.iload_n 2, 1) := by decide +kernel
theorem dX9_lays_61 : decode cX9_lays 61 = .ok (.iastore, 1) := by decide +kernel
theorem dX9_lays_62 : decode cX9_lays 62 = .ok (.aload_n 0, 1) := by decide +kernel
theorem dX9_lays_63 : decode cX9_lays 63 = .ok (.aload_n 0, 1) := by decide +kernel
theorem dX9_lays_64 : decode cX9_lays 64 = .ok (.iload_n 2, 1) := by decide +kernel
theorem dX9_lays_65 : decode cX9_lays 65 = .ok (.invokevirtual 163, 3) := by decide +kernel
theorem dX9_lays_68 : decode cX9_lays 68 = .ok (.putfield 212, 3) := by decide +kernel
theorem dX9_lays_71 : decode cX9_lays 71 = .ok (.return_, 1) := by decide +kernel
theorem dX9_greedy_0 : decode cX9_greedy 0 = .ok (.aload_n 0, 1) := by decide +kernel
theorem dX9_greedy_1 : decode cX9_greedy 1 = .ok (.iconst 0, 1) := by decide +kernel
theorem dX9_greedy_2 : decode cX9_greedy 2 = .ok (.putfield 60, 3) := by decide +kernel
theorem dX9_greedy_5 : decode cX9_greedy 5 = .ok (.aload_n 0, 1) := by decide +kernel
theorem dX9_greedy_6 : decode cX9_greedy 6 = .ok (.iload_n 1, 1) := by decide +kernel
theorem dX9_greedy_7 : decode cX9_greedy 7 = .ok (.iconst 0, 1) := by decide +kernel
theorem dX9_greedy_8 : decode cX9_greedy 8 = .ok (.iconst 2, 1) := by decide +kernel
theorem dX9_greedy_9 : decode cX9_greedy 9 = .ok (.invokestatic 116, 3) := by decide +kernel
theorem dX9_greedy_12 : decode cX9_greedy 12 = .ok (.ifCond .eq 12, 3) := by decide +kernel
theorem dX9_greedy_15 : decode cX9_greedy 15 = .ok (.iload_n 2, 1) := by decide +kernel
theorem dX9_greedy_16 : decode cX9_greedy 16 = .ok (.iconst 0, 1) := by decide +kernel
theorem dX9_greedy_17 : decode cX9_greedy 17 = .ok (.iconst 3, 1) := by decide +kernel
theorem dX9_greedy_18 : decode cX9_greedy 18 = .ok (.invokestatic 116, 3) := by decide +kernel
theorem dX9_greedy_21 : decode cX9_greedy 21 = .ok (.ifCond .ne 7, 3) := by decide +kernel
theorem dX9_greedy_24 : decode cX9_greedy 24 = .ok (.iconst 1, 1) := by decide +kernel
theorem dX9_greedy_25 : decode cX9_greedy 25 = .ok (.goto 4, 3) := by decide +kernel
theorem dX9_greedy_28 : decode cX9_greedy 28 = .ok (.iconst 0, 1) := by decide +kernel
theorem dX9_greedy_29 : decode cX9_greedy 29 = .ok (.iconst 1, 1) := by decide +kernel
theorem dX9_greedy_30 : decode cX9_greedy 30 = .ok (.iconst 1, 1) := by decide +kernel
theorem dX9_greedy_31 : decode cX9_greedy 31 = .ok (.invokevirtual 119, 3) := by decide +kernel
theorem dX9_greedy_34 : decode cX9_greedy 34 = .ok (.ifCond .eq 5, 3) := by decide +kernel
theorem dX9_greedy_37 : decode cX9_greedy 37 = .ok (.iconst 0, 1) := by decide +kernel
theorem dX9_greedy_38 : decode cX9_greedy 38 = .ok (.ireturn, 1) := by decide +kernel
theorem dX9_greedy_39 : decode cX9_greedy 39 = .ok (.aload_n 0, 1) := by decide +kernel
theorem dX9_greedy_40 : decode cX9_greedy 40 = .ok (.iload_n 1, 1) := by decide +kernel
theorem dX9_greedy_41 : decode cX9_greedy 41 = .ok (.invokevirtual 224, 3) := by decide +kernel
theorem dX9_greedy_44 : decode cX9_greedy 44 = .ok (.iload_n 2, 1) := by decide +kernel
theorem dX9_greedy_45 : decode cX9_greedy 45 = .ok (.ifCond .ne 10, 3) := by decide +kernel
theorem dX9_greedy_48 : decode cX9_greedy 48 = .ok (.aload_n 0, 1) := by decide +kernel
theorem dX9_greedy_49 : decode cX9_greedy 49 = .ok (.getfield 212, 3) := by decide +kernel
theorem dX9_greedy_52 : decode cX9_greedy 52 = .ok (.goto 39, 3) := by decide +kernel
theorem dX9_greedy_55 : decode cX9_greedy 55 = .ok (.iload_n 2, 1) := by decide +kernel
theorem dX9_greedy_56 : decode cX9_greedy 56 = .ok (.iconst 1, 1) := by decide +kernel
theorem dX9_greedy_57 : decode cX9_greedy 57 = .ok (.if_icmp .ne 14, 3) := by decide +kernel
theorem dX9_greedy_60 : decode cX9_greedy 60 = .ok (.aload_n 0, 1) := by decide +kernel
theorem dX9_greedy_61 : decode cX9_greedy 61 = .ok (.aload_n 0, 1) := by decide +kernel
theorem dX9_greedy_62 : decode cX9_greedy 62 = .ok (.getfield 212, 3) := by decide +kernel
theorem dX9_greedy_65 : decode cX9_greedy 65 = .ok (.invokevirtual 196, 3) := by decide +kernel
theorem dX9_greedy_68 : decode cX9_greedy 68 = .ok (.goto 23, 3) := by decide +kernel
theorem dX9_greedy_71 : decode cX9_greedy 71 = .ok (.iload_n 2, 1) := by decide +kernel
theorem dX9_greedy_72 : decode cX9_greedy 72 = .ok (.iconst 2, 1) := by decide +kernel
theorem dX9_greedy_73 : decode cX9_greedy 73 = .ok (.if_icmp .ne 14, 3) := by decide +kernel
theorem dX9_greedy_76 : decode cX9_greedy 76 = .ok (.aload_n 0, 1) := by decide +kernel
theorem dX9_greedy_77 : decode cX9_greedy 77 = .ok (.aload_n 0, 1) := by decide +kernel
theorem dX9_greedy_78 : decode cX9_greedy 78 = .ok (.getfield 212, 3) := by decide +kernel
theorem dX9_greedy_81 : decode cX9_greedy 81 = .ok (.invokevirtual 166, 3) := by decide +kernel
theorem dX9_greedy_84 : decode cX9_greedy 84 = .ok (.goto 7, 3) := by decide +kernel
theorem dX9_greedy_87 : decode cX9_greedy 87 = .ok (.aload_n 0, 1) := by decide +kernel
theorem dX9_greedy_88 : decode cX9_greedy 88 = .ok (.getfield 209, 3) := by decide +kernel
theorem dX9_greedy_91 : decode cX9_greedy 91 = .ok (.ireturn, 1) := by decide +kernel
theorem dX9_step_0 : decode cX9_step 0 = .ok (.aload_n 0, 1) := by decide +kernel
theorem dX9_step_1 : decode cX9_step 1 = .ok (.iconst 0, 1) := by decide +kernel
theorem dX9_step_2 : decode cX9_step 2 = .ok (.putfield 60, 3) := by decide +kernel
theorem dX9_step_5 : decode cX9_step 5 = .ok (.aload_n 0, 1) := by decide +kernel
theorem dX9_step_6 : decode cX9_step 6 = .ok (.iload_n 1, 1) := by decide +kernel
theorem dX9_step_7 : decode cX9_step 7 = .ok (.iconst 0, 1) := by decide +kernel
theorem dX9_step_8 : decode cX9_step 8 = .ok (.iconst 2, 1) := by decide +kernel
theorem dX9_step_9 : decode cX9_step 9 = .ok (.invokestatic 116, 3) := by decide +kernel
theorem dX9_step_12 : decode cX9_step 12 = .ok (.ifCond .ne 7, 3) := by decide +kernel
theorem dX9_step_15 : decode cX9_step 15 = .ok (.iconst 1, 1) := by decide +kernel
theorem dX9_step_16 : decode cX9_step 16 = .ok (.goto 4, 3) := by decide +kernel
theorem dX9_step_19 : decode cX9_step 19 = .ok (.iconst 0, 1) := by decide +kernel
theorem dX9_step_20 : decode cX9_step 20 = .ok (.iconst 1, 1) := by decide +kernel
theorem dX9_step_21 : decode cX9_step 21 = .ok (.iconst 1, 1) := by decide +kernel
theorem dX9_step_22 : decode cX9_step 22 = .ok (.invokevirtual 119, 3) := by decide +kernel
theorem dX9_step_25 : decode cX9_step 25 = .ok (.ifCond .eq 5, 3) := by decide +kernel
theorem dX9_step_28 : decode cX9_step 28 = .ok (.iconst 0, 1) := by decide +kernel
theorem dX9_step_29 : decode cX9_step 29 = .ok (.ireturn, 1) := by decide +kernel
theorem dX9_step_30 : decode cX9_step 30 = .ok (.aload_n 0, 1) := by decide +kernel
theorem dX9_step_31 : decode cX9_step 31 = .ok (.iload_n 1, 1) := by decide +kernel
theorem dX9_step_32 : decode cX9_step 32 = .ok (.invokevirtual 224, 3) := by decide +kernel
theorem dX9_step_35 : decode cX9_step 35 = .ok (.aload_n 0, 1) := by decide +kernel
theorem dX9_step_36 : decode cX9_step 36 = .ok (.iload_n 2, 1) := by decide +kernel
theorem dX9_step_37 : decode cX9_step 37 = .ok (.iconst 0, 1) := by decide +kernel
theorem dX9_step_38 : decode cX9_step 38 = .ok (.aload_n 0, 1) := by decide +kernel
theorem dX9_step_39 : decode cX9_step 39 = .ok (.getfield 209, 3) := by decide +kernel
theorem dX9_step_42 : decode cX9_step 42 = .ok (.iconst 1, 1) := by decide +kernel
theorem dX9_step_43 : decode cX9_step 43 = .ok (.isub, 1) := by decide +kernel
theorem dX9_step_44 : decode cX9_step 44 = .ok (.invokestatic 116, 3) := by decide +kernel
theorem dX9_step_47 : decode cX9_step 47 = .ok (.ifCond .ne 7, 3) := by decide +kernel
theorem dX9_step_50 : decode cX9_step 50 = .ok (.iconst 1, 1) := by decide +kernel
theorem dX9_step_51 : decode cX9_step 51 = .ok (.goto 4, 3) := by decide +kernel
theorem dX9_step_54 : decode cX9_step 54 = .ok (.iconst 0, 1) := by decide +kernel
theorem dX9_step_55 : decode cX9_step 55 = .ok (.iconst 2, 1) := by decide +kernel
theorem dX9_step_56 : decode cX9_step 56 = .ok (.iconst 0, 1) := by decide +kernel
theorem dX9_step_57 : decode cX9_step 57 = .ok (.invokevirtual 119, 3) := by decide +kernel
theorem dX9_step_60 : decode cX9_step 60 = .ok (.ifCond .eq 7, 3) := by decide +kernel
theorem dX9_step_63 : decode cX9_step 63 = .ok (.iconst 0, 1) := by decide +kernel
theorem dX9_step_64 : decode cX9_step 64 = .ok (.goto 9, 3) := by decide +kernel
theorem dX9_step_67 : decode cX9_step 67 = .ok (.aload_n 0, 1) := by decide +kernel
theorem dX9_step_68 : decode cX9_step 68 = .ok (.getfield 32, 3) := by decide +kernel
theorem dX9_step_71 : decode cX9_step 71 = .ok (.iload_n 2, 1) := by decide +kernel
theorem dX9_step_72 : decode cX9_step 72 = .ok (.iaload, 1) := by decide +kernel
theorem dX9_step_73 : decode cX9_step 73 = .ok (.ireturn, 1) := by decide +kernel
theorem dX9_first_0 : decode cX9_first 0 = .ok (.iconst (-1), 1) := by decide +kernel
theorem dX9_first_1 : decode cX9_first 1 = .ok (.istore_n 1, 1) := by decide +kernel
theorem dX9_first_2 : decode cX9_first 2 = .ok (.iconst 0, 1) := by decide +kernel
theorem dX9_first_3 : decode cX9_first 3 = .ok (.istore_n 2, 1) := by decide +kernel
theorem dX9_first_4 : decode cX9_first 4 = .ok (.iload_n 2, 1) := by decide +kernel
theorem dX9_first_5 : decode cX9_first 5 = .ok (.aload_n 0, 1) := by decide +kernel
theorem dX9_first_6 : decode cX9_first 6 = .ok (.invokevirtual 133, 3) := by decide +kernel
theorem dX9_first_9 : decode cX9_first 9 = .ok (.if_icmp .ge 56, 3) := by decide +kernel
theorem dX9_first_12 : decode cX9_first 12 = .ok (.aload_n 0, 1) := by decide +kernel
theorem dX9_first_13 : decode cX9_first 13 = .ok (.getfield 41, 3) := by decide +kernel
theorem dX9_first_16 : decode cX9_first 16 = .ok (.iload_n 2, 1) := by decide +kernel
theorem dX9_first_17 : decode cX9_first 17 = .ok (.baload, 1) := by decide +kernel
theorem dX9_first_18 : decode cX9_first 18 = .ok (.ifCond .eq 41, 3) := by decide +kernel
theorem dX9_first_21 : decode cX9_first 21 = .ok (.iload_n 1, 1) := by decide +kernel
theorem dX9_first_22 : decode cX9_first 22 = .ok (.iconst (-1), 1) := by decide +kernel
theorem dX9_first_23 : decode cX9_first 23 = .ok (.if_icmp .eq 34, 3) := by decide +kernel
theorem dX9_first_26 : decode cX9_first 26 = .ok (.iconst 1, 1) := by decide +kernel
theorem dX9_first_27 : decode cX9_first 27 = .ok (.aload_n 0, 1) := by decide +kernel
theorem dX9_first_28 : decode cX9_first 28 = .ok (.getfield 35, 3) := by decide +kernel
theorem dX9_first_31 : decode cX9_first 31 = .ok (.iload_n 2, 1) := by decide +kernel
theorem dX9_first_32 : decode cX9_first 32 = .ok (.iaload, 1) := by decide +kernel
theorem dX9_first_33 : decode cX9_first 33 = .ok (.aload_n 0, 1) := by decide +kernel
theorem dX9_first_34 : decode cX9_first 34 = .ok (.getfield 38, 3) := by decide +kernel
theorem dX9_first_37 : decode cX9_first 37 = .ok (.iload_n 2, 1) := by decide +kernel
theorem dX9_first_38 : decode cX9_first 38 = .ok (.iaload, 1) := by decide +kernel
theorem dX9_first_39 : decode cX9_first 39 = .ok (.aload_n 0, 1) := by decide +kernel
theorem dX9_first_40 : decode cX9_first 40 = .ok (.getfield 35, 3) := by decide +kernel
theorem dX9_first_43 : decode cX9_first 43 = .ok (.iload_n 1, 1) := by decide +kernel
theorem dX9_first_44 : decode cX9_first 44 = .ok (.iaload, 1) := by decide +kernel
theorem dX9_first_45 : decode cX9_first 45 = .ok (.aload_n 0, 1) := by decide +kernel
theorem dX9_first_46 : decode cX9_first 46 = .ok (.getfield 38, 3) := by decide +kernel
theorem dX9_first_49 : decode cX9_first 49 = .ok (.iload_n 1, 1) := by decide +kernel
theorem dX9_first_50 : decode cX9_first 50 = .ok (.iaload, 1) := by decide +kernel
theorem dX9_first_51 : decode cX9_first 51 = .ok (.invokestatic 205, 3) := by decide +kernel
theorem dX9_first_54 : decode cX9_first 54 = .ok (.ifCond .eq 5, 3) := by decide +kernel
theorem dX9_first_57 : decode cX9_first 57 = .ok (.iload_n 2, 1) := by decide +kernel
theorem dX9_first_58 : decode cX9_first 58 = .ok (.istore_n 1, 1) := by decide +kernel
theorem dX9_first_59 : decode cX9_first 59 = .ok (.iinc 2 1, 3) := by decide +kernel
theorem dX9_first_62 : decode cX9_first 62 = .ok (.goto (-58), 3) := by decide +kernel
theorem dX9_first_65 : decode cX9_first 65 = .ok (.iload_n 1, 1) := by decide +kernel
theorem dX9_first_66 : decode cX9_first 66 = .ok (.ireturn, 1) := by decide +kernel
theorem dX9_asks_0 : decode cX9_asks 0 = .ok (.aload_n 0, 1) := by decide +kernel
theorem dX9_asks_1 : decode cX9_asks 1 = .ok (.getfield 35, 3) := by decide +kernel
theorem dX9_asks_4 : decode cX9_asks 4 = .ok (.iload_n 1, 1) := by decide +kernel
theorem dX9_asks_5 : decode cX9_asks 5 = .ok (.aload_n 0, 1) := by decide +kernel
theorem dX9_asks_6 : decode cX9_asks 6 = .ok (.aload_n 0, 1) := by decide +kernel
theorem dX9_asks_7 : decode cX9_asks 7 = .ok (.getfield 227, 3) := by decide +kernel
theorem dX9_asks_10 : decode cX9_asks 10 = .ok (.iload_n 1, 1) := by decide +kernel
theorem dX9_asks_11 : decode cX9_asks 11 = .ok (.invokevirtual 193, 3) := by decide +kernel
theorem dX9_asks_14 : decode cX9_asks 14 = .ok (.iastore, 1) := by decide +kernel
theorem dX9_asks_15 : decode cX9_asks 15 = .ok (.aload_n 0, 1) := by decide +kernel
theorem dX9_asks_16 : decode cX9_asks 16 = .ok (.getfield 38, 3) := by decide +kernel
theorem dX9_asks_19 : decode cX9_asks 19 = .ok (.iload_n 1, 1) := by decide +kernel
theorem dX9_asks_20 : decode cX9_asks 20 = .ok (.aload_n 0, 1) := by decide +kernel
theorem dX9_asks_21 : decode cX9_asks 21 = .ok (.aload_n 0, 1) := by decide +kernel
theorem dX9_asks_22 : decode cX9_asks 22 = .ok (.getfield 227, 3) := by decide +kernel
theorem dX9_asks_25 : decode cX9_asks 25 = .ok (.iload_n 1, 1) := by decide +kernel
theorem dX9_asks_26 : decode cX9_asks 26 = .ok (.invokevirtual 169, 3) := by decide +kernel
theorem dX9_asks_29 : decode cX9_asks 29 = .ok (.iastore, 1) := by decide +kernel
theorem dX9_asks_30 : decode cX9_asks 30 = .ok (.aload_n 0, 1) := by decide +kernel
theorem dX9_asks_31 : decode cX9_asks 31 = .ok (.dup, 1) := by decide +kernel
theorem dX9_asks_32 : decode cX9_asks 32 = .ok (.getfield 230, 3) := by decide +kernel
theorem dX9_asks_35 : decode cX9_asks 35 = .ok (.iconst 1, 1) := by decide +kernel
theorem dX9_asks_36 : decode cX9_asks 36 = .ok (.iadd, 1) := by decide +kernel
theorem dX9_asks_37 : decode cX9_asks 37 = .ok (.putfield 230, 3) := by decide +kernel
theorem dX9_asks_40 : decode cX9_asks 40 = .ok (.return_, 1) := by decide +kernel
theorem dX9_laysLazy_0 : decode cX9_laysLazy 0 = .ok (.aload_n 0, 1) := by decide +kernel
theorem dX9_laysLazy_1 : decode cX9_laysLazy 1 = .ok (.iconst 0, 1) := by decide +kernel
theorem dX9_laysLazy_2 : decode cX9_laysLazy 2 = .ok (.putfield 227, 3) := by decide +kernel
theorem dX9_laysLazy_5 : decode cX9_laysLazy 5 = .ok (.aload_n 0, 1) := by decide +kernel
theorem dX9_laysLazy_6 : decode cX9_laysLazy 6 = .ok (.iconst 0, 1) := by decide +kernel
theorem dX9_laysLazy_7 : decode cX9_laysLazy 7 = .ok (.putfield 230, 3) := by decide +kernel
theorem dX9_laysLazy_10 : decode cX9_laysLazy 10 = .ok (.iconst 0, 1) := by decide +kernel
theorem dX9_laysLazy_11 : decode cX9_laysLazy 11 = .ok (.istore_n 1, 1) := by decide +kernel
theorem dX9_laysLazy_12 : decode cX9_laysLazy 12 = .ok (.iload_n 1, 1) := by decide +kernel
theorem dX9_laysLazy_13 : decode cX9_laysLazy 13 = .ok (.aload_n 0, 1) := by decide +kernel
theorem dX9_laysLazy_14 : decode cX9_laysLazy 14 = .ok (.invokevirtual 133, 3) := by decide +kernel
theorem dX9_laysLazy_17 : decode cX9_laysLazy 17 = .ok (.if_icmp .ge 34, 3) := by decide +kernel
theorem dX9_laysLazy_20 : decode cX9_laysLazy 20 = .ok (.aload_n 0, 1) := by decide +kernel
theorem dX9_laysLazy_21 : decode cX9_laysLazy 21 = .ok (.iload_n 1, 1) := by decide +kernel
theorem dX9_laysLazy_22 : decode cX9_laysLazy 22 = .ok (.invokevirtual 233, 3) := by decide +kernel
theorem dX9_laysLazy_25 : decode cX9_laysLazy 25 = .ok (.aload_n 0, 1) := by decide +kernel
theorem dX9_laysLazy_26 : decode cX9_laysLazy 26 = .ok (.getfield 41, 3) := by decide +kernel
theorem dX9_laysLazy_29 : decode cX9_laysLazy 29 = .ok (.iload_n 1, 1) := by decide +kernel
theorem dX9_laysLazy_30 : decode cX9_laysLazy 30 = .ok (.aload_n 0, 1) := by decide +kernel
theorem dX9_laysLazy_31 : decode cX9_laysLazy 31 = .ok (.getfield 35, 3) := by decide +kernel
theorem dX9_laysLazy_34 : decode cX9_laysLazy 34 = .ok (.iload_n 1, 1) := by decide +kernel
theorem dX9_laysLazy_35 : decode cX9_laysLazy 35 = .ok (.iaload, 1) := by decide +kernel
theorem dX9_laysLazy_36 : decode cX9_laysLazy 36 = .ok (.ifCond .le 7, 3) := by decide +kernel
theorem dX9_laysLazy_39 : decode cX9_laysLazy 39 = .ok (.iconst 1, 1) := by decide +kernel
theorem dX9_laysLazy_40 : decode cX9_laysLazy 40 = .ok (.goto 4, 3) := by decide +kernel
theorem dX9_laysLazy_43 : decode cX9_laysLazy 43 = .ok (.iconst 0, 1) := by decide +kernel
theorem dX9_laysLazy_44 : decode cX9_laysLazy 44 = .ok (.bastore, 1) := by decide +kernel
theorem dX9_laysLazy_45 : decode cX9_laysLazy 45 = .ok (.iinc 1 1, 3) := by decide +kernel
theorem dX9_laysLazy_48 : decode cX9_laysLazy 48 = .ok (.goto (-36), 3) := by decide +kernel
theorem dX9_laysLazy_51 : decode cX9_laysLazy 51 = .ok (.aload_n 0, 1) := by decide +kernel
theorem dX9_laysLazy_52 : decode cX9_laysLazy 52 = .ok (.invokevirtual 236, 3) := by decide +kernel
theorem dX9_laysLazy_55 : decode cX9_laysLazy 55 = .ok (.istore_n 1, 1) := by decide +kernel
theorem dX9_laysLazy_56 : decode cX9_laysLazy 56 = .ok (.iload_n 1, 1) := by decide +kernel
theorem dX9_laysLazy_57 : decode cX9_laysLazy 57 = .ok (.iconst (-1), 1) := by decide +kernel
theorem dX9_laysLazy_58 : decode cX9_laysLazy 58 = .ok (.if_icmp .eq 86, 3) := by decide +kernel
theorem dX9_laysLazy_61 : decode cX9_laysLazy 61 = .ok (.aload_n 0, 1) := by decide +kernel
theorem dX9_laysLazy_62 : decode cX9_laysLazy 62 = .ok (.aload_n 0, 1) := by decide +kernel
theorem dX9_laysLazy_63 : decode cX9_laysLazy 63 = .ok (.getfield 227, 3) := by decide +kernel
theorem dX9_laysLazy_66 : decode cX9_laysLazy 66 = .ok (.iload_n 1, 1) := by decide +kernel
theorem dX9_laysLazy_67 : decode cX9_laysLazy 67 = .ok (.invokevirtual 189, 3) := by decide +kernel
theorem dX9_laysLazy_70 : decode cX9_laysLazy 70 = .ok (.ifCond .ne 13, 3) := by decide +kernel
theorem dX9_laysLazy_73 : decode cX9_laysLazy 73 = .ok (.aload_n 0, 1) := by decide +kernel
theorem dX9_laysLazy_74 : decode cX9_laysLazy 74 = .ok (.getfield 41, 3) := by decide +kernel
theorem dX9_laysLazy_77 : decode cX9_laysLazy 77 = .ok (.iload_n 1, 1) := by decide +kernel
theorem dX9_laysLazy_78 : decode cX9_laysLazy 78 = .ok (.iconst 0, 1) := by decide +kernel
theorem dX9_laysLazy_79 : decode cX9_laysLazy 79 = .ok (.bastore, 1) := by decide +kernel
theorem dX9_laysLazy_80 : decode cX9_laysLazy 80 = .ok (.goto 56, 3) := by decide +kernel
theorem dX9_laysLazy_83 : decode cX9_laysLazy 83 = .ok (.aload_n 0, 1) := by decide +kernel
theorem dX9_laysLazy_84 : decode cX9_laysLazy 84 = .ok (.iload_n 1, 1) := by decide +kernel
theorem dX9_laysLazy_85 : decode cX9_laysLazy 85 = .ok (.invokevirtual 233, 3) := by decide +kernel
theorem dX9_laysLazy_88 : decode cX9_laysLazy 88 = .ok (.aload_n 0, 1) := by decide +kernel
theorem dX9_laysLazy_89 : decode cX9_laysLazy 89 = .ok (.getfield 35, 3) := by decide +kernel
theorem dX9_laysLazy_92 : decode cX9_laysLazy 92 = .ok (.iload_n 1, 1) := by decide +kernel
theorem dX9_laysLazy_93 : decode cX9_laysLazy 93 = .ok (.iaload, 1) := by decide +kernel
theorem dX9_laysLazy_94 : decode cX9_laysLazy 94 = .ok (.ifCond .ne 13, 3) := by decide +kernel
theorem dX9_laysLazy_97 : decode cX9_laysLazy 97 = .ok (.aload_n 0, 1) := by decide +kernel
theorem dX9_laysLazy_98 : decode cX9_laysLazy 98 = .ok (.getfield 41, 3) := by decide +kernel
theorem dX9_laysLazy_101 : decode cX9_laysLazy 101 = .ok (.iload_n 1, 1) := by decide +kernel
theorem dX9_laysLazy_102 : decode cX9_laysLazy 102 = .ok (.iconst 0, 1) := by decide +kernel
theorem dX9_laysLazy_103 : decode cX9_laysLazy 103 = .ok (.bastore, 1) := by decide +kernel
theorem dX9_laysLazy_104 : decode cX9_laysLazy 104 = .ok (.goto 32, 3) := by decide +kernel
theorem dX9_laysLazy_107 : decode cX9_laysLazy 107 = .ok (.aload_n 0, 1) := by decide +kernel
theorem dX9_laysLazy_108 : decode cX9_laysLazy 108 = .ok (.invokevirtual 236, 3) := by decide +kernel
theorem dX9_laysLazy_111 : decode cX9_laysLazy 111 = .ok (.iload_n 1, 1) := by decide +kernel
theorem dX9_laysLazy_112 : decode cX9_laysLazy 112 = .ok (.if_icmp .ne 24, 3) := by decide +kernel
theorem dX9_laysLazy_115 : decode cX9_laysLazy 115 = .ok (.aload_n 0, 1) := by decide +kernel
theorem dX9_laysLazy_116 : decode cX9_laysLazy 116 = .ok (.getfield 41, 3) := by decide +kernel
theorem dX9_laysLazy_119 : decode cX9_laysLazy 119 = .ok (.iload_n 1, 1) := by decide +kernel
theorem dX9_laysLazy_120 : decode cX9_laysLazy 120 = .ok (.iconst 0, 1) := by decide +kernel
theorem dX9_laysLazy_121 : decode cX9_laysLazy 121 = .ok (.bastore, 1) := by decide +kernel
theorem dX9_laysLazy_122 : decode cX9_laysLazy 122 = .ok (.aload_n 0, 1) := by decide +kernel
theorem dX9_laysLazy_123 : decode cX9_laysLazy 123 = .ok (.dup, 1) := by decide +kernel
theorem dX9_laysLazy_124 : decode cX9_laysLazy 124 = .ok (.getfield 227, 3) := by decide +kernel
theorem dX9_laysLazy_127 : decode cX9_laysLazy 127 = .ok (.aload_n 0, 1) := by decide +kernel
theorem dX9_laysLazy_128 : decode cX9_laysLazy 128 = .ok (.iload_n 1, 1) := by decide +kernel
theorem dX9_laysLazy_129 : decode cX9_laysLazy 129 = .ok (.invokevirtual 163, 3) := by decide +kernel
theorem dX9_laysLazy_132 : decode cX9_laysLazy 132 = .ok (.ior, 1) := by decide +kernel
theorem dX9_laysLazy_133 : decode cX9_laysLazy 133 = .ok (.putfield 227, 3) := by decide +kernel
theorem dX9_laysLazy_136 : decode cX9_laysLazy 136 = .ok (.aload_n 0, 1) := by decide +kernel
theorem dX9_laysLazy_137 : decode cX9_laysLazy 137 = .ok (.invokevirtual 236, 3) := by decide +kernel
theorem dX9_laysLazy_140 : decode cX9_laysLazy 140 = .ok (.istore_n 1, 1) := by decide +kernel
theorem dX9_laysLazy_141 : decode cX9_laysLazy 141 = .ok (.goto (-85), 3) := by decide +kernel
theorem dX9_laysLazy_144 : decode cX9_laysLazy 144 = .ok (.return_, 1) := by decide +kernel
theorem dX9_lazy_0 : decode cX9_lazy 0 = .ok (.aload_n 0, 1) := by decide +kernel
theorem dX9_lazy_1 : decode cX9_lazy 1 = .ok (.iconst 0, 1) := by decide +kernel
theorem dX9_lazy_2 : decode cX9_lazy 2 = .ok (.putfield 60, 3) := by decide +kernel
theorem dX9_lazy_5 : decode cX9_lazy 5 = .ok (.aload_n 0, 1) := by decide +kernel
theorem dX9_lazy_6 : decode cX9_lazy 6 = .ok (.iload_n 1, 1) := by decide +kernel
theorem dX9_lazy_7 : decode cX9_lazy 7 = .ok (.iconst 0, 1) := by decide +kernel
theorem dX9_lazy_8 : decode cX9_lazy 8 = .ok (.iconst 2, 1) := by decide +kernel
theorem dX9_lazy_9 : decode cX9_lazy 9 = .ok (.invokestatic 116, 3) := by decide +kernel
theorem dX9_lazy_12 : decode cX9_lazy 12 = .ok (.ifCond .ne 7, 3) := by decide +kernel
theorem dX9_lazy_15 : decode cX9_lazy 15 = .ok (.iconst 1, 1) := by decide +kernel
theorem dX9_lazy_16 : decode cX9_lazy 16 = .ok (.goto 4, 3) := by decide +kernel
theorem dX9_lazy_19 : decode cX9_lazy 19 = .ok (.iconst 0, 1) := by decide +kernel
theorem dX9_lazy_20 : decode cX9_lazy 20 = .ok (.iconst 1, 1) := by decide +kernel
theorem dX9_lazy_21 : decode cX9_lazy 21 = .ok (.iconst 1, 1) := by decide +kernel
theorem dX9_lazy_22 : decode cX9_lazy 22 = .ok (.invokevirtual 119, 3) := by decide +kernel
theorem dX9_lazy_25 : decode cX9_lazy 25 = .ok (.ifCond .eq 5, 3) := by decide +kernel
theorem dX9_lazy_28 : decode cX9_lazy 28 = .ok (.iconst 0, 1) := by decide +kernel
theorem dX9_lazy_29 : decode cX9_lazy 29 = .ok (.ireturn, 1) := by decide +kernel
theorem dX9_lazy_30 : decode cX9_lazy 30 = .ok (.aload_n 0, 1) := by decide +kernel
theorem dX9_lazy_31 : decode cX9_lazy 31 = .ok (.invokevirtual 239, 3) := by decide +kernel
theorem dX9_lazy_34 : decode cX9_lazy 34 = .ok (.aload_n 0, 1) := by decide +kernel
theorem dX9_lazy_35 : decode cX9_lazy 35 = .ok (.iconst 1, 1) := by decide +kernel
theorem dX9_lazy_36 : decode cX9_lazy 36 = .ok (.invokevirtual 218, 3) := by decide +kernel
theorem dX9_lazy_39 : decode cX9_lazy 39 = .ok (.iload_n 1, 1) := by decide +kernel
theorem dX9_lazy_40 : decode cX9_lazy 40 = .ok (.ifCond .ne 10, 3) := by decide +kernel
theorem dX9_lazy_43 : decode cX9_lazy 43 = .ok (.aload_n 0, 1) := by decide +kernel
theorem dX9_lazy_44 : decode cX9_lazy 44 = .ok (.getfield 227, 3) := by decide +kernel
theorem dX9_lazy_47 : decode cX9_lazy 47 = .ok (.goto 19, 3) := by decide +kernel
theorem dX9_lazy_50 : decode cX9_lazy 50 = .ok (.iload_n 1, 1) := by decide +kernel
theorem dX9_lazy_51 : decode cX9_lazy 51 = .ok (.iconst 1, 1) := by decide +kernel
theorem dX9_lazy_52 : decode cX9_lazy 52 = .ok (.if_icmp .ne 10, 3) := by decide +kernel
theorem dX9_lazy_55 : decode cX9_lazy 55 = .ok (.aload_n 0, 1) := by decide +kernel
theorem dX9_lazy_56 : decode cX9_lazy 56 = .ok (.getfield 230, 3) := by decide +kernel
theorem dX9_lazy_59 : decode cX9_lazy 59 = .ok (.goto 7, 3) := by decide +kernel
theorem dX9_lazy_62 : decode cX9_lazy 62 = .ok (.aload_n 0, 1) := by decide +kernel
theorem dX9_lazy_63 : decode cX9_lazy 63 = .ok (.getfield 202, 3) := by decide +kernel
theorem dX9_lazy_66 : decode cX9_lazy 66 = .ok (.ireturn, 1) := by decide +kernel
theorem dX9_boundBy_0 : decode cX9_boundBy 0 = .ok (.aload_n 0, 1) := by decide +kernel
theorem dX9_boundBy_1 : decode cX9_boundBy 1 = .ok (.getfield 20, 3) := by decide +kernel
theorem dX9_boundBy_4 : decode cX9_boundBy 4 = .ok (.iconst 2, 1) := by decide +kernel
theorem dX9_boundBy_5 : decode cX9_boundBy 5 = .ok (.laload, 1) := by decide +kernel
theorem dX9_boundBy_6 : decode cX9_boundBy 6 = .ok (.l2i, 1) := by decide +kernel
theorem dX9_boundBy_7 : decode cX9_boundBy 7 = .ok (.istore_n 2, 1) := by decide +kernel
theorem dX9_boundBy_8 : decode cX9_boundBy 8 = .ok (.aload_n 0, 1) := by decide +kernel
theorem dX9_boundBy_9 : decode cX9_boundBy 9 = .ok (.iload_n 1, 1) := by decide +kernel
theorem dX9_boundBy_10 : decode cX9_boundBy 10 = .ok (.invokevirtual 196, 3) := by decide +kernel
theorem dX9_boundBy_13 : decode cX9_boundBy 13 = .ok (.istore_n 3, 1) := by decide +kernel
theorem dX9_boundBy_14 : decode cX9_boundBy 14 = .ok (.iload_n 1, 1) := by decide +kernel
theorem dX9_boundBy_15 : decode cX9_boundBy 15 = .ok (.istore 4, 2) := by decide +kernel
theorem dX9_boundBy_17 : decode cX9_boundBy 17 = .ok (.aload_n 0, 1) := by decide +kernel
theorem dX9_boundBy_18 : decode cX9_boundBy 18 = .ok (.iload_n 1, 1) := by decide +kernel
theorem dX9_boundBy_19 : decode cX9_boundBy 19 = .ok (.invokevirtual 153, 3) := by decide +kernel
theorem dX9_boundBy_22 : decode cX9_boundBy 22 = .ok (.lstore 5, 2) := by decide +kernel
theorem dX9_boundBy_24 : decode cX9_boundBy 24 = .ok (.iconst (-1), 1) := by decide +kernel
theorem dX9_boundBy_25 : decode cX9_boundBy 25 = .ok (.istore 7, 2) := by decide +kernel
theorem dX9_boundBy_27 : decode cX9_boundBy 27 = .ok (.iconst 0, 1) := by decide +kernel
theorem dX9_boundBy_28 : decode cX9_boundBy 28 = .ok (.istore 8, 2) := by decide +kernel
theorem dX9_boundBy_30 : decode cX9_boundBy 30 = .ok (.iload 8, 2) := by decide +kernel
theorem dX9_boundBy_32 : decode cX9_boundBy 32 = .ok (.aload_n 0, 1) := by decide +kernel
theorem dX9_boundBy_33 : decode cX9_boundBy 33 = .ok (.invokevirtual 133, 3) := by decide +kernel
theorem dX9_boundBy_36 : decode cX9_boundBy 36 = .ok (.if_icmp .ge 83, 3) := by decide +kernel
theorem dX9_boundBy_39 : decode cX9_boundBy 39 = .ok (.iload 4, 2) := by decide +kernel
theorem dX9_boundBy_41 : decode cX9_boundBy 41 = .ok (.i2l, 1) := by decide +kernel
theorem dX9_boundBy_42 : decode cX9_boundBy 42 = .ok (.iload 8, 2) := by decide +kernel
theorem dX9_boundBy_44 : decode cX9_boundBy 44 = .ok (.invokestatic 140, 3) := by decide +kernel
theorem dX9_boundBy_47 : decode cX9_boundBy 47 = .ok (.ifCond .ne 66, 3) := by decide +kernel
theorem dX9_boundBy_50 : decode cX9_boundBy 50 = .ok (.iload 7, 2) := by decide +kernel
theorem dX9_boundBy_52 : decode cX9_boundBy 52 = .ok (.iconst (-1), 1) := by decide +kernel
theorem dX9_boundBy_53 : decode cX9_boundBy 53 = .ok (.if_icmp .eq 56, 3) := by decide +kernel
theorem dX9_boundBy_56 : decode cX9_boundBy 56 = .ok (.iconst 1, 1) := by decide +kernel
theorem dX9_boundBy_57 : decode cX9_boundBy 57 = .ok (.aload_n 0, 1) := by decide +kernel
theorem dX9_boundBy_58 : decode cX9_boundBy 58 = .ok (.aload_n 0, 1) := by decide +kernel
theorem dX9_boundBy_59 : decode cX9_boundBy 59 = .ok (.iload 8, 2) := by decide +kernel
theorem dX9_boundBy_61 : decode cX9_boundBy 61 = .ok (.invokevirtual 136, 3) := by decide +kernel
theorem dX9_boundBy_64 : decode cX9_boundBy 64 = .ok (.lload 5, 2) := by decide +kernel
theorem dX9_boundBy_66 : decode cX9_boundBy 66 = .ok (.ldc2_w 106, 3) := by decide +kernel
theorem dX9_boundBy_69 : decode cX9_boundBy 69 = .ok (.lxor, 1) := by decide +kernel
theorem dX9_boundBy_70 : decode cX9_boundBy 70 = .ok (.land, 1) := by decide +kernel
theorem dX9_boundBy_71 : decode cX9_boundBy 71 = .ok (.invokevirtual 156, 3) := by decide +kernel
theorem dX9_boundBy_74 : decode cX9_boundBy 74 = .ok (.aload_n 0, 1) := by decide +kernel
theorem dX9_boundBy_75 : decode cX9_boundBy 75 = .ok (.iload 8, 2) := by decide +kernel
theorem dX9_boundBy_77 : decode cX9_boundBy 77 = .ok (.invokevirtual 160, 3) := by decide +kernel
theorem dX9_boundBy_80 : decode cX9_boundBy 80 = .ok (.aload_n 0, 1) := by decide +kernel
theorem dX9_boundBy_81 : decode cX9_boundBy 81 = .ok (.aload_n 0, 1) := by decide +kernel
theorem dX9_boundBy_82 : decode cX9_boundBy 82 = .ok (.iload 7, 2) := by decide +kernel
theorem dX9_boundBy_84 : decode cX9_boundBy 84 = .ok (.invokevirtual 136, 3) := by decide +kernel
theorem dX9_boundBy_87 : decode cX9_boundBy 87 = .ok (.lload 5, 2) := by decide +kernel
theorem dX9_boundBy_89 : decode cX9_boundBy 89 = .ok (.ldc2_w 106, 3) := by decide +kernel
theorem dX9_boundBy_92 : decode cX9_boundBy 92 = .ok (.lxor, 1) := by decide +kernel
theorem dX9_boundBy_93 : decode cX9_boundBy 93 = .ok (.land, 1) := by decide +kernel
theorem dX9_boundBy_94 : decode cX9_boundBy 94 = .ok (.invokevirtual 156, 3) := by decide +kernel
theorem dX9_boundBy_97 : decode cX9_boundBy 97 = .ok (.aload_n 0, 1) := by decide +kernel
theorem dX9_boundBy_98 : decode cX9_boundBy 98 = .ok (.iload 7, 2) := by decide +kernel
theorem dX9_boundBy_100 : decode cX9_boundBy 100 = .ok (.invokevirtual 160, 3) := by decide +kernel
theorem dX9_boundBy_103 : decode cX9_boundBy 103 = .ok (.invokestatic 205, 3) := by decide +kernel
theorem dX9_boundBy_106 : decode cX9_boundBy 106 = .ok (.ifCond .eq 7, 3) := by decide +kernel
theorem dX9_boundBy_109 : decode cX9_boundBy 109 = .ok (.iload 8, 2) := by decide +kernel
theorem dX9_boundBy_111 : decode cX9_boundBy 111 = .ok (.istore 7, 2) := by decide +kernel
theorem dX9_boundBy_113 : decode cX9_boundBy 113 = .ok (.iinc 8 1, 3) := by decide +kernel
theorem dX9_boundBy_116 : decode cX9_boundBy 116 = .ok (.goto (-86), 3) := by decide +kernel
theorem dX9_boundBy_119 : decode cX9_boundBy 119 = .ok (.iload 7, 2) := by decide +kernel
theorem dX9_boundBy_121 : decode cX9_boundBy 121 = .ok (.iconst (-1), 1) := by decide +kernel
theorem dX9_boundBy_122 : decode cX9_boundBy 122 = .ok (.if_icmp .ne 5, 3) := by decide +kernel
theorem dX9_boundBy_125 : decode cX9_boundBy 125 = .ok (.iload_n 3, 1) := by decide +kernel
theorem dX9_boundBy_126 : decode cX9_boundBy 126 = .ok (.ireturn, 1) := by decide +kernel
theorem dX9_boundBy_127 : decode cX9_boundBy 127 = .ok (.aload_n 0, 1) := by decide +kernel
theorem dX9_boundBy_128 : decode cX9_boundBy 128 = .ok (.aload_n 0, 1) := by decide +kernel
theorem dX9_boundBy_129 : decode cX9_boundBy 129 = .ok (.iload 7, 2) := by decide +kernel
theorem dX9_boundBy_131 : decode cX9_boundBy 131 = .ok (.invokevirtual 136, 3) := by decide +kernel
theorem dX9_boundBy_134 : decode cX9_boundBy 134 = .ok (.lload 5, 2) := by decide +kernel
theorem dX9_boundBy_136 : decode cX9_boundBy 136 = .ok (.ldc2_w 106, 3) := by decide +kernel
theorem dX9_boundBy_139 : decode cX9_boundBy 139 = .ok (.lxor, 1) := by decide +kernel
theorem dX9_boundBy_140 : decode cX9_boundBy 140 = .ok (.land, 1) := by decide +kernel
theorem dX9_boundBy_141 : decode cX9_boundBy 141 = .ok (.invokevirtual 156, 3) := by decide +kernel
theorem dX9_boundBy_144 : decode cX9_boundBy 144 = .ok (.istore 8, 2) := by decide +kernel
theorem dX9_boundBy_146 : decode cX9_boundBy 146 = .ok (.aload_n 0, 1) := by decide +kernel
theorem dX9_boundBy_147 : decode cX9_boundBy 147 = .ok (.iload 7, 2) := by decide +kernel
theorem dX9_boundBy_149 : decode cX9_boundBy 149 = .ok (.invokevirtual 160, 3) := by decide +kernel
theorem dX9_boundBy_152 : decode cX9_boundBy 152 = .ok (.istore 9, 2) := by decide +kernel
theorem dX9_boundBy_154 : decode cX9_boundBy 154 = .ok (.iload 9, 2) := by decide +kernel
theorem dX9_boundBy_156 : decode cX9_boundBy 156 = .ok (.iload_n 2, 1) := by decide +kernel
theorem dX9_boundBy_157 : decode cX9_boundBy 157 = .ok (.if_icmp .le 13, 3) := by decide +kernel
theorem dX9_boundBy_160 : decode cX9_boundBy 160 = .ok (.iload_n 3, 1) := by decide +kernel
theorem dX9_boundBy_161 : decode cX9_boundBy 161 = .ok (.iload 8, 2) := by decide +kernel
theorem dX9_boundBy_163 : decode cX9_boundBy 163 = .ok (.iload_n 2, 1) := by decide +kernel
theorem dX9_boundBy_164 : decode cX9_boundBy 164 = .ok (.imul, 1) := by decide +kernel
theorem dX9_boundBy_165 : decode cX9_boundBy 165 = .ok (.iload 9, 2) := by decide +kernel
theorem dX9_boundBy_167 : decode cX9_boundBy 167 = .ok (.idiv, 1) := by decide +kernel
theorem dX9_boundBy_168 : decode cX9_boundBy 168 = .ok (.iadd, 1) := by decide +kernel
theorem dX9_boundBy_169 : decode cX9_boundBy 169 = .ok (.ireturn, 1) := by decide +kernel
theorem dX9_boundBy_170 : decode cX9_boundBy 170 = .ok (.iload_n 3, 1) := by decide +kernel
theorem dX9_boundBy_171 : decode cX9_boundBy 171 = .ok (.iload 8, 2) := by decide +kernel
theorem dX9_boundBy_173 : decode cX9_boundBy 173 = .ok (.iadd, 1) := by decide +kernel
theorem dX9_boundBy_174 : decode cX9_boundBy 174 = .ok (.istore_n 3, 1) := by decide +kernel
theorem dX9_boundBy_175 : decode cX9_boundBy 175 = .ok (.iload_n 2, 1) := by decide +kernel
theorem dX9_boundBy_176 : decode cX9_boundBy 176 = .ok (.iload 9, 2) := by decide +kernel
theorem dX9_boundBy_178 : decode cX9_boundBy 178 = .ok (.isub, 1) := by decide +kernel
theorem dX9_boundBy_179 : decode cX9_boundBy 179 = .ok (.istore_n 2, 1) := by decide +kernel
theorem dX9_boundBy_180 : decode cX9_boundBy 180 = .ok (.iload 4, 2) := by decide +kernel
theorem dX9_boundBy_182 : decode cX9_boundBy 182 = .ok (.iconst 1, 1) := by decide +kernel
theorem dX9_boundBy_183 : decode cX9_boundBy 183 = .ok (.iload 7, 2) := by decide +kernel
theorem dX9_boundBy_185 : decode cX9_boundBy 185 = .ok (.ishl, 1) := by decide +kernel
theorem dX9_boundBy_186 : decode cX9_boundBy 186 = .ok (.ior, 1) := by decide +kernel
theorem dX9_boundBy_187 : decode cX9_boundBy 187 = .ok (.istore 4, 2) := by decide +kernel
theorem dX9_boundBy_189 : decode cX9_boundBy 189 = .ok (.goto (-165), 3) := by decide +kernel
theorem dX9_bound_0 : decode cX9_bound 0 = .ok (.aload_n 0, 1) := by decide +kernel
theorem dX9_bound_1 : decode cX9_bound 1 = .ok (.iconst 0, 1) := by decide +kernel
theorem dX9_bound_2 : decode cX9_bound 2 = .ok (.putfield 60, 3) := by decide +kernel
theorem dX9_bound_5 : decode cX9_bound 5 = .ok (.aload_n 0, 1) := by decide +kernel
theorem dX9_bound_6 : decode cX9_bound 6 = .ok (.iload_n 1, 1) := by decide +kernel
theorem dX9_bound_7 : decode cX9_bound 7 = .ok (.iconst 0, 1) := by decide +kernel
theorem dX9_bound_8 : decode cX9_bound 8 = .ok (.iconst 3, 1) := by decide +kernel
theorem dX9_bound_9 : decode cX9_bound 9 = .ok (.invokestatic 116, 3) := by decide +kernel
theorem dX9_bound_12 : decode cX9_bound 12 = .ok (.ifCond .ne 7, 3) := by decide +kernel
theorem dX9_bound_15 : decode cX9_bound 15 = .ok (.iconst 1, 1) := by decide +kernel
theorem dX9_bound_16 : decode cX9_bound 16 = .ok (.goto 4, 3) := by decide +kernel
theorem dX9_bound_19 : decode cX9_bound 19 = .ok (.iconst 0, 1) := by decide +kernel
theorem dX9_bound_20 : decode cX9_bound 20 = .ok (.iconst 1, 1) := by decide +kernel
theorem dX9_bound_21 : decode cX9_bound 21 = .ok (.iconst 1, 1) := by decide +kernel
theorem dX9_bound_22 : decode cX9_bound 22 = .ok (.invokevirtual 119, 3) := by decide +kernel
theorem dX9_bound_25 : decode cX9_bound 25 = .ok (.ifCond .eq 5, 3) := by decide +kernel
theorem dX9_bound_28 : decode cX9_bound 28 = .ok (.iconst 0, 1) := by decide +kernel
theorem dX9_bound_29 : decode cX9_bound 29 = .ok (.ireturn, 1) := by decide +kernel
theorem dX9_bound_30 : decode cX9_bound 30 = .ok (.iload_n 1, 1) := by decide +kernel
theorem dX9_bound_31 : decode cX9_bound 31 = .ok (.ifCond .ne 8, 3) := by decide +kernel
theorem dX9_bound_34 : decode cX9_bound 34 = .ok (.aload_n 0, 1) := by decide +kernel
theorem dX9_bound_35 : decode cX9_bound 35 = .ok (.invokevirtual 221, 3) := by decide +kernel
theorem dX9_bound_38 : decode cX9_bound 38 = .ok (.ireturn, 1) := by decide +kernel
theorem dX9_bound_39 : decode cX9_bound 39 = .ok (.aload_n 0, 1) := by decide +kernel
theorem dX9_bound_40 : decode cX9_bound 40 = .ok (.iconst 1, 1) := by decide +kernel
theorem dX9_bound_41 : decode cX9_bound 41 = .ok (.invokevirtual 218, 3) := by decide +kernel
theorem dX9_bound_44 : decode cX9_bound 44 = .ok (.aload_n 0, 1) := by decide +kernel
theorem dX9_bound_45 : decode cX9_bound 45 = .ok (.iconst 0, 1) := by decide +kernel
theorem dX9_bound_46 : decode cX9_bound 46 = .ok (.invokevirtual 242, 3) := by decide +kernel
theorem dX9_bound_49 : decode cX9_bound 49 = .ok (.istore_n 2, 1) := by decide +kernel
theorem dX9_bound_50 : decode cX9_bound 50 = .ok (.iconst 0, 1) := by decide +kernel
theorem dX9_bound_51 : decode cX9_bound 51 = .ok (.istore_n 3, 1) := by decide +kernel
theorem dX9_bound_52 : decode cX9_bound 52 = .ok (.iconst 0, 1) := by decide +kernel
theorem dX9_bound_53 : decode cX9_bound 53 = .ok (.istore 4, 2) := by decide +kernel
theorem dX9_bound_55 : decode cX9_bound 55 = .ok (.iconst 0, 1) := by decide +kernel
theorem dX9_bound_56 : decode cX9_bound 56 = .ok (.istore 5, 2) := by decide +kernel
theorem dX9_bound_58 : decode cX9_bound 58 = .ok (.iload 5, 2) := by decide +kernel
theorem dX9_bound_60 : decode cX9_bound 60 = .ok (.aload_n 0, 1) := by decide +kernel
theorem dX9_bound_61 : decode cX9_bound 61 = .ok (.getfield 209, 3) := by decide +kernel
theorem dX9_bound_64 : decode cX9_bound 64 = .ok (.if_icmp .ge 50, 3) := by decide +kernel
theorem dX9_bound_67 : decode cX9_bound 67 = .ok (.iload 4, 2) := by decide +kernel
theorem dX9_bound_69 : decode cX9_bound 69 = .ok (.aload_n 0, 1) := by decide +kernel
theorem dX9_bound_70 : decode cX9_bound 70 = .ok (.aload_n 0, 1) := by decide +kernel
theorem dX9_bound_71 : decode cX9_bound 71 = .ok (.getfield 32, 3) := by decide +kernel
theorem dX9_bound_74 : decode cX9_bound 74 = .ok (.iload 5, 2) := by decide +kernel
theorem dX9_bound_76 : decode cX9_bound 76 = .ok (.iaload, 1) := by decide +kernel
theorem dX9_bound_77 : decode cX9_bound 77 = .ok (.invokevirtual 163, 3) := by decide +kernel
theorem dX9_bound_80 : decode cX9_bound 80 = .ok (.ior, 1) := by decide +kernel
theorem dX9_bound_81 : decode cX9_bound 81 = .ok (.istore 4, 2) := by decide +kernel
theorem dX9_bound_83 : decode cX9_bound 83 = .ok (.aload_n 0, 1) := by decide +kernel
theorem dX9_bound_84 : decode cX9_bound 84 = .ok (.iload 4, 2) := by decide +kernel
theorem dX9_bound_86 : decode cX9_bound 86 = .ok (.invokevirtual 242, 3) := by decide +kernel
theorem dX9_bound_89 : decode cX9_bound 89 = .ok (.istore 6, 2) := by decide +kernel
theorem dX9_bound_91 : decode cX9_bound 91 = .ok (.iload 6, 2) := by decide +kernel
theorem dX9_bound_93 : decode cX9_bound 93 = .ok (.iload_n 2, 1) := by decide +kernel
theorem dX9_bound_94 : decode cX9_bound 94 = .ok (.if_icmp .lt 6, 3) := by decide +kernel
theorem dX9_bound_97 : decode cX9_bound 97 = .ok (.goto 11, 3) := by decide +kernel
theorem dX9_bound_100 : decode cX9_bound 100 = .ok (.iload 6, 2) := by decide +kernel
theorem dX9_bound_102 : decode cX9_bound 102 = .ok (.istore_n 2, 1) := by decide +kernel
theorem dX9_bound_103 : decode cX9_bound 103 = .ok (.iload 5, 2) := by decide +kernel
theorem dX9_bound_105 : decode cX9_bound 105 = .ok (.iconst 1, 1) := by decide +kernel
theorem dX9_bound_106 : decode cX9_bound 106 = .ok (.iadd, 1) := by decide +kernel
theorem dX9_bound_107 : decode cX9_bound 107 = .ok (.istore_n 3, 1) := by decide +kernel
theorem dX9_bound_108 : decode cX9_bound 108 = .ok (.iinc 5 1, 3) := by decide +kernel
theorem dX9_bound_111 : decode cX9_bound 111 = .ok (.goto (-53), 3) := by decide +kernel
theorem dX9_bound_114 : decode cX9_bound 114 = .ok (.iload_n 1, 1) := by decide +kernel
theorem dX9_bound_115 : decode cX9_bound 115 = .ok (.iconst 3, 1) := by decide +kernel
theorem dX9_bound_116 : decode cX9_bound 116 = .ok (.if_icmp .ge 14, 3) := by decide +kernel
theorem dX9_bound_119 : decode cX9_bound 119 = .ok (.iload_n 1, 1) := by decide +kernel
theorem dX9_bound_120 : decode cX9_bound 120 = .ok (.iconst 1, 1) := by decide +kernel
theorem dX9_bound_121 : decode cX9_bound 121 = .ok (.if_icmp .ne 7, 3) := by decide +kernel
theorem dX9_bound_124 : decode cX9_bound 124 = .ok (.iload_n 2, 1) := by decide +kernel
theorem dX9_bound_125 : decode cX9_bound 125 = .ok (.goto 4, 3) := by decide +kernel
theorem dX9_bound_128 : decode cX9_bound 128 = .ok (.iload_n 3, 1) := by decide +kernel
theorem dX9_bound_129 : decode cX9_bound 129 = .ok (.ireturn, 1) := by decide +kernel
theorem dX9_bound_130 : decode cX9_bound 130 = .ok (.aload_n 0, 1) := by decide +kernel
theorem dX9_bound_131 : decode cX9_bound 131 = .ok (.iconst 2, 1) := by decide +kernel
theorem dX9_bound_132 : decode cX9_bound 132 = .ok (.invokevirtual 224, 3) := by decide +kernel
theorem dX9_bound_135 : decode cX9_bound 135 = .ok (.iload_n 2, 1) := by decide +kernel
theorem dX9_bound_136 : decode cX9_bound 136 = .ok (.ifCond .ne 9, 3) := by decide +kernel
theorem dX9_bound_139 : decode cX9_bound 139 = .ok (.sipush 1000, 3) := by decide +kernel
theorem dX9_bound_142 : decode cX9_bound 142 = .ok (.goto 17, 3) := by decide +kernel
theorem dX9_bound_145 : decode cX9_bound 145 = .ok (.aload_n 0, 1) := by decide +kernel
theorem dX9_bound_146 : decode cX9_bound 146 = .ok (.aload_n 0, 1) := by decide +kernel
theorem dX9_bound_147 : decode cX9_bound 147 = .ok (.getfield 212, 3) := by decide +kernel
theorem dX9_bound_150 : decode cX9_bound 150 = .ok (.invokevirtual 196, 3) := by decide +kernel
theorem dX9_bound_153 : decode cX9_bound 153 = .ok (.sipush 1000, 3) := by decide +kernel
theorem dX9_bound_156 : decode cX9_bound 156 = .ok (.imul, 1) := by decide +kernel
theorem dX9_bound_157 : decode cX9_bound 157 = .ok (.iload_n 2, 1) := by decide +kernel
theorem dX9_bound_158 : decode cX9_bound 158 = .ok (.idiv, 1) := by decide +kernel
theorem dX9_bound_159 : decode cX9_bound 159 = .ok (.ireturn, 1) := by decide +kernel
theorem dX9_laysSets_0 : decode cX9_laysSets 0 = .ok (.aload_n 0, 1) := by decide +kernel
theorem dX9_laysSets_1 : decode cX9_laysSets 1 = .ok (.getfield 173, 3) := by decide +kernel
theorem dX9_laysSets_4 : decode cX9_laysSets 4 = .ok (.ifCond .eq 4, 3) := by decide +kernel
theorem dX9_laysSets_7 : decode cX9_laysSets 7 = .ok (.return_, 1) := by decide +kernel
theorem dX9_laysSets_8 : decode cX9_laysSets 8 = .ok (.aload_n 0, 1) := by decide +kernel
theorem dX9_laysSets_9 : decode cX9_laysSets 9 = .ok (.iconst 1, 1) := by decide +kernel
theorem dX9_laysSets_10 : decode cX9_laysSets 10 = .ok (.putfield 173, 3) := by decide +kernel
theorem dX9_laysSets_13 : decode cX9_laysSets 13 = .ok (.iconst 0, 1) := by decide +kernel
theorem dX9_laysSets_14 : decode cX9_laysSets 14 = .ok (.istore_n 1, 1) := by decide +kernel
theorem dX9_laysSets_15 : decode cX9_laysSets 15 = .ok (.iload_n 1, 1) := by decide +kernel
theorem dX9_laysSets_16 : decode cX9_laysSets 16 = .ok (.aload_n 0, 1) := by decide +kernel
theorem dX9_laysSets_17 : decode cX9_laysSets 17 = .ok (.invokevirtual 147, 3) := by decide +kernel
theorem dX9_laysSets_20 : decode cX9_laysSets 20 = .ok (.if_icmp .ge 20, 3) := by decide +kernel
theorem dX9_laysSets_23 : decode cX9_laysSets 23 = .ok (.aload_n 0, 1) := by decide +kernel
theorem dX9_laysSets_24 : decode cX9_laysSets 24 = .ok (.getfield 52, 3) := by decide +kernel
theorem dX9_laysSets_27 : decode cX9_laysSets 27 = .ok (.iload_n 1, 1) := by decide +kernel
theorem dX9_laysSets_28 : decode cX9_laysSets 28 = .ok (.aload_n 0, 1) := by decide +kernel
theorem dX9_laysSets_29 : decode cX9_laysSets 29 = .ok (.iload_n 1, 1) := by decide +kernel
theorem dX9_laysSets_30 : decode cX9_laysSets 30 = .ok (.invokevirtual 150, 3) := by decide +kernel
theorem dX9_laysSets_33 : decode cX9_laysSets 33 = .ok (.iastore, 1) := by decide +kernel
theorem dX9_laysSets_34 : decode cX9_laysSets 34 = .ok (.iinc 1 1, 3) := by decide +kernel
theorem dX9_laysSets_37 : decode cX9_laysSets 37 = .ok (.goto (-22), 3) := by decide +kernel
theorem dX9_laysSets_40 : decode cX9_laysSets 40 = .ok (.iconst 0, 1) := by decide +kernel
theorem dX9_laysSets_41 : decode cX9_laysSets 41 = .ok (.istore_n 1, 1) := by decide +kernel
theorem dX9_laysSets_42 : decode cX9_laysSets 42 = .ok (.iload_n 1, 1) := by decide +kernel
theorem dX9_laysSets_43 : decode cX9_laysSets 43 = .ok (.aload_n 0, 1) := by decide +kernel
theorem dX9_laysSets_44 : decode cX9_laysSets 44 = .ok (.invokevirtual 133, 3) := by decide +kernel
theorem dX9_laysSets_47 : decode cX9_laysSets 47 = .ok (.if_icmp .ge 20, 3) := by decide +kernel
theorem dX9_laysSets_50 : decode cX9_laysSets 50 = .ok (.aload_n 0, 1) := by decide +kernel
theorem dX9_laysSets_51 : decode cX9_laysSets 51 = .ok (.getfield 55, 3) := by decide +kernel
theorem dX9_laysSets_54 : decode cX9_laysSets 54 = .ok (.iload_n 1, 1) := by decide +kernel
theorem dX9_laysSets_55 : decode cX9_laysSets 55 = .ok (.aload_n 0, 1) := by decide +kernel
theorem dX9_laysSets_56 : decode cX9_laysSets 56 = .ok (.iload_n 1, 1) := by decide +kernel
theorem dX9_laysSets_57 : decode cX9_laysSets 57 = .ok (.invokevirtual 163, 3) := by decide +kernel
theorem dX9_laysSets_60 : decode cX9_laysSets 60 = .ok (.iastore, 1) := by decide +kernel
theorem dX9_laysSets_61 : decode cX9_laysSets 61 = .ok (.iinc 1 1, 3) := by decide +kernel
theorem dX9_laysSets_64 : decode cX9_laysSets 64 = .ok (.goto (-22), 3) := by decide +kernel
theorem dX9_laysSets_67 : decode cX9_laysSets 67 = .ok (.iconst 0, 1) := by decide +kernel
theorem dX9_laysSets_68 : decode cX9_laysSets 68 = .ok (.istore_n 1, 1) := by decide +kernel
theorem dX9_laysSets_69 : decode cX9_laysSets 69 = .ok (.iload_n 1, 1) := by decide +kernel
theorem dX9_laysSets_70 : decode cX9_laysSets 70 = .ok (.iconst 1, 1) := by decide +kernel
theorem dX9_laysSets_71 : decode cX9_laysSets 71 = .ok (.aload_n 0, 1) := by decide +kernel
theorem dX9_laysSets_72 : decode cX9_laysSets 72 = .ok (.invokevirtual 133, 3) := by decide +kernel
theorem dX9_laysSets_75 : decode cX9_laysSets 75 = .ok (.ishl, 1) := by decide +kernel
theorem dX9_laysSets_76 : decode cX9_laysSets 76 = .ok (.if_icmp .ge 144, 3) := by decide +kernel
theorem dX9_laysSets_79 : decode cX9_laysSets 79 = .ok (.iconst 1, 1) := by decide +kernel
theorem dX9_laysSets_80 : decode cX9_laysSets 80 = .ok (.istore_n 2, 1) := by decide +kernel
theorem dX9_laysSets_81 : decode cX9_laysSets 81 = .ok (.iconst 0, 1) := by decide +kernel
theorem dX9_laysSets_82 : decode cX9_laysSets 82 = .ok (.istore_n 3, 1) := by decide +kernel
theorem dX9_laysSets_83 : decode cX9_laysSets 83 = .ok (.iload_n 3, 1) := by decide +kernel
theorem dX9_laysSets_84 : decode cX9_laysSets 84 = .ok (.aload_n 0, 1) := by decide +kernel
theorem dX9_laysSets_85 : decode cX9_laysSets 85 = .ok (.invokevirtual 133, 3) := by decide +kernel
theorem dX9_laysSets_88 : decode cX9_laysSets 88 = .ok (.if_icmp .ge 41, 3) := by decide +kernel
theorem dX9_laysSets_91 : decode cX9_laysSets 91 = .ok (.iload_n 2, 1) := by decide +kernel
theorem dX9_laysSets_92 : decode cX9_laysSets 92 = .ok (.ifCond .eq 37, 3) := by decide +kernel
theorem dX9_laysSets_95 : decode cX9_laysSets 95 = .ok (.iload_n 1, 1) := by decide +kernel
theorem dX9_laysSets_96 : decode cX9_laysSets 96 = .ok (.i2l, 1) := by decide +kernel
theorem dX9_laysSets_97 : decode cX9_laysSets 97 = .ok (.iload_n 3, 1) := by decide +kernel
theorem dX9_laysSets_98 : decode cX9_laysSets 98 = .ok (.invokestatic 140, 3) := by decide +kernel
theorem dX9_laysSets_101 : decode cX9_laysSets 101 = .ok (.ifCond .eq 16, 3) := by decide +kernel
theorem dX9_laysSets_104 : decode cX9_laysSets 104 = .ok (.aload_n 0, 1) := by decide +kernel
theorem dX9_laysSets_105 : decode cX9_laysSets 105 = .ok (.getfield 55, 3) := by decide +kernel
theorem dX9_laysSets_108 : decode cX9_laysSets 108 = .ok (.iload_n 3, 1) := by decide +kernel
theorem dX9_laysSets_109 : decode cX9_laysSets 109 = .ok (.iaload, 1) := by decide +kernel
theorem dX9_laysSets_110 : decode cX9_laysSets 110 = .ok (.iload_n 1, 1) := by decide +kernel
theorem dX9_laysSets_111 : decode cX9_laysSets 111 = .ok (.iconst (-1), 1) := by decide +kernel
theorem dX9_laysSets_112 : decode cX9_laysSets 112 = .ok (.ixor, 1) := by decide +kernel
theorem dX9_laysSets_113 : decode cX9_laysSets 113 = .ok (.iand, 1) := by decide +kernel
theorem dX9_laysSets_114 : decode cX9_laysSets 114 = .ok (.ifCond .ne 7, 3) := by decide +kernel
theorem dX9_laysSets_117 : decode cX9_laysSets 117 = .ok (.iconst 1, 1) := by decide +kernel
theorem dX9_laysSets_118 : decode cX9_laysSets 118 = .ok (.goto 4, 3) := by decide +kernel
theorem dX9_laysSets_121 : decode cX9_laysSets 121 = .ok (.iconst 0, 1) := by decide +kernel
theorem dX9_laysSets_122 : decode cX9_laysSets 122 = .ok (.istore_n 2, 1) := by decide +kernel
theorem dX9_laysSets_123 : decode cX9_laysSets 123 = .ok (.iinc 3 1, 3) := by decide +kernel
theorem dX9_laysSets_126 : decode cX9_laysSets 126 = .ok (.goto (-43), 3) := by decide +kernel
theorem dX9_laysSets_129 : decode cX9_laysSets 129 = .ok (.aload_n 0, 1) := by decide +kernel
theorem dX9_laysSets_130 : decode cX9_laysSets 130 = .ok (.getfield 49, 3) := by decide +kernel
theorem dX9_laysSets_133 : decode cX9_laysSets 133 = .ok (.iload_n 1, 1) := by decide +kernel
theorem dX9_laysSets_134 : decode cX9_laysSets 134 = .ok (.aload_n 0, 1) := by decide +kernel
theorem dX9_laysSets_135 : decode cX9_laysSets 135 = .ok (.iload_n 1, 1) := by decide +kernel
theorem dX9_laysSets_136 : decode cX9_laysSets 136 = .ok (.invokevirtual 166, 3) := by decide +kernel
theorem dX9_laysSets_139 : decode cX9_laysSets 139 = .ok (.iastore, 1) := by decide +kernel
theorem dX9_laysSets_140 : decode cX9_laysSets 140 = .ok (.aload_n 0, 1) := by decide +kernel
theorem dX9_laysSets_141 : decode cX9_laysSets 141 = .ok (.getfield 46, 3) := by decide +kernel
theorem dX9_laysSets_144 : decode cX9_laysSets 144 = .ok (.iload_n 1, 1) := by decide +kernel
theorem dX9_laysSets_145 : decode cX9_laysSets 145 = .ok (.iconst (-1), 1) := by decide +kernel
theorem dX9_laysSets_146 : decode cX9_laysSets 146 = .ok (.iastore, 1) := by decide +kernel
theorem dX9_laysSets_147 : decode cX9_laysSets 147 = .ok (.iload_n 2, 1) := by decide +kernel
theorem dX9_laysSets_148 : decode cX9_laysSets 148 = .ok (.ifCond .ne 6, 3) := by decide +kernel
theorem dX9_laysSets_151 : decode cX9_laysSets 151 = .ok (.goto 63, 3) := by decide +kernel
theorem dX9_laysSets_154 : decode cX9_laysSets 154 = .ok (.aload_n 0, 1) := by decide +kernel
theorem dX9_laysSets_155 : decode cX9_laysSets 155 = .ok (.iload_n 1, 1) := by decide +kernel
theorem dX9_laysSets_156 : decode cX9_laysSets 156 = .ok (.invokevirtual 153, 3) := by decide +kernel
theorem dX9_laysSets_159 : decode cX9_laysSets 159 = .ok (.lstore_n 3, 1) := by decide +kernel
theorem dX9_laysSets_160 : decode cX9_laysSets 160 = .ok (.iconst 0, 1) := by decide +kernel
theorem dX9_laysSets_161 : decode cX9_laysSets 161 = .ok (.istore 5, 2) := by decide +kernel
theorem dX9_laysSets_163 : decode cX9_laysSets 163 = .ok (.iconst 0, 1) := by decide +kernel
theorem dX9_laysSets_164 : decode cX9_laysSets 164 = .ok (.istore 6, 2) := by decide +kernel
theorem dX9_laysSets_166 : decode cX9_laysSets 166 = .ok (.iload 6, 2) := by decide +kernel
theorem dX9_laysSets_168 : decode cX9_laysSets 168 = .ok (.aload_n 0, 1) := by decide +kernel
theorem dX9_laysSets_169 : decode cX9_laysSets 169 = .ok (.invokevirtual 147, 3) := by decide +kernel
theorem dX9_laysSets_172 : decode cX9_laysSets 172 = .ok (.if_icmp .ge 34, 3) := by decide +kernel
theorem dX9_laysSets_175 : decode cX9_laysSets 175 = .ok (.iload 5, 2) := by decide +kernel
theorem dX9_laysSets_177 : decode cX9_laysSets 177 = .ok (.lload_n 3, 1) := by decide +kernel
theorem dX9_laysSets_178 : decode cX9_laysSets 178 = .ok (.iload 6, 2) := by decide +kernel
theorem dX9_laysSets_180 : decode cX9_laysSets 180 = .ok (.invokestatic 140, 3) := by decide +kernel
theorem dX9_laysSets_183 : decode cX9_laysSets 183 = .ok (.ifCond .eq 13, 3) := by decide +kernel
theorem dX9_laysSets_186 : decode cX9_laysSets 186 = .ok (.aload_n 0, 1) := by decide +kernel
theorem dX9_laysSets_187 : decode cX9_laysSets 187 = .ok (.getfield 52, 3) := by decide +kernel
theorem dX9_laysSets_190 : decode cX9_laysSets 190 = .ok (.iload 6, 2) := by decide +kernel
theorem dX9_laysSets_192 : decode cX9_laysSets 192 = .ok (.iaload, 1) := by decide +kernel
theorem dX9_laysSets_193 : decode cX9_laysSets 193 = .ok (.goto 4, 3) := by decide +kernel
theorem dX9_laysSets_196 : decode cX9_laysSets 196 = .ok (.iconst 0, 1) := by decide +kernel
theorem dX9_laysSets_197 : decode cX9_laysSets 197 = .ok (.iadd, 1) := by decide +kernel
theorem dX9_laysSets_198 : decode cX9_laysSets 198 = .ok (.istore 5, 2) := by decide +kernel
theorem dX9_laysSets_200 : decode cX9_laysSets 200 = .ok (.iinc 6 1, 3) := by decide +kernel
theorem dX9_laysSets_203 : decode cX9_laysSets 203 = .ok (.goto (-37), 3) := by decide +kernel
theorem dX9_laysSets_206 : decode cX9_laysSets 206 = .ok (.aload_n 0, 1) := by decide +kernel
theorem dX9_laysSets_207 : decode cX9_laysSets 207 = .ok (.getfield 46, 3) := by decide +kernel
theorem dX9_laysSets_210 : decode cX9_laysSets 210 = .ok (.iload_n 1, 1) := by decide +kernel
theorem dX9_laysSets_211 : decode cX9_laysSets 211 = .ok (.iload 5, 2) := by decide +kernel
theorem dX9_laysSets_213 : decode cX9_laysSets 213 = .ok (.iastore, 1) := by decide +kernel
theorem dX9_laysSets_214 : decode cX9_laysSets 214 = .ok (.iinc 1 1, 3) := by decide +kernel
theorem dX9_laysSets_217 : decode cX9_laysSets 217 = .ok (.goto (-148), 3) := by decide +kernel
theorem dX9_laysSets_220 : decode cX9_laysSets 220 = .ok (.return_, 1) := by decide +kernel
theorem dX9_bestWithin_0 : decode cX9_bestWithin 0 = .ok (.iconst 0, 1) := by decide +kernel
theorem dX9_bestWithin_1 : decode cX9_bestWithin 1 = .ok (.istore_n 3, 1) := by decide +kernel
theorem dX9_bestWithin_2 : decode cX9_bestWithin 2 = .ok (.iconst 1, 1) := by decide +kernel
theorem dX9_bestWithin_3 : decode cX9_bestWithin 3 = .ok (.istore 4, 2) := by decide +kernel
theorem dX9_bestWithin_5 : decode cX9_bestWithin 5 = .ok (.iload 4, 2) := by decide +kernel
theorem dX9_bestWithin_7 : decode cX9_bestWithin 7 = .ok (.iconst 1, 1) := by decide +kernel
theorem dX9_bestWithin_8 : decode cX9_bestWithin 8 = .ok (.aload_n 0, 1) := by decide +kernel
theorem dX9_bestWithin_9 : decode cX9_bestWithin 9 = .ok (.invokevirtual 133, 3) := by decide +kernel
theorem dX9_bestWithin_12 : decode cX9_bestWithin 12 = .ok (.ishl, 1) := by decide +kernel
theorem dX9_bestWithin_13 : decode cX9_bestWithin 13 = .ok (.if_icmp .ge 100, 3) := by decide +kernel
theorem dX9_bestWithin_16 : decode cX9_bestWithin 16 = .ok (.aload_n 0, 1) := by decide +kernel
theorem dX9_bestWithin_17 : decode cX9_bestWithin 17 = .ok (.getfield 46, 3) := by decide +kernel
theorem dX9_bestWithin_20 : decode cX9_bestWithin 20 = .ok (.iload 4, 2) := by decide +kernel
theorem dX9_bestWithin_22 : decode cX9_bestWithin 22 = .ok (.iaload, 1) := by decide +kernel
theorem dX9_bestWithin_23 : decode cX9_bestWithin 23 = .ok (.iconst (-1), 1) := by decide +kernel
theorem dX9_bestWithin_24 : decode cX9_bestWithin 24 = .ok (.if_icmp .eq 83, 3) := by decide +kernel
theorem dX9_bestWithin_27 : decode cX9_bestWithin 27 = .ok (.aload_n 0, 1) := by decide +kernel
theorem dX9_bestWithin_28 : decode cX9_bestWithin 28 = .ok (.getfield 49, 3) := by decide +kernel
theorem dX9_bestWithin_31 : decode cX9_bestWithin 31 = .ok (.iload 4, 2) := by decide +kernel
theorem dX9_bestWithin_33 : decode cX9_bestWithin 33 = .ok (.iaload, 1) := by decide +kernel
theorem dX9_bestWithin_34 : decode cX9_bestWithin 34 = .ok (.iload_n 1, 1) := by decide +kernel
theorem dX9_bestWithin_35 : decode cX9_bestWithin 35 = .ok (.if_icmp .gt 72, 3) := by decide +kernel
theorem dX9_bestWithin_38 : decode cX9_bestWithin 38 = .ok (.iload_n 2, 1) := by decide +kernel
theorem dX9_bestWithin_39 : decode cX9_bestWithin 39 = .ok (.iconst (-1), 1) := by decide +kernel
theorem dX9_bestWithin_40 : decode cX9_bestWithin 40 = .ok (.if_icmp .eq 16, 3) := by decide +kernel
theorem dX9_bestWithin_43 : decode cX9_bestWithin 43 = .ok (.iload 4, 2) := by decide +kernel
theorem dX9_bestWithin_45 : decode cX9_bestWithin 45 = .ok (.i2l, 1) := by decide +kernel
theorem dX9_bestWithin_46 : decode cX9_bestWithin 46 = .ok (.iload_n 2, 1) := by decide +kernel
theorem dX9_bestWithin_47 : decode cX9_bestWithin 47 = .ok (.invokestatic 140, 3) := by decide +kernel
theorem dX9_bestWithin_50 : decode cX9_bestWithin 50 = .ok (.ifCond .eq 6, 3) := by decide +kernel
theorem dX9_bestWithin_53 : decode cX9_bestWithin 53 = .ok (.goto 54, 3) := by decide +kernel
theorem dX9_bestWithin_56 : decode cX9_bestWithin 56 = .ok (.aload_n 0, 1) := by decide +kernel
theorem dX9_bestWithin_57 : decode cX9_bestWithin 57 = .ok (.getfield 46, 3) := by decide +kernel
theorem dX9_bestWithin_60 : decode cX9_bestWithin 60 = .ok (.iload 4, 2) := by decide +kernel
theorem dX9_bestWithin_62 : decode cX9_bestWithin 62 = .ok (.iaload, 1) := by decide +kernel
theorem dX9_bestWithin_63 : decode cX9_bestWithin 63 = .ok (.aload_n 0, 1) := by decide +kernel
theorem dX9_bestWithin_64 : decode cX9_bestWithin 64 = .ok (.getfield 46, 3) := by decide +kernel
theorem dX9_bestWithin_67 : decode cX9_bestWithin 67 = .ok (.iload_n 3, 1) := by decide +kernel
theorem dX9_bestWithin_68 : decode cX9_bestWithin 68 = .ok (.iaload, 1) := by decide +kernel
theorem dX9_bestWithin_69 : decode cX9_bestWithin 69 = .ok (.if_icmp .gt 35, 3) := by decide +kernel
theorem dX9_bestWithin_72 : decode cX9_bestWithin 72 = .ok (.aload_n 0, 1) := by decide +kernel
theorem dX9_bestWithin_73 : decode cX9_bestWithin 73 = .ok (.getfield 46, 3) := by decide +kernel
theorem dX9_bestWithin_76 : decode cX9_bestWithin 76 = .ok (.iload 4, 2) := by decide +kernel
theorem dX9_bestWithin_78 : decode cX9_bestWithin 78 = .ok (.iaload, 1) := by decide +kernel
theorem dX9_bestWithin_79 : decode cX9_bestWithin 79 = .ok (.aload_n 0, 1) := by decide +kernel
theorem dX9_bestWithin_80 : decode cX9_bestWithin 80 = .ok (.getfield 46, 3) := by decide +kernel
theorem dX9_bestWithin_83 : decode cX9_bestWithin 83 = .ok (.iload_n 3, 1) := by decide +kernel
theorem dX9_bestWithin_84 : decode cX9_bestWithin 84 = .ok (.iaload, 1) := by decide +kernel
theorem dX9_bestWithin_85 : decode cX9_bestWithin 85 = .ok (.if_icmp .ne 22, 3) := by decide +kernel
theorem dX9_bestWithin_88 : decode cX9_bestWithin 88 = .ok (.aload_n 0, 1) := by decide +kernel
theorem dX9_bestWithin_89 : decode cX9_bestWithin 89 = .ok (.getfield 49, 3) := by decide +kernel
theorem dX9_bestWithin_92 : decode cX9_bestWithin 92 = .ok (.iload 4, 2) := by decide +kernel
theorem dX9_bestWithin_94 : decode cX9_bestWithin 94 = .ok (.iaload, 1) := by decide +kernel
theorem dX9_bestWithin_95 : decode cX9_bestWithin 95 = .ok (.aload_n 0, 1) := by decide +kernel
theorem dX9_bestWithin_96 : decode cX9_bestWithin 96 = .ok (.getfield 49, 3) := by decide +kernel
theorem dX9_bestWithin_99 : decode cX9_bestWithin 99 = .ok (.iload_n 3, 1) := by decide +kernel
theorem dX9_bestWithin_100 : decode cX9_bestWithin 100 = .ok (.iaload, 1) := by decide +kernel
theorem dX9_bestWithin_101 : decode cX9_bestWithin 101 = .ok (.if_icmp .ge 6, 3) := by decide +kernel
theorem dX9_bestWithin_104 : decode cX9_bestWithin 104 = .ok (.iload 4, 2) := by decide +kernel
theorem dX9_bestWithin_106 : decode cX9_bestWithin 106 = .ok (.istore_n 3, 1) := by decide +kernel
theorem dX9_bestWithin_107 : decode cX9_bestWithin 107 = .ok (.iinc 4 1, 3) := by decide +kernel
theorem dX9_bestWithin_110 : decode cX9_bestWithin 110 = .ok (.goto (-105), 3) := by decide +kernel
theorem dX9_bestWithin_113 : decode cX9_bestWithin 113 = .ok (.iload_n 3, 1) := by decide +kernel
theorem dX9_bestWithin_114 : decode cX9_bestWithin 114 = .ok (.ireturn, 1) := by decide +kernel
theorem dX9_best_0 : decode cX9_best 0 = .ok (.aload_n 0, 1) := by decide +kernel
theorem dX9_best_1 : decode cX9_best 1 = .ok (.iconst 0, 1) := by decide +kernel
theorem dX9_best_2 : decode cX9_best 2 = .ok (.putfield 60, 3) := by decide +kernel
theorem dX9_best_5 : decode cX9_best 5 = .ok (.aload_n 0, 1) := by decide +kernel
theorem dX9_best_6 : decode cX9_best 6 = .ok (.iload_n 1, 1) := by decide +kernel
theorem dX9_best_7 : decode cX9_best 7 = .ok (.iconst 0, 1) := by decide +kernel
theorem dX9_best_8 : decode cX9_best 8 = .ok (.sipush 9999, 3) := by decide +kernel
theorem dX9_best_11 : decode cX9_best 11 = .ok (.invokestatic 116, 3) := by decide +kernel
theorem dX9_best_14 : decode cX9_best 14 = .ok (.ifCond .eq 12, 3) := by decide +kernel
theorem dX9_best_17 : decode cX9_best 17 = .ok (.iload_n 2, 1) := by decide +kernel
theorem dX9_best_18 : decode cX9_best 18 = .ok (.iconst 0, 1) := by decide +kernel
theorem dX9_best_19 : decode cX9_best 19 = .ok (.iconst 2, 1) := by decide +kernel
theorem dX9_best_20 : decode cX9_best 20 = .ok (.invokestatic 116, 3) := by decide +kernel
theorem dX9_best_23 : decode cX9_best 23 = .ok (.ifCond .ne 7, 3) := by decide +kernel
theorem dX9_best_26 : decode cX9_best 26 = .ok (.iconst 1, 1) := by decide +kernel
theorem dX9_best_27 : decode cX9_best 27 = .ok (.goto 4, 3) := by decide +kernel
theorem dX9_best_30 : decode cX9_best 30 = .ok (.iconst 0, 1) := by decide +kernel
theorem dX9_best_31 : decode cX9_best 31 = .ok (.iconst 1, 1) := by decide +kernel
theorem dX9_best_32 : decode cX9_best 32 = .ok (.iconst 1, 1) := by decide +kernel
theorem dX9_best_33 : decode cX9_best 33 = .ok (.invokevirtual 119, 3) := by decide +kernel
theorem dX9_best_36 : decode cX9_best 36 = .ok (.ifCond .eq 5, 3) := by decide +kernel
theorem dX9_best_39 : decode cX9_best 39 = .ok (.iconst 0, 1) := by decide +kernel
theorem dX9_best_40 : decode cX9_best 40 = .ok (.ireturn, 1) := by decide +kernel
theorem dX9_best_41 : decode cX9_best 41 = .ok (.aload_n 0, 1) := by decide +kernel
theorem dX9_best_42 : decode cX9_best 42 = .ok (.invokevirtual 245, 3) := by decide +kernel
theorem dX9_best_45 : decode cX9_best 45 = .ok (.aload_n 0, 1) := by decide +kernel
theorem dX9_best_46 : decode cX9_best 46 = .ok (.iload_n 1, 1) := by decide +kernel
theorem dX9_best_47 : decode cX9_best 47 = .ok (.iconst (-1), 1) := by decide +kernel
theorem dX9_best_48 : decode cX9_best 48 = .ok (.invokevirtual 248, 3) := by decide +kernel
theorem dX9_best_51 : decode cX9_best 51 = .ok (.istore_n 3, 1) := by decide +kernel
theorem dX9_best_52 : decode cX9_best 52 = .ok (.iload_n 2, 1) := by decide +kernel
theorem dX9_best_53 : decode cX9_best 53 = .ok (.ifCond .ne 7, 3) := by decide +kernel
theorem dX9_best_56 : decode cX9_best 56 = .ok (.iload_n 3, 1) := by decide +kernel
theorem dX9_best_57 : decode cX9_best 57 = .ok (.goto 23, 3) := by decide +kernel
theorem dX9_best_60 : decode cX9_best 60 = .ok (.iload_n 2, 1) := by decide +kernel
theorem dX9_best_61 : decode cX9_best 61 = .ok (.iconst 1, 1) := by decide +kernel
theorem dX9_best_62 : decode cX9_best 62 = .ok (.if_icmp .ne 12, 3) := by decide +kernel
theorem dX9_best_65 : decode cX9_best 65 = .ok (.aload_n 0, 1) := by decide +kernel
theorem dX9_best_66 : decode cX9_best 66 = .ok (.getfield 46, 3) := by decide +kernel
theorem dX9_best_69 : decode cX9_best 69 = .ok (.iload_n 3, 1) := by decide +kernel
theorem dX9_best_70 : decode cX9_best 70 = .ok (.iaload, 1) := by decide +kernel
theorem dX9_best_71 : decode cX9_best 71 = .ok (.goto 9, 3) := by decide +kernel
theorem dX9_best_74 : decode cX9_best 74 = .ok (.aload_n 0, 1) := by decide +kernel
theorem dX9_best_75 : decode cX9_best 75 = .ok (.getfield 49, 3) := by decide +kernel
theorem dX9_best_78 : decode cX9_best 78 = .ok (.iload_n 3, 1) := by decide +kernel
theorem dX9_best_79 : decode cX9_best 79 = .ok (.iaload, 1) := by decide +kernel
theorem dX9_best_80 : decode cX9_best 80 = .ok (.ireturn, 1) := by decide +kernel
theorem dX9_fewest_0 : decode cX9_fewest 0 = .ok (.aload_n 0, 1) := by decide +kernel
theorem dX9_fewest_1 : decode cX9_fewest 1 = .ok (.iconst 0, 1) := by decide +kernel
theorem dX9_fewest_2 : decode cX9_fewest 2 = .ok (.putfield 60, 3) := by decide +kernel
theorem dX9_fewest_5 : decode cX9_fewest 5 = .ok (.aload_n 0, 1) := by decide +kernel
theorem dX9_fewest_6 : decode cX9_fewest 6 = .ok (.iload_n 1, 1) := by decide +kernel
theorem dX9_fewest_7 : decode cX9_fewest 7 = .ok (.iconst 0, 1) := by decide +kernel
theorem dX9_fewest_8 : decode cX9_fewest 8 = .ok (.iconst 2, 1) := by decide +kernel
theorem dX9_fewest_9 : decode cX9_fewest 9 = .ok (.invokestatic 116, 3) := by decide +kernel
theorem dX9_fewest_12 : decode cX9_fewest 12 = .ok (.ifCond .ne 7, 3) := by decide +kernel
theorem dX9_fewest_15 : decode cX9_fewest 15 = .ok (.iconst 1, 1) := by decide +kernel
theorem dX9_fewest_16 : decode cX9_fewest 16 = .ok (.goto 4, 3) := by decide +kernel
theorem dX9_fewest_19 : decode cX9_fewest 19 = .ok (.iconst 0, 1) := by decide +kernel
theorem dX9_fewest_20 : decode cX9_fewest 20 = .ok (.iconst 1, 1) := by decide +kernel
theorem dX9_fewest_21 : decode cX9_fewest 21 = .ok (.iconst 1, 1) := by decide +kernel
theorem dX9_fewest_22 : decode cX9_fewest 22 = .ok (.invokevirtual 119, 3) := by decide +kernel
theorem dX9_fewest_25 : decode cX9_fewest 25 = .ok (.ifCond .eq 5, 3) := by decide +kernel
theorem dX9_fewest_28 : decode cX9_fewest 28 = .ok (.iconst 0, 1) := by decide +kernel
theorem dX9_fewest_29 : decode cX9_fewest 29 = .ok (.ireturn, 1) := by decide +kernel
theorem dX9_fewest_30 : decode cX9_fewest 30 = .ok (.aload_n 0, 1) := by decide +kernel
theorem dX9_fewest_31 : decode cX9_fewest 31 = .ok (.invokevirtual 245, 3) := by decide +kernel
theorem dX9_fewest_34 : decode cX9_fewest 34 = .ok (.iconst 1, 1) := by decide +kernel
theorem dX9_fewest_35 : decode cX9_fewest 35 = .ok (.aload_n 0, 1) := by decide +kernel
theorem dX9_fewest_36 : decode cX9_fewest 36 = .ok (.invokevirtual 133, 3) := by decide +kernel
theorem dX9_fewest_39 : decode cX9_fewest 39 = .ok (.ishl, 1) := by decide +kernel
theorem dX9_fewest_40 : decode cX9_fewest 40 = .ok (.iconst 1, 1) := by decide +kernel
theorem dX9_fewest_41 : decode cX9_fewest 41 = .ok (.isub, 1) := by decide +kernel
theorem dX9_fewest_42 : decode cX9_fewest 42 = .ok (.istore_n 2, 1) := by decide +kernel
theorem dX9_fewest_43 : decode cX9_fewest 43 = .ok (.iload_n 2, 1) := by decide +kernel
theorem dX9_fewest_44 : decode cX9_fewest 44 = .ok (.istore_n 3, 1) := by decide +kernel
theorem dX9_fewest_45 : decode cX9_fewest 45 = .ok (.iconst 0, 1) := by decide +kernel
theorem dX9_fewest_46 : decode cX9_fewest 46 = .ok (.istore 4, 2) := by decide +kernel
theorem dX9_fewest_48 : decode cX9_fewest 48 = .ok (.iload 4, 2) := by decide +kernel
theorem dX9_fewest_50 : decode cX9_fewest 50 = .ok (.iload_n 2, 1) := by decide +kernel
theorem dX9_fewest_51 : decode cX9_fewest 51 = .ok (.if_icmp .ge 111, 3) := by decide +kernel
theorem dX9_fewest_54 : decode cX9_fewest 54 = .ok (.aload_n 0, 1) := by decide +kernel
theorem dX9_fewest_55 : decode cX9_fewest 55 = .ok (.getfield 46, 3) := by decide +kernel
theorem dX9_fewest_58 : decode cX9_fewest 58 = .ok (.iload 4, 2) := by decide +kernel
theorem dX9_fewest_60 : decode cX9_fewest 60 = .ok (.iaload, 1) := by decide +kernel
theorem dX9_fewest_61 : decode cX9_fewest 61 = .ok (.aload_n 0, 1) := by decide +kernel
theorem dX9_fewest_62 : decode cX9_fewest 62 = .ok (.getfield 46, 3) := by decide +kernel
theorem dX9_fewest_65 : decode cX9_fewest 65 = .ok (.iload_n 2, 1) := by decide +kernel
theorem dX9_fewest_66 : decode cX9_fewest 66 = .ok (.iaload, 1) := by decide +kernel
theorem dX9_fewest_67 : decode cX9_fewest 67 = .ok (.if_icmp .ne 89, 3) := by decide +kernel
theorem dX9_fewest_70 : decode cX9_fewest 70 = .ok (.iload 4, 2) := by decide +kernel
theorem dX9_fewest_72 : decode cX9_fewest 72 = .ok (.i2l, 1) := by decide +kernel
theorem dX9_fewest_73 : decode cX9_fewest 73 = .ok (.invokestatic 199, 3) := by decide +kernel
theorem dX9_fewest_76 : decode cX9_fewest 76 = .ok (.iload_n 3, 1) := by decide +kernel
theorem dX9_fewest_77 : decode cX9_fewest 77 = .ok (.i2l, 1) := by decide +kernel
theorem dX9_fewest_78 : decode cX9_fewest 78 = .ok (.invokestatic 199, 3) := by decide +kernel
theorem dX9_fewest_81 : decode cX9_fewest 81 = .ok (.if_icmp .gt 75, 3) := by decide +kernel
theorem dX9_fewest_84 : decode cX9_fewest 84 = .ok (.iload 4, 2) := by decide +kernel
theorem dX9_fewest_86 : decode cX9_fewest 86 = .ok (.i2l, 1) := by decide +kernel
theorem dX9_fewest_87 : decode cX9_fewest 87 = .ok (.invokestatic 199, 3) := by decide +kernel
theorem dX9_fewest_90 : decode cX9_fewest 90 = .ok (.iload_n 3, 1) := by decide +kernel
theorem dX9_fewest_91 : decode cX9_fewest 91 = .ok (.i2l, 1) := by decide +kernel
theorem dX9_fewest_92 : decode cX9_fewest 92 = .ok (.invokestatic 199, 3) := by decide +kernel
theorem dX9_fewest_95 : decode cX9_fewest 95 = .ok (.if_icmp .ne 22, 3) := by decide +kernel
theorem dX9_fewest_98 : decode cX9_fewest 98 = .ok (.aload_n 0, 1) := by decide +kernel
theorem dX9_fewest_99 : decode cX9_fewest 99 = .ok (.getfield 49, 3) := by decide +kernel
theorem dX9_fewest_102 : decode cX9_fewest 102 = .ok (.iload 4, 2) := by decide +kernel
theorem dX9_fewest_104 : decode cX9_fewest 104 = .ok (.iaload, 1) := by decide +kernel
theorem dX9_fewest_105 : decode cX9_fewest 105 = .ok (.aload_n 0, 1) := by decide +kernel
theorem dX9_fewest_106 : decode cX9_fewest 106 = .ok (.getfield 49, 3) := by decide +kernel
theorem dX9_fewest_109 : decode cX9_fewest 109 = .ok (.iload_n 3, 1) := by decide +kernel
theorem dX9_fewest_110 : decode cX9_fewest 110 = .ok (.iaload, 1) := by decide +kernel
theorem dX9_fewest_111 : decode cX9_fewest 111 = .ok (.if_icmp .le 6, 3) := by decide +kernel
theorem dX9_fewest_114 : decode cX9_fewest 114 = .ok (.goto 42, 3) := by decide +kernel
theorem dX9_fewest_117 : decode cX9_fewest 117 = .ok (.iload 4, 2) := by decide +kernel
theorem dX9_fewest_119 : decode cX9_fewest 119 = .ok (.i2l, 1) := by decide +kernel
theorem dX9_fewest_120 : decode cX9_fewest 120 = .ok (.invokestatic 199, 3) := by decide +kernel
theorem dX9_fewest_123 : decode cX9_fewest 123 = .ok (.iload_n 3, 1) := by decide +kernel
theorem dX9_fewest_124 : decode cX9_fewest 124 = .ok (.i2l, 1) := by decide +kernel
theorem dX9_fewest_125 : decode cX9_fewest 125 = .ok (.invokestatic 199, 3) := by decide +kernel
theorem dX9_fewest_128 : decode cX9_fewest 128 = .ok (.if_icmp .lt 25, 3) := by decide +kernel
theorem dX9_fewest_131 : decode cX9_fewest 131 = .ok (.aload_n 0, 1) := by decide +kernel
theorem dX9_fewest_132 : decode cX9_fewest 132 = .ok (.getfield 49, 3) := by decide +kernel
theorem dX9_fewest_135 : decode cX9_fewest 135 = .ok (.iload 4, 2) := by decide +kernel
theorem dX9_fewest_137 : decode cX9_fewest 137 = .ok (.iaload, 1) := by decide +kernel
theorem dX9_fewest_138 : decode cX9_fewest 138 = .ok (.aload_n 0, 1) := by decide +kernel
theorem dX9_fewest_139 : decode cX9_fewest 139 = .ok (.getfield 49, 3) := by decide +kernel
theorem dX9_fewest_142 : decode cX9_fewest 142 = .ok (.iload_n 3, 1) := by decide +kernel
theorem dX9_fewest_143 : decode cX9_fewest 143 = .ok (.iaload, 1) := by decide +kernel
theorem dX9_fewest_144 : decode cX9_fewest 144 = .ok (.if_icmp .lt 9, 3) := by decide +kernel
theorem dX9_fewest_147 : decode cX9_fewest 147 = .ok (.iload 4, 2) := by decide +kernel
theorem dX9_fewest_149 : decode cX9_fewest 149 = .ok (.iload_n 3, 1) := by decide +kernel
theorem dX9_fewest_150 : decode cX9_fewest 150 = .ok (.if_icmp .ge 6, 3) := by decide +kernel
theorem dX9_fewest_153 : decode cX9_fewest 153 = .ok (.iload 4, 2) := by decide +kernel
theorem dX9_fewest_155 : decode cX9_fewest 155 = .ok (.istore_n 3, 1) := by decide +kernel
theorem dX9_fewest_156 : decode cX9_fewest 156 = .ok (.iinc 4 1, 3) := by decide +kernel
theorem dX9_fewest_159 : decode cX9_fewest 159 = .ok (.goto (-111), 3) := by decide +kernel
theorem dX9_fewest_162 : decode cX9_fewest 162 = .ok (.iload_n 1, 1) := by decide +kernel
theorem dX9_fewest_163 : decode cX9_fewest 163 = .ok (.ifCond .ne 7, 3) := by decide +kernel
theorem dX9_fewest_166 : decode cX9_fewest 166 = .ok (.iload_n 3, 1) := by decide +kernel
theorem dX9_fewest_167 : decode cX9_fewest 167 = .ok (.goto 22, 3) := by decide +kernel
theorem dX9_fewest_170 : decode cX9_fewest 170 = .ok (.iload_n 1, 1) := by decide +kernel
theorem dX9_fewest_171 : decode cX9_fewest 171 = .ok (.iconst 1, 1) := by decide +kernel
theorem dX9_fewest_172 : decode cX9_fewest 172 = .ok (.if_icmp .ne 11, 3) := by decide +kernel
theorem dX9_fewest_175 : decode cX9_fewest 175 = .ok (.iload_n 3, 1) := by decide +kernel
theorem dX9_fewest_176 : decode cX9_fewest 176 = .ok (.i2l, 1) := by decide +kernel
theorem dX9_fewest_177 : decode cX9_fewest 177 = .ok (.invokestatic 199, 3) := by decide +kernel
theorem dX9_fewest_180 : decode cX9_fewest 180 = .ok (.goto 9, 3) := by decide +kernel
theorem dX9_fewest_183 : decode cX9_fewest 183 = .ok (.aload_n 0, 1) := by decide +kernel
theorem dX9_fewest_184 : decode cX9_fewest 184 = .ok (.getfield 49, 3) := by decide +kernel
theorem dX9_fewest_187 : decode cX9_fewest 187 = .ok (.iload_n 3, 1) := by decide +kernel
theorem dX9_fewest_188 : decode cX9_fewest 188 = .ok (.iaload, 1) := by decide +kernel
theorem dX9_fewest_189 : decode cX9_fewest 189 = .ok (.ireturn, 1) := by decide +kernel
theorem dX9_shortest_0 : decode cX9_shortest 0 = .ok (.aload_n 0, 1) := by decide +kernel
theorem dX9_shortest_1 : decode cX9_shortest 1 = .ok (.iconst 0, 1) := by decide +kernel
theorem dX9_shortest_2 : decode cX9_shortest 2 = .ok (.putfield 60, 3) := by decide +kernel
theorem dX9_shortest_5 : decode cX9_shortest 5 = .ok (.aload_n 0, 1) := by decide +kernel
theorem dX9_shortest_6 : decode cX9_shortest 6 = .ok (.iload_n 1, 1) := by decide +kernel
theorem dX9_shortest_7 : decode cX9_shortest 7 = .ok (.iconst 0, 1) := by decide +kernel
theorem dX9_shortest_8 : decode cX9_shortest 8 = .ok (.bipush 100, 2) := by decide +kernel
theorem dX9_shortest_10 : decode cX9_shortest 10 = .ok (.invokestatic 116, 3) := by decide +kernel
theorem dX9_shortest_13 : decode cX9_shortest 13 = .ok (.ifCond .eq 12, 3) := by decide +kernel
theorem dX9_shortest_16 : decode cX9_shortest 16 = .ok (.iload_n 2, 1) := by decide +kernel
theorem dX9_shortest_17 : decode cX9_shortest 17 = .ok (.iconst 0, 1) := by decide +kernel
theorem dX9_shortest_18 : decode cX9_shortest 18 = .ok (.iconst 2, 1) := by decide +kernel
theorem dX9_shortest_19 : decode cX9_shortest 19 = .ok (.invokestatic 116, 3) := by decide +kernel
theorem dX9_shortest_22 : decode cX9_shortest 22 = .ok (.ifCond .ne 7, 3) := by decide +kernel
theorem dX9_shortest_25 : decode cX9_shortest 25 = .ok (.iconst 1, 1) := by decide +kernel
theorem dX9_shortest_26 : decode cX9_shortest 26 = .ok (.goto 4, 3) := by decide +kernel
theorem dX9_shortest_29 : decode cX9_shortest 29 = .ok (.iconst 0, 1) := by decide +kernel
theorem dX9_shortest_30 : decode cX9_shortest 30 = .ok (.iconst 1, 1) := by decide +kernel
theorem dX9_shortest_31 : decode cX9_shortest 31 = .ok (.iconst 1, 1) := by decide +kernel
theorem dX9_shortest_32 : decode cX9_shortest 32 = .ok (.invokevirtual 119, 3) := by decide +kernel
theorem dX9_shortest_35 : decode cX9_shortest 35 = .ok (.ifCond .eq 5, 3) := by decide +kernel
theorem dX9_shortest_38 : decode cX9_shortest 38 = .ok (.iconst 0, 1) := by decide +kernel
theorem dX9_shortest_39 : decode cX9_shortest 39 = .ok (.ireturn, 1) := by decide +kernel
theorem dX9_shortest_40 : decode cX9_shortest 40 = .ok (.aload_n 0, 1) := by decide +kernel
theorem dX9_shortest_41 : decode cX9_shortest 41 = .ok (.invokevirtual 245, 3) := by decide +kernel
theorem dX9_shortest_44 : decode cX9_shortest 44 = .ok (.iconst 1, 1) := by decide +kernel
theorem dX9_shortest_45 : decode cX9_shortest 45 = .ok (.aload_n 0, 1) := by decide +kernel
theorem dX9_shortest_46 : decode cX9_shortest 46 = .ok (.invokevirtual 133, 3) := by decide +kernel
theorem dX9_shortest_49 : decode cX9_shortest 49 = .ok (.ishl, 1) := by decide +kernel
theorem dX9_shortest_50 : decode cX9_shortest 50 = .ok (.iconst 1, 1) := by decide +kernel
theorem dX9_shortest_51 : decode cX9_shortest 51 = .ok (.isub, 1) := by decide +kernel
theorem dX9_shortest_52 : decode cX9_shortest 52 = .ok (.istore_n 3, 1) := by decide +kernel
theorem dX9_shortest_53 : decode cX9_shortest 53 = .ok (.aload_n 0, 1) := by decide +kernel
theorem dX9_shortest_54 : decode cX9_shortest 54 = .ok (.getfield 46, 3) := by decide +kernel
theorem dX9_shortest_57 : decode cX9_shortest 57 = .ok (.iload_n 3, 1) := by decide +kernel
theorem dX9_shortest_58 : decode cX9_shortest 58 = .ok (.iaload, 1) := by decide +kernel
theorem dX9_shortest_59 : decode cX9_shortest 59 = .ok (.iload_n 1, 1) := by decide +kernel
theorem dX9_shortest_60 : decode cX9_shortest 60 = .ok (.imul, 1) := by decide +kernel
theorem dX9_shortest_61 : decode cX9_shortest 61 = .ok (.bipush 99, 2) := by decide +kernel
theorem dX9_shortest_63 : decode cX9_shortest 63 = .ok (.iadd, 1) := by decide +kernel
theorem dX9_shortest_64 : decode cX9_shortest 64 = .ok (.bipush 100, 2) := by decide +kernel
theorem dX9_shortest_66 : decode cX9_shortest 66 = .ok (.idiv, 1) := by decide +kernel
theorem dX9_shortest_67 : decode cX9_shortest 67 = .ok (.istore 4, 2) := by decide +kernel
theorem dX9_shortest_69 : decode cX9_shortest 69 = .ok (.iconst (-1), 1) := by decide +kernel
theorem dX9_shortest_70 : decode cX9_shortest 70 = .ok (.istore 5, 2) := by decide +kernel
theorem dX9_shortest_72 : decode cX9_shortest 72 = .ok (.iconst 0, 1) := by decide +kernel
theorem dX9_shortest_73 : decode cX9_shortest 73 = .ok (.istore 6, 2) := by decide +kernel
theorem dX9_shortest_75 : decode cX9_shortest 75 = .ok (.iload 6, 2) := by decide +kernel
theorem dX9_shortest_77 : decode cX9_shortest 77 = .ok (.iload_n 3, 1) := by decide +kernel
theorem dX9_shortest_78 : decode cX9_shortest 78 = .ok (.if_icmp .gt 96, 3) := by decide +kernel
theorem dX9_shortest_81 : decode cX9_shortest 81 = .ok (.aload_n 0, 1) := by decide +kernel
theorem dX9_shortest_82 : decode cX9_shortest 82 = .ok (.getfield 46, 3) := by decide +kernel
theorem dX9_shortest_85 : decode cX9_shortest 85 = .ok (.iload 6, 2) := by decide +kernel
theorem dX9_shortest_87 : decode cX9_shortest 87 = .ok (.iaload, 1) := by decide +kernel
theorem dX9_shortest_88 : decode cX9_shortest 88 = .ok (.iconst (-1), 1) := by decide +kernel
theorem dX9_shortest_89 : decode cX9_shortest 89 = .ok (.if_icmp .eq 79, 3) := by decide +kernel
theorem dX9_shortest_92 : decode cX9_shortest 92 = .ok (.aload_n 0, 1) := by decide +kernel
theorem dX9_shortest_93 : decode cX9_shortest 93 = .ok (.getfield 46, 3) := by decide +kernel
theorem dX9_shortest_96 : decode cX9_shortest 96 = .ok (.iload 6, 2) := by decide +kernel
theorem dX9_shortest_98 : decode cX9_shortest 98 = .ok (.iaload, 1) := by decide +kernel
theorem dX9_shortest_99 : decode cX9_shortest 99 = .ok (.iload 4, 2) := by decide +kernel
theorem dX9_shortest_101 : decode cX9_shortest 101 = .ok (.if_icmp .ge 6, 3) := by decide +kernel
theorem dX9_shortest_104 : decode cX9_shortest 104 = .ok (.goto 64, 3) := by decide +kernel
theorem dX9_shortest_107 : decode cX9_shortest 107 = .ok (.iload 5, 2) := by decide +kernel
theorem dX9_shortest_109 : decode cX9_shortest 109 = .ok (.iconst (-1), 1) := by decide +kernel
theorem dX9_shortest_110 : decode cX9_shortest 110 = .ok (.if_icmp .eq 54, 3) := by decide +kernel
theorem dX9_shortest_113 : decode cX9_shortest 113 = .ok (.aload_n 0, 1) := by decide +kernel
theorem dX9_shortest_114 : decode cX9_shortest 114 = .ok (.getfield 49, 3) := by decide +kernel
theorem dX9_shortest_117 : decode cX9_shortest 117 = .ok (.iload 6, 2) := by decide +kernel
theorem dX9_shortest_119 : decode cX9_shortest 119 = .ok (.iaload, 1) := by decide +kernel
theorem dX9_shortest_120 : decode cX9_shortest 120 = .ok (.aload_n 0, 1) := by decide +kernel
theorem dX9_shortest_121 : decode cX9_shortest 121 = .ok (.getfield 49, 3) := by decide +kernel
theorem dX9_shortest_124 : decode cX9_shortest 124 = .ok (.iload 5, 2) := by decide +kernel
theorem dX9_shortest_126 : decode cX9_shortest 126 = .ok (.iaload, 1) := by decide +kernel
theorem dX9_shortest_127 : decode cX9_shortest 127 = .ok (.if_icmp .lt 37, 3) := by decide +kernel
theorem dX9_shortest_130 : decode cX9_shortest 130 = .ok (.aload_n 0, 1) := by decide +kernel
theorem dX9_shortest_131 : decode cX9_shortest 131 = .ok (.getfield 49, 3) := by decide +kernel
theorem dX9_shortest_134 : decode cX9_shortest 134 = .ok (.iload 6, 2) := by decide +kernel
theorem dX9_shortest_136 : decode cX9_shortest 136 = .ok (.iaload, 1) := by decide +kernel
theorem dX9_shortest_137 : decode cX9_shortest 137 = .ok (.aload_n 0, 1) := by decide +kernel
theorem dX9_shortest_138 : decode cX9_shortest 138 = .ok (.getfield 49, 3) := by decide +kernel
theorem dX9_shortest_141 : decode cX9_shortest 141 = .ok (.iload 5, 2) := by decide +kernel
theorem dX9_shortest_143 : decode cX9_shortest 143 = .ok (.iaload, 1) := by decide +kernel
theorem dX9_shortest_144 : decode cX9_shortest 144 = .ok (.if_icmp .ne 24, 3) := by decide +kernel
theorem dX9_shortest_147 : decode cX9_shortest 147 = .ok (.aload_n 0, 1) := by decide +kernel
theorem dX9_shortest_148 : decode cX9_shortest 148 = .ok (.getfield 46, 3) := by decide +kernel
theorem dX9_shortest_151 : decode cX9_shortest 151 = .ok (.iload 6, 2) := by decide +kernel
theorem dX9_shortest_153 : decode cX9_shortest 153 = .ok (.iaload, 1) := by decide +kernel
theorem dX9_shortest_154 : decode cX9_shortest 154 = .ok (.aload_n 0, 1) := by decide +kernel
theorem dX9_shortest_155 : decode cX9_shortest 155 = .ok (.getfield 46, 3) := by decide +kernel
theorem dX9_shortest_158 : decode cX9_shortest 158 = .ok (.iload 5, 2) := by decide +kernel
theorem dX9_shortest_160 : decode cX9_shortest 160 = .ok (.iaload, 1) := by decide +kernel
theorem dX9_shortest_161 : decode cX9_shortest 161 = .ok (.if_icmp .le 7, 3) := by decide +kernel
theorem dX9_shortest_164 : decode cX9_shortest 164 = .ok (.iload 6, 2) := by decide +kernel
theorem dX9_shortest_166 : decode cX9_shortest 166 = .ok (.istore 5, 2) := by decide +kernel
theorem dX9_shortest_168 : decode cX9_shortest 168 = .ok (.iinc 6 1, 3) := by decide +kernel
theorem dX9_shortest_171 : decode cX9_shortest 171 = .ok (.goto (-96), 3) := by decide +kernel
theorem dX9_shortest_174 : decode cX9_shortest 174 = .ok (.iload_n 2, 1) := by decide +kernel
theorem dX9_shortest_175 : decode cX9_shortest 175 = .ok (.ifCond .ne 8, 3) := by decide +kernel
theorem dX9_shortest_178 : decode cX9_shortest 178 = .ok (.iload 5, 2) := by decide +kernel
theorem dX9_shortest_180 : decode cX9_shortest 180 = .ok (.goto 25, 3) := by decide +kernel
theorem dX9_shortest_183 : decode cX9_shortest 183 = .ok (.iload_n 2, 1) := by decide +kernel
theorem dX9_shortest_184 : decode cX9_shortest 184 = .ok (.iconst 1, 1) := by decide +kernel
theorem dX9_shortest_185 : decode cX9_shortest 185 = .ok (.if_icmp .ne 13, 3) := by decide +kernel
theorem dX9_shortest_188 : decode cX9_shortest 188 = .ok (.aload_n 0, 1) := by decide +kernel
theorem dX9_shortest_189 : decode cX9_shortest 189 = .ok (.getfield 46, 3) := by decide +kernel
theorem dX9_shortest_192 : decode cX9_shortest 192 = .ok (.iload 5, 2) := by decide +kernel
theorem dX9_shortest_194 : decode cX9_shortest 194 = .ok (.iaload, 1) := by decide +kernel
theorem dX9_shortest_195 : decode cX9_shortest 195 = .ok (.goto 10, 3) := by decide +kernel
theorem dX9_shortest_198 : decode cX9_shortest 198 = .ok (.aload_n 0, 1) := by decide +kernel
theorem dX9_shortest_199 : decode cX9_shortest 199 = .ok (.getfield 49, 3) := by decide +kernel
theorem dX9_shortest_202 : decode cX9_shortest 202 = .ok (.iload 5, 2) := by decide +kernel
theorem dX9_shortest_204 : decode cX9_shortest 204 = .ok (.iaload, 1) := by decide +kernel
theorem dX9_shortest_205 : decode cX9_shortest 205 = .ok (.ireturn, 1) := by decide +kernel
theorem dX9_worth_0 : decode cX9_worth 0 = .ok (.aload_n 0, 1) := by decide +kernel
theorem dX9_worth_1 : decode cX9_worth 1 = .ok (.iconst 0, 1) := by decide +kernel
theorem dX9_worth_2 : decode cX9_worth 2 = .ok (.putfield 60, 3) := by decide +kernel
theorem dX9_worth_5 : decode cX9_worth 5 = .ok (.aload_n 0, 1) := by decide +kernel
theorem dX9_worth_6 : decode cX9_worth 6 = .ok (.aload_n 0, 1) := by decide +kernel
theorem dX9_worth_7 : decode cX9_worth 7 = .ok (.iload_n 1, 1) := by decide +kernel
theorem dX9_worth_8 : decode cX9_worth 8 = .ok (.invokevirtual 183, 3) := by decide +kernel
theorem dX9_worth_11 : decode cX9_worth 11 = .ok (.ifCond .ne 7, 3) := by decide +kernel
theorem dX9_worth_14 : decode cX9_worth 14 = .ok (.iconst 1, 1) := by decide +kernel
theorem dX9_worth_15 : decode cX9_worth 15 = .ok (.goto 4, 3) := by decide +kernel
theorem dX9_worth_18 : decode cX9_worth 18 = .ok (.iconst 0, 1) := by decide +kernel
theorem dX9_worth_19 : decode cX9_worth 19 = .ok (.iconst 1, 1) := by decide +kernel
theorem dX9_worth_20 : decode cX9_worth 20 = .ok (.iconst 0, 1) := by decide +kernel
theorem dX9_worth_21 : decode cX9_worth 21 = .ok (.invokevirtual 119, 3) := by decide +kernel
theorem dX9_worth_24 : decode cX9_worth 24 = .ok (.ifCond .eq 5, 3) := by decide +kernel
theorem dX9_worth_27 : decode cX9_worth 27 = .ok (.iconst 0, 1) := by decide +kernel
theorem dX9_worth_28 : decode cX9_worth 28 = .ok (.ireturn, 1) := by decide +kernel
theorem dX9_worth_29 : decode cX9_worth 29 = .ok (.aload_n 0, 1) := by decide +kernel
theorem dX9_worth_30 : decode cX9_worth 30 = .ok (.invokevirtual 245, 3) := by decide +kernel
theorem dX9_worth_33 : decode cX9_worth 33 = .ok (.aload_n 0, 1) := by decide +kernel
theorem dX9_worth_34 : decode cX9_worth 34 = .ok (.getfield 20, 3) := by decide +kernel
theorem dX9_worth_37 : decode cX9_worth 37 = .ok (.iconst 2, 1) := by decide +kernel
theorem dX9_worth_38 : decode cX9_worth 38 = .ok (.laload, 1) := by decide +kernel
theorem dX9_worth_39 : decode cX9_worth 39 = .ok (.l2i, 1) := by decide +kernel
theorem dX9_worth_40 : decode cX9_worth 40 = .ok (.istore_n 2, 1) := by decide +kernel
theorem dX9_worth_41 : decode cX9_worth 41 = .ok (.aload_n 0, 1) := by decide +kernel
theorem dX9_worth_42 : decode cX9_worth 42 = .ok (.getfield 46, 3) := by decide +kernel
theorem dX9_worth_45 : decode cX9_worth 45 = .ok (.aload_n 0, 1) := by decide +kernel
theorem dX9_worth_46 : decode cX9_worth 46 = .ok (.iload_n 2, 1) := by decide +kernel
theorem dX9_worth_47 : decode cX9_worth 47 = .ok (.iconst (-1), 1) := by decide +kernel
theorem dX9_worth_48 : decode cX9_worth 48 = .ok (.invokevirtual 248, 3) := by decide +kernel
theorem dX9_worth_51 : decode cX9_worth 51 = .ok (.iaload, 1) := by decide +kernel
theorem dX9_worth_52 : decode cX9_worth 52 = .ok (.aload_n 0, 1) := by decide +kernel
theorem dX9_worth_53 : decode cX9_worth 53 = .ok (.getfield 46, 3) := by decide +kernel
theorem dX9_worth_56 : decode cX9_worth 56 = .ok (.aload_n 0, 1) := by decide +kernel
theorem dX9_worth_57 : decode cX9_worth 57 = .ok (.iload_n 2, 1) := by decide +kernel
theorem dX9_worth_58 : decode cX9_worth 58 = .ok (.iload_n 1, 1) := by decide +kernel
theorem dX9_worth_59 : decode cX9_worth 59 = .ok (.invokevirtual 248, 3) := by decide +kernel
theorem dX9_worth_62 : decode cX9_worth 62 = .ok (.iaload, 1) := by decide +kernel
theorem dX9_worth_63 : decode cX9_worth 63 = .ok (.isub, 1) := by decide +kernel
theorem dX9_worth_64 : decode cX9_worth 64 = .ok (.ireturn, 1) := by decide +kernel
theorem dX9_exchange_0 : decode cX9_exchange 0 = .ok (.aload_n 0, 1) := by decide +kernel
theorem dX9_exchange_1 : decode cX9_exchange 1 = .ok (.iconst 0, 1) := by decide +kernel
theorem dX9_exchange_2 : decode cX9_exchange 2 = .ok (.putfield 60, 3) := by decide +kernel
theorem dX9_exchange_5 : decode cX9_exchange 5 = .ok (.aload_n 0, 1) := by decide +kernel
theorem dX9_exchange_6 : decode cX9_exchange 6 = .ok (.iload_n 1, 1) := by decide +kernel
theorem dX9_exchange_7 : decode cX9_exchange 7 = .ok (.iconst 0, 1) := by decide +kernel
theorem dX9_exchange_8 : decode cX9_exchange 8 = .ok (.iconst 2, 1) := by decide +kernel
theorem dX9_exchange_9 : decode cX9_exchange 9 = .ok (.invokestatic 116, 3) := by decide +kernel
theorem dX9_exchange_12 : decode cX9_exchange 12 = .ok (.ifCond .ne 7, 3) := by decide +kernel
theorem dX9_exchange_15 : decode cX9_exchange 15 = .ok (.iconst 1, 1) := by decide +kernel
theorem dX9_exchange_16 : decode cX9_exchange 16 = .ok (.goto 4, 3) := by decide +kernel
theorem dX9_exchange_19 : decode cX9_exchange 19 = .ok (.iconst 0, 1) := by decide +kernel
theorem dX9_exchange_20 : decode cX9_exchange 20 = .ok (.iconst 1, 1) := by decide +kernel
theorem dX9_exchange_21 : decode cX9_exchange 21 = .ok (.iconst 1, 1) := by decide +kernel
theorem dX9_exchange_22 : decode cX9_exchange 22 = .ok (.invokevirtual 119, 3) := by decide +kernel
theorem dX9_exchange_25 : decode cX9_exchange 25 = .ok (.ifCond .eq 5, 3) := by decide +kernel
theorem dX9_exchange_28 : decode cX9_exchange 28 = .ok (.iconst 0, 1) := by decide +kernel
theorem dX9_exchange_29 : decode cX9_exchange 29 = .ok (.ireturn, 1) := by decide +kernel
theorem dX9_exchange_30 : decode cX9_exchange 30 = .ok (.aload_n 0, 1) := by decide +kernel
theorem dX9_exchange_31 : decode cX9_exchange 31 = .ok (.invokevirtual 245, 3) := by decide +kernel
theorem dX9_exchange_34 : decode cX9_exchange 34 = .ok (.iconst (-1), 1) := by decide +kernel
theorem dX9_exchange_35 : decode cX9_exchange 35 = .ok (.istore_n 2, 1) := by decide +kernel
theorem dX9_exchange_36 : decode cX9_exchange 36 = .ok (.iconst (-1), 1) := by decide +kernel
theorem dX9_exchange_37 : decode cX9_exchange 37 = .ok (.istore_n 3, 1) := by decide +kernel
theorem dX9_exchange_38 : decode cX9_exchange 38 = .ok (.aload_n 0, 1) := by decide +kernel
theorem dX9_exchange_39 : decode cX9_exchange 39 = .ok (.aload_n 0, 1) := by decide +kernel
theorem dX9_exchange_40 : decode cX9_exchange 40 = .ok (.invokevirtual 186, 3) := by decide +kernel
theorem dX9_exchange_43 : decode cX9_exchange 43 = .ok (.invokevirtual 196, 3) := by decide +kernel
theorem dX9_exchange_46 : decode cX9_exchange 46 = .ok (.istore 4, 2) := by decide +kernel
theorem dX9_exchange_48 : decode cX9_exchange 48 = .ok (.iconst 0, 1) := by decide +kernel
theorem dX9_exchange_49 : decode cX9_exchange 49 = .ok (.istore 5, 2) := by decide +kernel
theorem dX9_exchange_51 : decode cX9_exchange 51 = .ok (.iload 5, 2) := by decide +kernel
theorem dX9_exchange_53 : decode cX9_exchange 53 = .ok (.aload_n 0, 1) := by decide +kernel
theorem dX9_exchange_54 : decode cX9_exchange 54 = .ok (.invokevirtual 133, 3) := by decide +kernel
theorem dX9_exchange_57 : decode cX9_exchange 57 = .ok (.if_icmp .ge 122, 3) := by decide +kernel
theorem dX9_exchange_60 : decode cX9_exchange 60 = .ok (.iconst 0, 1) := by decide +kernel
theorem dX9_exchange_61 : decode cX9_exchange 61 = .ok (.istore 6, 2) := by decide +kernel
theorem dX9_exchange_63 : decode cX9_exchange 63 = .ok (.iload 6, 2) := by decide +kernel
theorem dX9_exchange_65 : decode cX9_exchange 65 = .ok (.aload_n 0, 1) := by decide +kernel
theorem dX9_exchange_66 : decode cX9_exchange 66 = .ok (.invokevirtual 133, 3) := by decide +kernel
theorem dX9_exchange_69 : decode cX9_exchange 69 = .ok (.if_icmp .ge 104, 3) := by decide +kernel
theorem dX9_exchange_72 : decode cX9_exchange 72 = .ok (.aload_n 0, 1) := by decide +kernel
theorem dX9_exchange_73 : decode cX9_exchange 73 = .ok (.invokevirtual 186, 3) := by decide +kernel
theorem dX9_exchange_76 : decode cX9_exchange 76 = .ok (.i2l, 1) := by decide +kernel
theorem dX9_exchange_77 : decode cX9_exchange 77 = .ok (.iload 5, 2) := by decide +kernel
theorem dX9_exchange_79 : decode cX9_exchange 79 = .ok (.invokestatic 140, 3) := by decide +kernel
theorem dX9_exchange_82 : decode cX9_exchange 82 = .ok (.ifCond .eq 85, 3) := by decide +kernel
theorem dX9_exchange_85 : decode cX9_exchange 85 = .ok (.aload_n 0, 1) := by decide +kernel
theorem dX9_exchange_86 : decode cX9_exchange 86 = .ok (.invokevirtual 186, 3) := by decide +kernel
theorem dX9_exchange_89 : decode cX9_exchange 89 = .ok (.i2l, 1) := by decide +kernel
theorem dX9_exchange_90 : decode cX9_exchange 90 = .ok (.iload 6, 2) := by decide +kernel
theorem dX9_exchange_92 : decode cX9_exchange 92 = .ok (.invokestatic 140, 3) := by decide +kernel
theorem dX9_exchange_95 : decode cX9_exchange 95 = .ok (.ifCond .eq 6, 3) := by decide +kernel
theorem dX9_exchange_98 : decode cX9_exchange 98 = .ok (.goto 69, 3) := by decide +kernel
theorem dX9_exchange_101 : decode cX9_exchange 101 = .ok (.aload_n 0, 1) := by decide +kernel
theorem dX9_exchange_102 : decode cX9_exchange 102 = .ok (.invokevirtual 186, 3) := by decide +kernel
theorem dX9_exchange_105 : decode cX9_exchange 105 = .ok (.iconst 1, 1) := by decide +kernel
theorem dX9_exchange_106 : decode cX9_exchange 106 = .ok (.iload 5, 2) := by decide +kernel
theorem dX9_exchange_108 : decode cX9_exchange 108 = .ok (.ishl, 1) := by decide +kernel
theorem dX9_exchange_109 : decode cX9_exchange 109 = .ok (.iconst (-1), 1) := by decide +kernel
theorem dX9_exchange_110 : decode cX9_exchange 110 = .ok (.ixor, 1) := by decide +kernel
theorem dX9_exchange_111 : decode cX9_exchange 111 = .ok (.iand, 1) := by decide +kernel
theorem dX9_exchange_112 : decode cX9_exchange 112 = .ok (.iconst 1, 1) := by decide +kernel
theorem dX9_exchange_113 : decode cX9_exchange 113 = .ok (.iload 6, 2) := by decide +kernel
theorem dX9_exchange_115 : decode cX9_exchange 115 = .ok (.ishl, 1) := by decide +kernel
theorem dX9_exchange_116 : decode cX9_exchange 116 = .ok (.ior, 1) := by decide +kernel
theorem dX9_exchange_117 : decode cX9_exchange 117 = .ok (.istore 7, 2) := by decide +kernel
theorem dX9_exchange_119 : decode cX9_exchange 119 = .ok (.aload_n 0, 1) := by decide +kernel
theorem dX9_exchange_120 : decode cX9_exchange 120 = .ok (.getfield 46, 3) := by decide +kernel
theorem dX9_exchange_123 : decode cX9_exchange 123 = .ok (.iload 7, 2) := by decide +kernel
theorem dX9_exchange_125 : decode cX9_exchange 125 = .ok (.iaload, 1) := by decide +kernel
theorem dX9_exchange_126 : decode cX9_exchange 126 = .ok (.iload 4, 2) := by decide +kernel
theorem dX9_exchange_128 : decode cX9_exchange 128 = .ok (.if_icmp .le 39, 3) := by decide +kernel
theorem dX9_exchange_131 : decode cX9_exchange 131 = .ok (.aload_n 0, 1) := by decide +kernel
theorem dX9_exchange_132 : decode cX9_exchange 132 = .ok (.getfield 49, 3) := by decide +kernel
theorem dX9_exchange_135 : decode cX9_exchange 135 = .ok (.iload 7, 2) := by decide +kernel
theorem dX9_exchange_137 : decode cX9_exchange 137 = .ok (.iaload, 1) := by decide +kernel
theorem dX9_exchange_138 : decode cX9_exchange 138 = .ok (.i2l, 1) := by decide +kernel
theorem dX9_exchange_139 : decode cX9_exchange 139 = .ok (.aload_n 0, 1) := by decide +kernel
theorem dX9_exchange_140 : decode cX9_exchange 140 = .ok (.getfield 20, 3) := by decide +kernel
theorem dX9_exchange_143 : decode cX9_exchange 143 = .ok (.iconst 2, 1) := by decide +kernel
theorem dX9_exchange_144 : decode cX9_exchange 144 = .ok (.laload, 1) := by decide +kernel
theorem dX9_exchange_145 : decode cX9_exchange 145 = .ok (.lcmp, 1) := by decide +kernel
theorem dX9_exchange_146 : decode cX9_exchange 146 = .ok (.ifCond .le 6, 3) := by decide +kernel
theorem dX9_exchange_149 : decode cX9_exchange 149 = .ok (.goto 18, 3) := by decide +kernel
theorem dX9_exchange_152 : decode cX9_exchange 152 = .ok (.aload_n 0, 1) := by decide +kernel
theorem dX9_exchange_153 : decode cX9_exchange 153 = .ok (.getfield 46, 3) := by decide +kernel
theorem dX9_exchange_156 : decode cX9_exchange 156 = .ok (.iload 7, 2) := by decide +kernel
theorem dX9_exchange_158 : decode cX9_exchange 158 = .ok (.iaload, 1) := by decide +kernel
theorem dX9_exchange_159 : decode cX9_exchange 159 = .ok (.istore 4, 2) := by decide +kernel
theorem dX9_exchange_161 : decode cX9_exchange 161 = .ok (.iload 5, 2) := by decide +kernel
theorem dX9_exchange_163 : decode cX9_exchange 163 = .ok (.istore_n 2, 1) := by decide +kernel
theorem dX9_exchange_164 : decode cX9_exchange 164 = .ok (.iload 6, 2) := by decide +kernel
theorem dX9_exchange_166 : decode cX9_exchange 166 = .ok (.istore_n 3, 1) := by decide +kernel
theorem dX9_exchange_167 : decode cX9_exchange 167 = .ok (.iinc 6 1, 3) := by decide +kernel
theorem dX9_exchange_170 : decode cX9_exchange 170 = .ok (.goto (-107), 3) := by decide +kernel
theorem dX9_exchange_173 : decode cX9_exchange 173 = .ok (.iinc 5 1, 3) := by decide +kernel
theorem dX9_exchange_176 : decode cX9_exchange 176 = .ok (.goto (-125), 3) := by decide +kernel
theorem dX9_exchange_179 : decode cX9_exchange 179 = .ok (.iload_n 2, 1) := by decide +kernel
theorem dX9_exchange_180 : decode cX9_exchange 180 = .ok (.iconst (-1), 1) := by decide +kernel
theorem dX9_exchange_181 : decode cX9_exchange 181 = .ok (.if_icmp .ne 7, 3) := by decide +kernel
theorem dX9_exchange_184 : decode cX9_exchange 184 = .ok (.iconst (-1), 1) := by decide +kernel
theorem dX9_exchange_185 : decode cX9_exchange 185 = .ok (.goto 22, 3) := by decide +kernel
theorem dX9_exchange_188 : decode cX9_exchange 188 = .ok (.iload_n 1, 1) := by decide +kernel
theorem dX9_exchange_189 : decode cX9_exchange 189 = .ok (.ifCond .ne 7, 3) := by decide +kernel
theorem dX9_exchange_192 : decode cX9_exchange 192 = .ok (.iload_n 2, 1) := by decide +kernel
theorem dX9_exchange_193 : decode cX9_exchange 193 = .ok (.goto 14, 3) := by decide +kernel
theorem dX9_exchange_196 : decode cX9_exchange 196 = .ok (.iload_n 1, 1) := by decide +kernel
theorem dX9_exchange_197 : decode cX9_exchange 197 = .ok (.iconst 1, 1) := by decide +kernel
theorem dX9_exchange_198 : decode cX9_exchange 198 = .ok (.if_icmp .ne 7, 3) := by decide +kernel
theorem dX9_exchange_201 : decode cX9_exchange 201 = .ok (.iload_n 3, 1) := by decide +kernel
theorem dX9_exchange_202 : decode cX9_exchange 202 = .ok (.goto 5, 3) := by decide +kernel
theorem dX9_exchange_205 : decode cX9_exchange 205 = .ok (.iload 4, 2) := by decide +kernel
theorem dX9_exchange_207 : decode cX9_exchange 207 = .ok (.ireturn, 1) := by decide +kernel
theorem dX9_next_0 : decode cX9_next 0 = .ok (.aload_n 0, 1) := by decide +kernel
theorem dX9_next_1 : decode cX9_next 1 = .ok (.iconst 0, 1) := by decide +kernel
theorem dX9_next_2 : decode cX9_next 2 = .ok (.putfield 60, 3) := by decide +kernel
theorem dX9_next_5 : decode cX9_next 5 = .ok (.aload_n 0, 1) := by decide +kernel
theorem dX9_next_6 : decode cX9_next 6 = .ok (.iload_n 1, 1) := by decide +kernel
theorem dX9_next_7 : decode cX9_next 7 = .ok (.iconst 0, 1) := by decide +kernel
theorem dX9_next_8 : decode cX9_next 8 = .ok (.sipush 9999, 3) := by decide +kernel
theorem dX9_next_11 : decode cX9_next 11 = .ok (.invokestatic 116, 3) := by decide +kernel
theorem dX9_next_14 : decode cX9_next 14 = .ok (.ifCond .ne 7, 3) := by decide +kernel
theorem dX9_next_17 : decode cX9_next 17 = .ok (.iconst 1, 1) := by decide +kernel
theorem dX9_next_18 : decode cX9_next 18 = .ok (.goto 4, 3) := by decide +kernel
theorem dX9_next_21 : decode cX9_next 21 = .ok (.iconst 0, 1) := by decide +kernel
theorem dX9_next_22 : decode cX9_next 22 = .ok (.iconst 1, 1) := by decide +kernel
theorem dX9_next_23 : decode cX9_next 23 = .ok (.iconst 1, 1) := by decide +kernel
theorem dX9_next_24 : decode cX9_next 24 = .ok (.invokevirtual 119, 3) := by decide +kernel
theorem dX9_next_27 : decode cX9_next 27 = .ok (.ifCond .eq 5, 3) := by decide +kernel
theorem dX9_next_30 : decode cX9_next 30 = .ok (.iconst 0, 1) := by decide +kernel
theorem dX9_next_31 : decode cX9_next 31 = .ok (.ireturn, 1) := by decide +kernel
theorem dX9_next_32 : decode cX9_next 32 = .ok (.aload_n 0, 1) := by decide +kernel
theorem dX9_next_33 : decode cX9_next 33 = .ok (.invokevirtual 245, 3) := by decide +kernel
theorem dX9_next_36 : decode cX9_next 36 = .ok (.aload_n 0, 1) := by decide +kernel
theorem dX9_next_37 : decode cX9_next 37 = .ok (.getfield 46, 3) := by decide +kernel
theorem dX9_next_40 : decode cX9_next 40 = .ok (.aload_n 0, 1) := by decide +kernel
theorem dX9_next_41 : decode cX9_next 41 = .ok (.iload_n 1, 1) := by decide +kernel
theorem dX9_next_42 : decode cX9_next 42 = .ok (.iconst (-1), 1) := by decide +kernel
theorem dX9_next_43 : decode cX9_next 43 = .ok (.invokevirtual 248, 3) := by decide +kernel
theorem dX9_next_46 : decode cX9_next 46 = .ok (.iaload, 1) := by decide +kernel
theorem dX9_next_47 : decode cX9_next 47 = .ok (.istore_n 2, 1) := by decide +kernel
theorem dX9_next_48 : decode cX9_next 48 = .ok (.iconst (-1), 1) := by decide +kernel
theorem dX9_next_49 : decode cX9_next 49 = .ok (.istore_n 3, 1) := by decide +kernel
theorem dX9_next_50 : decode cX9_next 50 = .ok (.iconst 0, 1) := by decide +kernel
theorem dX9_next_51 : decode cX9_next 51 = .ok (.istore 4, 2) := by decide +kernel
theorem dX9_next_53 : decode cX9_next 53 = .ok (.iload 4, 2) := by decide +kernel
theorem dX9_next_55 : decode cX9_next 55 = .ok (.iconst 1, 1) := by decide +kernel
theorem dX9_next_56 : decode cX9_next 56 = .ok (.aload_n 0, 1) := by decide +kernel
theorem dX9_next_57 : decode cX9_next 57 = .ok (.invokevirtual 133, 3) := by decide +kernel
theorem dX9_next_60 : decode cX9_next 60 = .ok (.ishl, 1) := by decide +kernel
theorem dX9_next_61 : decode cX9_next 61 = .ok (.if_icmp .ge 44, 3) := by decide +kernel
theorem dX9_next_64 : decode cX9_next 64 = .ok (.aload_n 0, 1) := by decide +kernel
theorem dX9_next_65 : decode cX9_next 65 = .ok (.getfield 46, 3) := by decide +kernel
theorem dX9_next_68 : decode cX9_next 68 = .ok (.iload 4, 2) := by decide +kernel
theorem dX9_next_70 : decode cX9_next 70 = .ok (.iaload, 1) := by decide +kernel
theorem dX9_next_71 : decode cX9_next 71 = .ok (.iload_n 2, 1) := by decide +kernel
theorem dX9_next_72 : decode cX9_next 72 = .ok (.if_icmp .le 27, 3) := by decide +kernel
theorem dX9_next_75 : decode cX9_next 75 = .ok (.iload_n 3, 1) := by decide +kernel
theorem dX9_next_76 : decode cX9_next 76 = .ok (.iconst (-1), 1) := by decide +kernel
theorem dX9_next_77 : decode cX9_next 77 = .ok (.if_icmp .eq 14, 3) := by decide +kernel
theorem dX9_next_80 : decode cX9_next 80 = .ok (.aload_n 0, 1) := by decide +kernel
theorem dX9_next_81 : decode cX9_next 81 = .ok (.getfield 49, 3) := by decide +kernel
theorem dX9_next_84 : decode cX9_next 84 = .ok (.iload 4, 2) := by decide +kernel
theorem dX9_next_86 : decode cX9_next 86 = .ok (.iaload, 1) := by decide +kernel
theorem dX9_next_87 : decode cX9_next 87 = .ok (.iload_n 3, 1) := by decide +kernel
theorem dX9_next_88 : decode cX9_next 88 = .ok (.if_icmp .ge 11, 3) := by decide +kernel
theorem dX9_next_91 : decode cX9_next 91 = .ok (.aload_n 0, 1) := by decide +kernel
theorem dX9_next_92 : decode cX9_next 92 = .ok (.getfield 49, 3) := by decide +kernel
theorem dX9_next_95 : decode cX9_next 95 = .ok (.iload 4, 2) := by decide +kernel
theorem dX9_next_97 : decode cX9_next 97 = .ok (.iaload, 1) := by decide +kernel
theorem dX9_next_98 : decode cX9_next 98 = .ok (.istore_n 3, 1) := by decide +kernel
theorem dX9_next_99 : decode cX9_next 99 = .ok (.iinc 4 1, 3) := by decide +kernel
theorem dX9_next_102 : decode cX9_next 102 = .ok (.goto (-49), 3) := by decide +kernel
theorem dX9_next_105 : decode cX9_next 105 = .ok (.iload_n 3, 1) := by decide +kernel
theorem dX9_next_106 : decode cX9_next 106 = .ok (.ireturn, 1) := by decide +kernel
theorem dX9_divisor_0 : decode cX9_divisor 0 = .ok (.iload_n 0, 1) := by decide +kernel
theorem dX9_divisor_1 : decode cX9_divisor 1 = .ok (.istore_n 2, 1) := by decide +kernel
theorem dX9_divisor_2 : decode cX9_divisor 2 = .ok (.iload_n 1, 1) := by decide +kernel
theorem dX9_divisor_3 : decode cX9_divisor 3 = .ok (.istore_n 3, 1) := by decide +kernel
theorem dX9_divisor_4 : decode cX9_divisor 4 = .ok (.iload_n 3, 1) := by decide +kernel
theorem dX9_divisor_5 : decode cX9_divisor 5 = .ok (.ifCond .eq 16, 3) := by decide +kernel
theorem dX9_divisor_8 : decode cX9_divisor 8 = .ok (.iload_n 2, 1) := by decide +kernel
theorem dX9_divisor_9 : decode cX9_divisor 9 = .ok (.iload_n 3, 1) := by decide +kernel
theorem dX9_divisor_10 : decode cX9_divisor 10 = .ok (.irem, 1) := by decide +kernel
theorem dX9_divisor_11 : decode cX9_divisor 11 = .ok (.istore 4, 2) := by decide +kernel
theorem dX9_divisor_13 : decode cX9_divisor 13 = .ok (.iload_n 3, 1) := by decide +kernel
theorem dX9_divisor_14 : decode cX9_divisor 14 = .ok (.istore_n 2, 1) := by decide +kernel
theorem dX9_divisor_15 : decode cX9_divisor 15 = .ok (.iload 4, 2) := by decide +kernel
theorem dX9_divisor_17 : decode cX9_divisor 17 = .ok (.istore_n 3, 1) := by decide +kernel
theorem dX9_divisor_18 : decode cX9_divisor 18 = .ok (.goto (-14), 3) := by decide +kernel
theorem dX9_divisor_21 : decode cX9_divisor 21 = .ok (.iload_n 2, 1) := by decide +kernel
theorem dX9_divisor_22 : decode cX9_divisor 22 = .ok (.ireturn, 1) := by decide +kernel
theorem dX9_likeness_0 : decode cX9_likeness 0 = .ok (.aload_n 0, 1) := by decide +kernel
theorem dX9_likeness_1 : decode cX9_likeness 1 = .ok (.iconst 0, 1) := by decide +kernel
theorem dX9_likeness_2 : decode cX9_likeness 2 = .ok (.putfield 60, 3) := by decide +kernel
theorem dX9_likeness_5 : decode cX9_likeness 5 = .ok (.aload_n 0, 1) := by decide +kernel
theorem dX9_likeness_6 : decode cX9_likeness 6 = .ok (.aload_n 0, 1) := by decide +kernel
theorem dX9_likeness_7 : decode cX9_likeness 7 = .ok (.iload_n 1, 1) := by decide +kernel
theorem dX9_likeness_8 : decode cX9_likeness 8 = .ok (.invokevirtual 183, 3) := by decide +kernel
theorem dX9_likeness_11 : decode cX9_likeness 11 = .ok (.ifCond .eq 11, 3) := by decide +kernel
theorem dX9_likeness_14 : decode cX9_likeness 14 = .ok (.aload_n 0, 1) := by decide +kernel
theorem dX9_likeness_15 : decode cX9_likeness 15 = .ok (.iload_n 2, 1) := by decide +kernel
theorem dX9_likeness_16 : decode cX9_likeness 16 = .ok (.invokevirtual 183, 3) := by decide +kernel
theorem dX9_likeness_19 : decode cX9_likeness 19 = .ok (.ifCond .ne 7, 3) := by decide +kernel
theorem dX9_likeness_22 : decode cX9_likeness 22 = .ok (.iconst 1, 1) := by decide +kernel
theorem dX9_likeness_23 : decode cX9_likeness 23 = .ok (.goto 4, 3) := by decide +kernel
theorem dX9_likeness_26 : decode cX9_likeness 26 = .ok (.iconst 0, 1) := by decide +kernel
theorem dX9_likeness_27 : decode cX9_likeness 27 = .ok (.iconst 1, 1) := by decide +kernel
theorem dX9_likeness_28 : decode cX9_likeness 28 = .ok (.iconst 0, 1) := by decide +kernel
theorem dX9_likeness_29 : decode cX9_likeness 29 = .ok (.invokevirtual 119, 3) := by decide +kernel
theorem dX9_likeness_32 : decode cX9_likeness 32 = .ok (.ifCond .ne 26, 3) := by decide +kernel
theorem dX9_likeness_35 : decode cX9_likeness 35 = .ok (.aload_n 0, 1) := by decide +kernel
theorem dX9_likeness_36 : decode cX9_likeness 36 = .ok (.iload_n 3, 1) := by decide +kernel
theorem dX9_likeness_37 : decode cX9_likeness 37 = .ok (.iconst 0, 1) := by decide +kernel
theorem dX9_likeness_38 : decode cX9_likeness 38 = .ok (.iconst 1, 1) := by decide +kernel
theorem dX9_likeness_39 : decode cX9_likeness 39 = .ok (.invokestatic 116, 3) := by decide +kernel
theorem dX9_likeness_42 : decode cX9_likeness 42 = .ok (.ifCond .ne 7, 3) := by decide +kernel
theorem dX9_likeness_45 : decode cX9_likeness 45 = .ok (.iconst 1, 1) := by decide +kernel
theorem dX9_likeness_46 : decode cX9_likeness 46 = .ok (.goto 4, 3) := by decide +kernel
theorem dX9_likeness_49 : decode cX9_likeness 49 = .ok (.iconst 0, 1) := by decide +kernel
theorem dX9_likeness_50 : decode cX9_likeness 50 = .ok (.iconst 2, 1) := by decide +kernel
theorem dX9_likeness_51 : decode cX9_likeness 51 = .ok (.iconst 1, 1) := by decide +kernel
theorem dX9_likeness_52 : decode cX9_likeness 52 = .ok (.invokevirtual 119, 3) := by decide +kernel
theorem dX9_likeness_55 : decode cX9_likeness 55 = .ok (.ifCond .eq 5, 3) := by decide +kernel
theorem dX9_likeness_58 : decode cX9_likeness 58 = .ok (.iconst 0, 1) := by decide +kernel
theorem dX9_likeness_59 : decode cX9_likeness 59 = .ok (.ireturn, 1) := by decide +kernel
theorem dX9_likeness_60 : decode cX9_likeness 60 = .ok (.aload_n 0, 1) := by decide +kernel
theorem dX9_likeness_61 : decode cX9_likeness 61 = .ok (.aload_n 0, 1) := by decide +kernel
theorem dX9_likeness_62 : decode cX9_likeness 62 = .ok (.iload_n 1, 1) := by decide +kernel
theorem dX9_likeness_63 : decode cX9_likeness 63 = .ok (.invokevirtual 136, 3) := by decide +kernel
theorem dX9_likeness_66 : decode cX9_likeness 66 = .ok (.aload_n 0, 1) := by decide +kernel
theorem dX9_likeness_67 : decode cX9_likeness 67 = .ok (.iload_n 2, 1) := by decide +kernel
theorem dX9_likeness_68 : decode cX9_likeness 68 = .ok (.invokevirtual 136, 3) := by decide +kernel
theorem dX9_likeness_71 : decode cX9_likeness 71 = .ok (.land, 1) := by decide +kernel
theorem dX9_likeness_72 : decode cX9_likeness 72 = .ok (.invokevirtual 156, 3) := by decide +kernel
theorem dX9_likeness_75 : decode cX9_likeness 75 = .ok (.istore 4, 2) := by decide +kernel
theorem dX9_likeness_77 : decode cX9_likeness 77 = .ok (.aload_n 0, 1) := by decide +kernel
theorem dX9_likeness_78 : decode cX9_likeness 78 = .ok (.aload_n 0, 1) := by decide +kernel
theorem dX9_likeness_79 : decode cX9_likeness 79 = .ok (.iload_n 1, 1) := by decide +kernel
theorem dX9_likeness_80 : decode cX9_likeness 80 = .ok (.invokevirtual 136, 3) := by decide +kernel
theorem dX9_likeness_83 : decode cX9_likeness 83 = .ok (.aload_n 0, 1) := by decide +kernel
theorem dX9_likeness_84 : decode cX9_likeness 84 = .ok (.iload_n 2, 1) := by decide +kernel
theorem dX9_likeness_85 : decode cX9_likeness 85 = .ok (.invokevirtual 136, 3) := by decide +kernel
theorem dX9_likeness_88 : decode cX9_likeness 88 = .ok (.lor, 1) := by decide +kernel
theorem dX9_likeness_89 : decode cX9_likeness 89 = .ok (.invokevirtual 156, 3) := by decide +kernel
theorem dX9_likeness_92 : decode cX9_likeness 92 = .ok (.istore 5, 2) := by decide +kernel
theorem dX9_likeness_94 : decode cX9_likeness 94 = .ok (.iload 4, 2) := by decide +kernel
theorem dX9_likeness_96 : decode cX9_likeness 96 = .ok (.ifCond .ne 5, 3) := by decide +kernel
theorem dX9_likeness_99 : decode cX9_likeness 99 = .ok (.iload_n 3, 1) := by decide +kernel
theorem dX9_likeness_100 : decode cX9_likeness 100 = .ok (.ireturn, 1) := by decide +kernel
theorem dX9_likeness_101 : decode cX9_likeness 101 = .ok (.iload_n 3, 1) := by decide +kernel
theorem dX9_likeness_102 : decode cX9_likeness 102 = .ok (.ifCond .ne 8, 3) := by decide +kernel
theorem dX9_likeness_105 : decode cX9_likeness 105 = .ok (.iload 4, 2) := by decide +kernel
theorem dX9_likeness_107 : decode cX9_likeness 107 = .ok (.goto 5, 3) := by decide +kernel
theorem dX9_likeness_110 : decode cX9_likeness 110 = .ok (.iload 5, 2) := by decide +kernel
theorem dX9_likeness_112 : decode cX9_likeness 112 = .ok (.iload 4, 2) := by decide +kernel
theorem dX9_likeness_114 : decode cX9_likeness 114 = .ok (.iload 5, 2) := by decide +kernel
theorem dX9_likeness_116 : decode cX9_likeness 116 = .ok (.invokestatic 251, 3) := by decide +kernel
theorem dX9_likeness_119 : decode cX9_likeness 119 = .ok (.idiv, 1) := by decide +kernel
theorem dX9_likeness_120 : decode cX9_likeness 120 = .ok (.ireturn, 1) := by decide +kernel
theorem dX9_print_0 : decode cX9_print 0 = .ok (.aload_n 0, 1) := by decide +kernel
theorem dX9_print_1 : decode cX9_print 1 = .ok (.iconst 0, 1) := by decide +kernel
theorem dX9_print_2 : decode cX9_print 2 = .ok (.putfield 60, 3) := by decide +kernel
theorem dX9_print_5 : decode cX9_print 5 = .ok (.lconst 0, 1) := by decide +kernel
theorem dX9_print_6 : decode cX9_print 6 = .ok (.lstore_n 1, 1) := by decide +kernel
theorem dX9_print_7 : decode cX9_print 7 = .ok (.iconst 0, 1) := by decide +kernel
theorem dX9_print_8 : decode cX9_print 8 = .ok (.istore_n 3, 1) := by decide +kernel
theorem dX9_print_9 : decode cX9_print 9 = .ok (.iload_n 3, 1) := by decide +kernel
theorem dX9_print_10 : decode cX9_print 10 = .ok (.aload_n 0, 1) := by decide +kernel
theorem dX9_print_11 : decode cX9_print 11 = .ok (.invokevirtual 133, 3) := by decide +kernel
theorem dX9_print_14 : decode cX9_print 14 = .ok (.if_icmp .ge 41, 3) := by decide +kernel
theorem dX9_print_17 : decode cX9_print 17 = .ok (.ldc2_w 254, 3) := by decide +kernel
theorem dX9_print_20 : decode cX9_print 20 = .ok (.ldc2_w 254, 3) := by decide +kernel
theorem dX9_print_23 : decode cX9_print 23 = .ok (.lload_n 1, 1) := by decide +kernel
theorem dX9_print_24 : decode cX9_print 24 = .ok (.lmul, 1) := by decide +kernel
theorem dX9_print_25 : decode cX9_print 25 = .ok (.aload_n 0, 1) := by decide +kernel
theorem dX9_print_26 : decode cX9_print 26 = .ok (.aload_n 0, 1) := by decide +kernel
theorem dX9_print_27 : decode cX9_print 27 = .ok (.iload_n 3, 1) := by decide +kernel
theorem dX9_print_28 : decode cX9_print 28 = .ok (.invokevirtual 136, 3) := by decide +kernel
theorem dX9_print_31 : decode cX9_print 31 = .ok (.invokevirtual 156, 3) := by decide +kernel
theorem dX9_print_34 : decode cX9_print 34 = .ok (.i2l, 1) := by decide +kernel
theorem dX9_print_35 : decode cX9_print 35 = .ok (.ladd, 1) := by decide +kernel
theorem dX9_print_36 : decode cX9_print 36 = .ok (.lmul, 1) := by decide +kernel
theorem dX9_print_37 : decode cX9_print 37 = .ok (.aload_n 0, 1) := by decide +kernel
theorem dX9_print_38 : decode cX9_print 38 = .ok (.aload_n 0, 1) := by decide +kernel
theorem dX9_print_39 : decode cX9_print 39 = .ok (.invokevirtual 186, 3) := by decide +kernel
theorem dX9_print_42 : decode cX9_print 42 = .ok (.iload_n 3, 1) := by decide +kernel
theorem dX9_print_43 : decode cX9_print 43 = .ok (.invokevirtual 193, 3) := by decide +kernel
theorem dX9_print_46 : decode cX9_print 46 = .ok (.i2l, 1) := by decide +kernel
theorem dX9_print_47 : decode cX9_print 47 = .ok (.ladd, 1) := by decide +kernel
theorem dX9_print_48 : decode cX9_print 48 = .ok (.lstore_n 1, 1) := by decide +kernel
theorem dX9_print_49 : decode cX9_print 49 = .ok (.iinc 3 1, 3) := by decide +kernel
theorem dX9_print_52 : decode cX9_print 52 = .ok (.goto (-43), 3) := by decide +kernel
theorem dX9_print_55 : decode cX9_print 55 = .ok (.lload_n 1, 1) := by decide +kernel
theorem dX9_print_56 : decode cX9_print 56 = .ok (.lreturn, 1) := by decide +kernel
theorem dX9_status_0 : decode cX9_status 0 = .ok (.aload_n 0, 1) := by decide +kernel
theorem dX9_status_1 : decode cX9_status 1 = .ok (.iconst 0, 1) := by decide +kernel
theorem dX9_status_2 : decode cX9_status 2 = .ok (.putfield 60, 3) := by decide +kernel
theorem dX9_status_5 : decode cX9_status 5 = .ok (.iload_n 1, 1) := by decide +kernel
theorem dX9_status_6 : decode cX9_status 6 = .ok (.iconst 0, 1) := by decide +kernel
theorem dX9_status_7 : decode cX9_status 7 = .ok (.iconst 2, 1) := by decide +kernel
theorem dX9_status_8 : decode cX9_status 8 = .ok (.invokestatic 116, 3) := by decide +kernel
theorem dX9_status_11 : decode cX9_status 11 = .ok (.ifCond .eq 12, 3) := by decide +kernel
theorem dX9_status_14 : decode cX9_status 14 = .ok (.aload_n 0, 1) := by decide +kernel
theorem dX9_status_15 : decode cX9_status 15 = .ok (.getfield 9, 3) := by decide +kernel
theorem dX9_status_18 : decode cX9_status 18 = .ok (.iload_n 1, 1) := by decide +kernel
theorem dX9_status_19 : decode cX9_status 19 = .ok (.iaload, 1) := by decide +kernel
theorem dX9_status_20 : decode cX9_status 20 = .ok (.goto 4, 3) := by decide +kernel
theorem dX9_status_23 : decode cX9_status 23 = .ok (.iconst (-1), 1) := by decide +kernel
theorem dX9_status_24 : decode cX9_status 24 = .ok (.ireturn, 1) := by decide +kernel
