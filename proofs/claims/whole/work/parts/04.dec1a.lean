theorem dX8_init_0 : decode cX8_init 0 = .ok (.aload_n 0, 1) := by decide +kernel
theorem dX8_init_1 : decode cX8_init 1 = .ok (.invokespecial 1, 3) := by decide +kernel
theorem dX8_init_4 : decode cX8_init 4 = .ok (.aload_n 0, 1) := by decide +kernel
theorem dX8_init_5 : decode cX8_init 5 = .ok (.sipush 600, 3) := by decide +kernel
theorem dX8_init_8 : decode cX8_init 8 = .ok (.newarray .byte, 2) := by decide +kernel
theorem dX8_init_10 : decode cX8_init 10 = .ok (.putfield 9, 3) := by decide +kernel
theorem dX8_init_13 : decode cX8_init 13 = .ok (.aload_n 0, 1) := by decide +kernel
theorem dX8_init_14 : decode cX8_init 14 = .ok (.iconst 0, 1) := by decide +kernel
theorem dX8_init_15 : decode cX8_init 15 = .ok (.putfield 13, 3) := by decide +kernel
theorem dX8_init_18 : decode cX8_init 18 = .ok (.aload_n 0, 1) := by decide +kernel
theorem dX8_init_19 : decode cX8_init 19 = .ok (.iconst (-1), 1) := by decide +kernel
theorem dX8_init_20 : decode cX8_init 20 = .ok (.putfield 17, 3) := by decide +kernel
theorem dX8_init_23 : decode cX8_init 23 = .ok (.aload_n 0, 1) := by decide +kernel
theorem dX8_init_24 : decode cX8_init 24 = .ok (.iconst 3, 1) := by decide +kernel
theorem dX8_init_25 : decode cX8_init 25 = .ok (.newarray .int, 2) := by decide +kernel
theorem dX8_init_27 : decode cX8_init 27 = .ok (.putfield 20, 3) := by decide +kernel
theorem dX8_init_30 : decode cX8_init 30 = .ok (.aload_n 0, 1) := by decide +kernel
theorem dX8_init_31 : decode cX8_init 31 = .ok (.new 24, 3) := by decide +kernel
theorem dX8_init_34 : decode cX8_init 34 = .ok (.dup, 1) := by decide +kernel
theorem dX8_init_35 : decode cX8_init 35 = .ok (.invokespecial 26, 3) := by decide +kernel
theorem dX8_init_38 : decode cX8_init 38 = .ok (.putfield 27, 3) := by decide +kernel
theorem dX8_init_41 : decode cX8_init 41 = .ok (.aload_n 0, 1) := by decide +kernel
theorem dX8_init_42 : decode cX8_init 42 = .ok (.new 31, 3) := by decide +kernel
theorem dX8_init_45 : decode cX8_init 45 = .ok (.dup, 1) := by decide +kernel
theorem dX8_init_46 : decode cX8_init 46 = .ok (.invokespecial 33, 3) := by decide +kernel
theorem dX8_init_49 : decode cX8_init 49 = .ok (.putfield 34, 3) := by decide +kernel
theorem dX8_init_52 : decode cX8_init 52 = .ok (.aload_n 0, 1) := by decide +kernel
theorem dX8_init_53 : decode cX8_init 53 = .ok (.new 38, 3) := by decide +kernel
theorem dX8_init_56 : decode cX8_init 56 = .ok (.dup, 1) := by decide +kernel
theorem dX8_init_57 : decode cX8_init 57 = .ok (.invokespecial 40, 3) := by decide +kernel
theorem dX8_init_60 : decode cX8_init 60 = .ok (.putfield 41, 3) := by decide +kernel
theorem dX8_init_63 : decode cX8_init 63 = .ok (.aload_n 0, 1) := by decide +kernel
theorem dX8_init_64 : decode cX8_init 64 = .ok (.new 45, 3) := by decide +kernel
theorem dX8_init_67 : decode cX8_init 67 = .ok (.dup, 1) := by decide +kernel
theorem dX8_init_68 : decode cX8_init 68 = .ok (.invokespecial 47, 3) := by decide +kernel
theorem dX8_init_71 : decode cX8_init 71 = .ok (.putfield 48, 3) := by decide +kernel
theorem dX8_init_74 : decode cX8_init 74 = .ok (.aload_n 0, 1) := by decide +kernel
theorem dX8_init_75 : decode cX8_init 75 = .ok (.new 52, 3) := by decide +kernel
theorem dX8_init_78 : decode cX8_init 78 = .ok (.dup, 1) := by decide +kernel
theorem dX8_init_79 : decode cX8_init 79 = .ok (.invokespecial 54, 3) := by decide +kernel
theorem dX8_init_82 : decode cX8_init 82 = .ok (.putfield 55, 3) := by decide +kernel
theorem dX8_init_85 : decode cX8_init 85 = .ok (.aload_n 0, 1) := by decide +kernel
theorem dX8_init_86 : decode cX8_init 86 = .ok (.new 59, 3) := by decide +kernel
theorem dX8_init_89 : decode cX8_init 89 = .ok (.dup, 1) := by decide +kernel
theorem dX8_init_90 : decode cX8_init 90 = .ok (.invokespecial 61, 3) := by decide +kernel
theorem dX8_init_93 : decode cX8_init 93 = .ok (.putfield 62, 3) := by decide +kernel
theorem dX8_init_96 : decode cX8_init 96 = .ok (.aload_n 0, 1) := by decide +kernel
theorem dX8_init_97 : decode cX8_init 97 = .ok (.new 66, 3) := by decide +kernel
theorem dX8_init_100 : decode cX8_init 100 = .ok (.dup, 1) := by decide +kernel
theorem dX8_init_101 : decode cX8_init 101 = .ok (.invokespecial 68, 3) := by decide +kernel
theorem dX8_init_104 : decode cX8_init 104 = .ok (.putfield 69, 3) := by decide +kernel
theorem dX8_init_107 : decode cX8_init 107 = .ok (.aload_n 0, 1) := by decide +kernel
theorem dX8_init_108 : decode cX8_init 108 = .ok (.new 73, 3) := by decide +kernel
theorem dX8_init_111 : decode cX8_init 111 = .ok (.dup, 1) := by decide +kernel
theorem dX8_init_112 : decode cX8_init 112 = .ok (.invokespecial 75, 3) := by decide +kernel
theorem dX8_init_115 : decode cX8_init 115 = .ok (.putfield 76, 3) := by decide +kernel
theorem dX8_init_118 : decode cX8_init 118 = .ok (.return_, 1) := by decide +kernel
theorem dX8_feed_0 : decode cX8_feed 0 = .ok (.aload_n 0, 1) := by decide +kernel
theorem dX8_feed_1 : decode cX8_feed 1 = .ok (.getfield 13, 3) := by decide +kernel
theorem dX8_feed_4 : decode cX8_feed 4 = .ok (.bipush 20, 2) := by decide +kernel
theorem dX8_feed_6 : decode cX8_feed 6 = .ok (.iadd, 1) := by decide +kernel
theorem dX8_feed_7 : decode cX8_feed 7 = .ok (.sipush 600, 3) := by decide +kernel
theorem dX8_feed_10 : decode cX8_feed 10 = .ok (.if_icmp .le 5, 3) := by decide +kernel
theorem dX8_feed_13 : decode cX8_feed 13 = .ok (.iconst (-1), 1) := by decide +kernel
theorem dX8_feed_14 : decode cX8_feed 14 = .ok (.ireturn, 1) := by decide +kernel
theorem dX8_feed_15 : decode cX8_feed 15 = .ok (.aload_n 0, 1) := by decide +kernel
theorem dX8_feed_16 : decode cX8_feed 16 = .ok (.iload_n 1, 1) := by decide +kernel
theorem dX8_feed_17 : decode cX8_feed 17 = .ok (.invokevirtual 80, 3) := by decide +kernel
theorem dX8_feed_20 : decode cX8_feed 20 = .ok (.aload_n 0, 1) := by decide +kernel
theorem dX8_feed_21 : decode cX8_feed 21 = .ok (.iload_n 2, 1) := by decide +kernel
theorem dX8_feed_22 : decode cX8_feed 22 = .ok (.invokevirtual 80, 3) := by decide +kernel
theorem dX8_feed_25 : decode cX8_feed 25 = .ok (.aload_n 0, 1) := by decide +kernel
theorem dX8_feed_26 : decode cX8_feed 26 = .ok (.iload_n 3, 1) := by decide +kernel
theorem dX8_feed_27 : decode cX8_feed 27 = .ok (.invokevirtual 80, 3) := by decide +kernel
theorem dX8_feed_30 : decode cX8_feed 30 = .ok (.aload_n 0, 1) := by decide +kernel
theorem dX8_feed_31 : decode cX8_feed 31 = .ok (.iload 4, 2) := by decide +kernel
theorem dX8_feed_33 : decode cX8_feed 33 = .ok (.invokevirtual 80, 3) := by decide +kernel
theorem dX8_feed_36 : decode cX8_feed 36 = .ok (.aload_n 0, 1) := by decide +kernel
theorem dX8_feed_37 : decode cX8_feed 37 = .ok (.iload 5, 2) := by decide +kernel
theorem dX8_feed_39 : decode cX8_feed 39 = .ok (.invokevirtual 80, 3) := by decide +kernel
theorem dX8_feed_42 : decode cX8_feed 42 = .ok (.aload_n 0, 1) := by decide +kernel
theorem dX8_feed_43 : decode cX8_feed 43 = .ok (.getfield 13, 3) := by decide +kernel
theorem dX8_feed_46 : decode cX8_feed 46 = .ok (.ireturn, 1) := by decide +kernel
theorem dX8_text_0 : decode cX8_text 0 = .ok (.aload_n 0, 1) := by decide +kernel
theorem dX8_text_1 : decode cX8_text 1 = .ok (.iload_n 1, 1) := by decide +kernel
theorem dX8_text_2 : decode cX8_text 2 = .ok (.iconst 0, 1) := by decide +kernel
theorem dX8_text_3 : decode cX8_text 3 = .ok (.aload_n 0, 1) := by decide +kernel
theorem dX8_text_4 : decode cX8_text 4 = .ok (.getfield 13, 3) := by decide +kernel
theorem dX8_text_7 : decode cX8_text 7 = .ok (.invokevirtual 84, 3) := by decide +kernel
theorem dX8_text_10 : decode cX8_text 10 = .ok (.aload_n 0, 1) := by decide +kernel
theorem dX8_text_11 : decode cX8_text 11 = .ok (.iconst 0, 1) := by decide +kernel
theorem dX8_text_12 : decode cX8_text 12 = .ok (.putfield 13, 3) := by decide +kernel
theorem dX8_text_15 : decode cX8_text 15 = .ok (.aload_n 0, 1) := by decide +kernel
theorem dX8_text_16 : decode cX8_text 16 = .ok (.getfield 41, 3) := by decide +kernel
theorem dX8_text_19 : decode cX8_text 19 = .ok (.aload_n 0, 1) := by decide +kernel
theorem dX8_text_20 : decode cX8_text 20 = .ok (.getfield 9, 3) := by decide +kernel
theorem dX8_text_23 : decode cX8_text 23 = .ok (.iload_n 1, 1) := by decide +kernel
theorem dX8_text_24 : decode cX8_text 24 = .ok (.invokevirtual 88, 3) := by decide +kernel
theorem dX8_text_27 : decode cX8_text 27 = .ok (.istore_n 2, 1) := by decide +kernel
theorem dX8_text_28 : decode cX8_text 28 = .ok (.aload_n 0, 1) := by decide +kernel
theorem dX8_text_29 : decode cX8_text 29 = .ok (.aload_n 0, 1) := by decide +kernel
theorem dX8_text_30 : decode cX8_text 30 = .ok (.getfield 41, 3) := by decide +kernel
theorem dX8_text_33 : decode cX8_text 33 = .ok (.getfield 92, 3) := by decide +kernel
theorem dX8_text_36 : decode cX8_text 36 = .ok (.putfield 17, 3) := by decide +kernel
theorem dX8_text_39 : decode cX8_text 39 = .ok (.iload_n 2, 1) := by decide +kernel
theorem dX8_text_40 : decode cX8_text 40 = .ok (.ifCond .eq 8, 3) := by decide +kernel
theorem dX8_text_43 : decode cX8_text 43 = .ok (.iload_n 2, 1) := by decide +kernel
theorem dX8_text_44 : decode cX8_text 44 = .ok (.bipush 10, 2) := by decide +kernel
theorem dX8_text_46 : decode cX8_text 46 = .ok (.isub, 1) := by decide +kernel
theorem dX8_text_47 : decode cX8_text 47 = .ok (.ireturn, 1) := by decide +kernel
theorem dX8_text_48 : decode cX8_text 48 = .ok (.aload_n 0, 1) := by decide +kernel
theorem dX8_text_49 : decode cX8_text 49 = .ok (.getfield 34, 3) := by decide +kernel
theorem dX8_text_52 : decode cX8_text 52 = .ok (.aload_n 0, 1) := by decide +kernel
theorem dX8_text_53 : decode cX8_text 53 = .ok (.getfield 27, 3) := by decide +kernel
theorem dX8_text_56 : decode cX8_text 56 = .ok (.invokevirtual 95, 3) := by decide +kernel
theorem dX8_text_59 : decode cX8_text 59 = .ok (.aload_n 0, 1) := by decide +kernel
theorem dX8_text_60 : decode cX8_text 60 = .ok (.getfield 41, 3) := by decide +kernel
theorem dX8_text_63 : decode cX8_text 63 = .ok (.getfield 99, 3) := by decide +kernel
theorem dX8_text_66 : decode cX8_text 66 = .ok (.aload_n 0, 1) := by decide +kernel
theorem dX8_text_67 : decode cX8_text 67 = .ok (.getfield 27, 3) := by decide +kernel
theorem dX8_text_70 : decode cX8_text 70 = .ok (.getfield 102, 3) := by decide +kernel
theorem dX8_text_73 : decode cX8_text 73 = .ok (.putfield 102, 3) := by decide +kernel
theorem dX8_text_76 : decode cX8_text 76 = .ok (.aload_n 0, 1) := by decide +kernel
theorem dX8_text_77 : decode cX8_text 77 = .ok (.getfield 27, 3) := by decide +kernel
theorem dX8_text_80 : decode cX8_text 80 = .ok (.aload_n 0, 1) := by decide +kernel
theorem dX8_text_81 : decode cX8_text 81 = .ok (.getfield 41, 3) := by decide +kernel
theorem dX8_text_84 : decode cX8_text 84 = .ok (.getfield 99, 3) := by decide +kernel
theorem dX8_text_87 : decode cX8_text 87 = .ok (.invokevirtual 105, 3) := by decide +kernel
theorem dX8_text_90 : decode cX8_text 90 = .ok (.aload_n 0, 1) := by decide +kernel
theorem dX8_text_91 : decode cX8_text 91 = .ok (.getfield 27, 3) := by decide +kernel
theorem dX8_text_94 : decode cX8_text 94 = .ok (.invokevirtual 108, 3) := by decide +kernel
theorem dX8_text_97 : decode cX8_text 97 = .ok (.aload_n 0, 1) := by decide +kernel
theorem dX8_text_98 : decode cX8_text 98 = .ok (.getfield 27, 3) := by decide +kernel
theorem dX8_text_101 : decode cX8_text 101 = .ok (.getfield 111, 3) := by decide +kernel
theorem dX8_text_104 : decode cX8_text 104 = .ok (.ireturn, 1) := by decide +kernel
theorem dX8_fault_0 : decode cX8_fault 0 = .ok (.aload_n 0, 1) := by decide +kernel
theorem dX8_fault_1 : decode cX8_fault 1 = .ok (.getfield 17, 3) := by decide +kernel
theorem dX8_fault_4 : decode cX8_fault 4 = .ok (.ireturn, 1) := by decide +kernel
theorem dX8_weigh_0 : decode cX8_weigh 0 = .ok (.aload_n 0, 1) := by decide +kernel
theorem dX8_weigh_1 : decode cX8_weigh 1 = .ok (.iload_n 1, 1) := by decide +kernel
theorem dX8_weigh_2 : decode cX8_weigh 2 = .ok (.invokevirtual 114, 3) := by decide +kernel
theorem dX8_weigh_5 : decode cX8_weigh 5 = .ok (.aload_n 0, 1) := by decide +kernel
theorem dX8_weigh_6 : decode cX8_weigh 6 = .ok (.iload_n 2, 1) := by decide +kernel
theorem dX8_weigh_7 : decode cX8_weigh 7 = .ok (.iconst 0, 1) := by decide +kernel
theorem dX8_weigh_8 : decode cX8_weigh 8 = .ok (.sipush 1000, 3) := by decide +kernel
theorem dX8_weigh_11 : decode cX8_weigh 11 = .ok (.invokevirtual 84, 3) := by decide +kernel
theorem dX8_weigh_14 : decode cX8_weigh 14 = .ok (.aload_n 0, 1) := by decide +kernel
theorem dX8_weigh_15 : decode cX8_weigh 15 = .ok (.getfield 34, 3) := by decide +kernel
theorem dX8_weigh_18 : decode cX8_weigh 18 = .ok (.aload_n 0, 1) := by decide +kernel
theorem dX8_weigh_19 : decode cX8_weigh 19 = .ok (.getfield 27, 3) := by decide +kernel
theorem dX8_weigh_22 : decode cX8_weigh 22 = .ok (.invokevirtual 95, 3) := by decide +kernel
theorem dX8_weigh_25 : decode cX8_weigh 25 = .ok (.aload_n 0, 1) := by decide +kernel
theorem dX8_weigh_26 : decode cX8_weigh 26 = .ok (.getfield 27, 3) := by decide +kernel
theorem dX8_weigh_29 : decode cX8_weigh 29 = .ok (.getfield 117, 3) := by decide +kernel
theorem dX8_weigh_32 : decode cX8_weigh 32 = .ok (.iload_n 1, 1) := by decide +kernel
theorem dX8_weigh_33 : decode cX8_weigh 33 = .ok (.iaload, 1) := by decide +kernel
theorem dX8_weigh_34 : decode cX8_weigh 34 = .ok (.istore_n 3, 1) := by decide +kernel
theorem dX8_weigh_35 : decode cX8_weigh 35 = .ok (.aload_n 0, 1) := by decide +kernel
theorem dX8_weigh_36 : decode cX8_weigh 36 = .ok (.getfield 27, 3) := by decide +kernel
theorem dX8_weigh_39 : decode cX8_weigh 39 = .ok (.getfield 117, 3) := by decide +kernel
theorem dX8_weigh_42 : decode cX8_weigh 42 = .ok (.iload_n 1, 1) := by decide +kernel
theorem dX8_weigh_43 : decode cX8_weigh 43 = .ok (.iload_n 2, 1) := by decide +kernel
theorem dX8_weigh_44 : decode cX8_weigh 44 = .ok (.iastore, 1) := by decide +kernel
theorem dX8_weigh_45 : decode cX8_weigh 45 = .ok (.iload_n 3, 1) := by decide +kernel
theorem dX8_weigh_46 : decode cX8_weigh 46 = .ok (.ireturn, 1) := by decide +kernel
theorem dX8_lean_0 : decode cX8_lean 0 = .ok (.aload_n 0, 1) := by decide +kernel
theorem dX8_lean_1 : decode cX8_lean 1 = .ok (.iload_n 1, 1) := by decide +kernel
theorem dX8_lean_2 : decode cX8_lean 2 = .ok (.invokevirtual 114, 3) := by decide +kernel
theorem dX8_lean_5 : decode cX8_lean 5 = .ok (.aload_n 0, 1) := by decide +kernel
theorem dX8_lean_6 : decode cX8_lean 6 = .ok (.getfield 34, 3) := by decide +kernel
theorem dX8_lean_9 : decode cX8_lean 9 = .ok (.aload_n 0, 1) := by decide +kernel
theorem dX8_lean_10 : decode cX8_lean 10 = .ok (.getfield 27, 3) := by decide +kernel
theorem dX8_lean_13 : decode cX8_lean 13 = .ok (.invokevirtual 95, 3) := by decide +kernel
theorem dX8_lean_16 : decode cX8_lean 16 = .ok (.aload_n 0, 1) := by decide +kernel
theorem dX8_lean_17 : decode cX8_lean 17 = .ok (.getfield 27, 3) := by decide +kernel
theorem dX8_lean_20 : decode cX8_lean 20 = .ok (.iload_n 1, 1) := by decide +kernel
theorem dX8_lean_21 : decode cX8_lean 21 = .ok (.invokevirtual 120, 3) := by decide +kernel
theorem dX8_lean_24 : decode cX8_lean 24 = .ok (.istore_n 3, 1) := by decide +kernel
theorem dX8_lean_25 : decode cX8_lean 25 = .ok (.lconst 1, 1) := by decide +kernel
theorem dX8_lean_26 : decode cX8_lean 26 = .ok (.iload_n 1, 1) := by decide +kernel
theorem dX8_lean_27 : decode cX8_lean 27 = .ok (.lshl, 1) := by decide +kernel
theorem dX8_lean_28 : decode cX8_lean 28 = .ok (.lstore 4, 2) := by decide +kernel
theorem dX8_lean_30 : decode cX8_lean 30 = .ok (.aload_n 0, 1) := by decide +kernel
theorem dX8_lean_31 : decode cX8_lean 31 = .ok (.getfield 27, 3) := by decide +kernel
theorem dX8_lean_34 : decode cX8_lean 34 = .ok (.iload_n 2, 1) := by decide +kernel
theorem dX8_lean_35 : decode cX8_lean 35 = .ok (.ifCond .eq 16, 3) := by decide +kernel
theorem dX8_lean_38 : decode cX8_lean 38 = .ok (.aload_n 0, 1) := by decide +kernel
theorem dX8_lean_39 : decode cX8_lean 39 = .ok (.getfield 27, 3) := by decide +kernel
theorem dX8_lean_42 : decode cX8_lean 42 = .ok (.getfield 124, 3) := by decide +kernel
theorem dX8_lean_45 : decode cX8_lean 45 = .ok (.lload 4, 2) := by decide +kernel
theorem dX8_lean_47 : decode cX8_lean 47 = .ok (.lor, 1) := by decide +kernel
theorem dX8_lean_48 : decode cX8_lean 48 = .ok (.goto 17, 3) := by decide +kernel
theorem dX8_lean_51 : decode cX8_lean 51 = .ok (.aload_n 0, 1) := by decide +kernel
theorem dX8_lean_52 : decode cX8_lean 52 = .ok (.getfield 27, 3) := by decide +kernel
theorem dX8_lean_55 : decode cX8_lean 55 = .ok (.getfield 124, 3) := by decide +kernel
theorem dX8_lean_58 : decode cX8_lean 58 = .ok (.lload 4, 2) := by decide +kernel
theorem dX8_lean_60 : decode cX8_lean 60 = .ok (.ldc2_w 128, 3) := by decide +kernel
theorem dX8_lean_63 : decode cX8_lean 63 = .ok (.lxor, 1) := by decide +kernel
theorem dX8_lean_64 : decode cX8_lean 64 = .ok (.land, 1) := by decide +kernel
theorem dX8_lean_65 : decode cX8_lean 65 = .ok (.putfield 124, 3) := by decide +kernel
theorem dX8_lean_68 : decode cX8_lean 68 = .ok (.aload_n 0, 1) := by decide +kernel
theorem dX8_lean_69 : decode cX8_lean 69 = .ok (.getfield 27, 3) := by decide +kernel
theorem dX8_lean_72 : decode cX8_lean 72 = .ok (.invokevirtual 108, 3) := by decide +kernel
theorem dX8_lean_75 : decode cX8_lean 75 = .ok (.iload_n 3, 1) := by decide +kernel
theorem dX8_lean_76 : decode cX8_lean 76 = .ok (.iload_n 2, 1) := by decide +kernel
theorem dX8_lean_77 : decode cX8_lean 77 = .ok (.if_icmp .ne 7, 3) := by decide +kernel
theorem dX8_lean_80 : decode cX8_lean 80 = .ok (.iconst 0, 1) := by decide +kernel
theorem dX8_lean_81 : decode cX8_lean 81 = .ok (.goto 4, 3) := by decide +kernel
theorem dX8_lean_84 : decode cX8_lean 84 = .ok (.iconst 1, 1) := by decide +kernel
theorem dX8_lean_85 : decode cX8_lean 85 = .ok (.ireturn, 1) := by decide +kernel
theorem dX8_budget_0 : decode cX8_budget 0 = .ok (.aload_n 0, 1) := by decide +kernel
theorem dX8_budget_1 : decode cX8_budget 1 = .ok (.iload_n 1, 1) := by decide +kernel
theorem dX8_budget_2 : decode cX8_budget 2 = .ok (.iconst 0, 1) := by decide +kernel
theorem dX8_budget_3 : decode cX8_budget 3 = .ok (.sipush 9999, 3) := by decide +kernel
theorem dX8_budget_6 : decode cX8_budget 6 = .ok (.invokevirtual 84, 3) := by decide +kernel
theorem dX8_budget_9 : decode cX8_budget 9 = .ok (.aload_n 0, 1) := by decide +kernel
theorem dX8_budget_10 : decode cX8_budget 10 = .ok (.getfield 34, 3) := by decide +kernel
theorem dX8_budget_13 : decode cX8_budget 13 = .ok (.aload_n 0, 1) := by decide +kernel
theorem dX8_budget_14 : decode cX8_budget 14 = .ok (.getfield 27, 3) := by decide +kernel
theorem dX8_budget_17 : decode cX8_budget 17 = .ok (.invokevirtual 95, 3) := by decide +kernel
theorem dX8_budget_20 : decode cX8_budget 20 = .ok (.aload_n 0, 1) := by decide +kernel
theorem dX8_budget_21 : decode cX8_budget 21 = .ok (.getfield 27, 3) := by decide +kernel
theorem dX8_budget_24 : decode cX8_budget 24 = .ok (.getfield 102, 3) := by decide +kernel
theorem dX8_budget_27 : decode cX8_budget 27 = .ok (.istore_n 2, 1) := by decide +kernel
theorem dX8_budget_28 : decode cX8_budget 28 = .ok (.aload_n 0, 1) := by decide +kernel
theorem dX8_budget_29 : decode cX8_budget 29 = .ok (.getfield 27, 3) := by decide +kernel
theorem dX8_budget_32 : decode cX8_budget 32 = .ok (.iload_n 1, 1) := by decide +kernel
theorem dX8_budget_33 : decode cX8_budget 33 = .ok (.putfield 102, 3) := by decide +kernel
theorem dX8_budget_36 : decode cX8_budget 36 = .ok (.iload_n 2, 1) := by decide +kernel
theorem dX8_budget_37 : decode cX8_budget 37 = .ok (.ireturn, 1) := by decide +kernel
theorem dX8_take_0 : decode cX8_take 0 = .ok (.aload_n 0, 1) := by decide +kernel
theorem dX8_take_1 : decode cX8_take 1 = .ok (.iload_n 1, 1) := by decide +kernel
theorem dX8_take_2 : decode cX8_take 2 = .ok (.invokevirtual 130, 3) := by decide +kernel
theorem dX8_take_5 : decode cX8_take 5 = .ok (.aload_n 0, 1) := by decide +kernel
theorem dX8_take_6 : decode cX8_take 6 = .ok (.aload_n 0, 1) := by decide +kernel
theorem dX8_take_7 : decode cX8_take 7 = .ok (.getfield 27, 3) := by decide +kernel
theorem dX8_take_10 : decode cX8_take 10 = .ok (.iload_n 1, 1) := by decide +kernel
theorem dX8_take_11 : decode cX8_take 11 = .ok (.aload_n 0, 1) := by decide +kernel
theorem dX8_take_12 : decode cX8_take 12 = .ok (.getfield 27, 3) := by decide +kernel
theorem dX8_take_15 : decode cX8_take 15 = .ok (.getfield 133, 3) := by decide +kernel
theorem dX8_take_18 : decode cX8_take 18 = .ok (.invokevirtual 136, 3) := by decide +kernel
theorem dX8_take_21 : decode cX8_take 21 = .ok (.invokevirtual 140, 3) := by decide +kernel
theorem dX8_take_24 : decode cX8_take 24 = .ok (.aload_n 0, 1) := by decide +kernel
theorem dX8_take_25 : decode cX8_take 25 = .ok (.getfield 34, 3) := by decide +kernel
theorem dX8_take_28 : decode cX8_take 28 = .ok (.aload_n 0, 1) := by decide +kernel
theorem dX8_take_29 : decode cX8_take 29 = .ok (.getfield 27, 3) := by decide +kernel
theorem dX8_take_32 : decode cX8_take 32 = .ok (.invokevirtual 95, 3) := by decide +kernel
theorem dX8_take_35 : decode cX8_take 35 = .ok (.aload_n 0, 1) := by decide +kernel
theorem dX8_take_36 : decode cX8_take 36 = .ok (.getfield 27, 3) := by decide +kernel
theorem dX8_take_39 : decode cX8_take 39 = .ok (.iload_n 1, 1) := by decide +kernel
theorem dX8_take_40 : decode cX8_take 40 = .ok (.aload_n 0, 1) := by decide +kernel
theorem dX8_take_41 : decode cX8_take 41 = .ok (.getfield 27, 3) := by decide +kernel
theorem dX8_take_44 : decode cX8_take 44 = .ok (.getfield 133, 3) := by decide +kernel
theorem dX8_take_47 : decode cX8_take 47 = .ok (.invokevirtual 144, 3) := by decide +kernel
theorem dX8_take_50 : decode cX8_take 50 = .ok (.istore_n 2, 1) := by decide +kernel
theorem dX8_take_51 : decode cX8_take 51 = .ok (.aload_n 0, 1) := by decide +kernel
theorem dX8_take_52 : decode cX8_take 52 = .ok (.getfield 27, 3) := by decide +kernel
theorem dX8_take_55 : decode cX8_take 55 = .ok (.dup, 1) := by decide +kernel
theorem dX8_take_56 : decode cX8_take 56 = .ok (.getfield 133, 3) := by decide +kernel
theorem dX8_take_59 : decode cX8_take 59 = .ok (.aload_n 0, 1) := by decide +kernel
theorem dX8_take_60 : decode cX8_take 60 = .ok (.getfield 27, 3) := by decide +kernel
theorem dX8_take_63 : decode cX8_take 63 = .ok (.getfield 148, 3) := by decide +kernel
theorem dX8_take_66 : decode cX8_take 66 = .ok (.iload_n 1, 1) := by decide +kernel
theorem dX8_take_67 : decode cX8_take 67 = .ok (.iaload, 1) := by decide +kernel
theorem dX8_take_68 : decode cX8_take 68 = .ok (.ior, 1) := by decide +kernel
theorem dX8_take_69 : decode cX8_take 69 = .ok (.putfield 133, 3) := by decide +kernel
theorem dX8_take_72 : decode cX8_take 72 = .ok (.iload_n 2, 1) := by decide +kernel
theorem dX8_take_73 : decode cX8_take 73 = .ok (.ireturn, 1) := by decide +kernel
theorem dX8_drop_0 : decode cX8_drop 0 = .ok (.aload_n 0, 1) := by decide +kernel
theorem dX8_drop_1 : decode cX8_drop 1 = .ok (.iload_n 1, 1) := by decide +kernel
theorem dX8_drop_2 : decode cX8_drop 2 = .ok (.invokevirtual 130, 3) := by decide +kernel
theorem dX8_drop_5 : decode cX8_drop 5 = .ok (.aload_n 0, 1) := by decide +kernel
theorem dX8_drop_6 : decode cX8_drop 6 = .ok (.iload_n 1, 1) := by decide +kernel
theorem dX8_drop_7 : decode cX8_drop 7 = .ok (.aload_n 0, 1) := by decide +kernel
theorem dX8_drop_8 : decode cX8_drop 8 = .ok (.getfield 27, 3) := by decide +kernel
theorem dX8_drop_11 : decode cX8_drop 11 = .ok (.getfield 133, 3) := by decide +kernel
theorem dX8_drop_14 : decode cX8_drop 14 = .ok (.invokestatic 151, 3) := by decide +kernel
theorem dX8_drop_17 : decode cX8_drop 17 = .ok (.invokevirtual 140, 3) := by decide +kernel
theorem dX8_drop_20 : decode cX8_drop 20 = .ok (.aload_n 0, 1) := by decide +kernel
theorem dX8_drop_21 : decode cX8_drop 21 = .ok (.getfield 34, 3) := by decide +kernel
theorem dX8_drop_24 : decode cX8_drop 24 = .ok (.aload_n 0, 1) := by decide +kernel
theorem dX8_drop_25 : decode cX8_drop 25 = .ok (.getfield 27, 3) := by decide +kernel
theorem dX8_drop_28 : decode cX8_drop 28 = .ok (.invokevirtual 95, 3) := by decide +kernel
theorem dX8_drop_31 : decode cX8_drop 31 = .ok (.aload_n 0, 1) := by decide +kernel
theorem dX8_drop_32 : decode cX8_drop 32 = .ok (.getfield 27, 3) := by decide +kernel
theorem dX8_drop_35 : decode cX8_drop 35 = .ok (.aload_n 0, 1) := by decide +kernel
theorem dX8_drop_36 : decode cX8_drop 36 = .ok (.getfield 27, 3) := by decide +kernel
theorem dX8_drop_39 : decode cX8_drop 39 = .ok (.getfield 133, 3) := by decide +kernel
theorem dX8_drop_42 : decode cX8_drop 42 = .ok (.invokevirtual 154, 3) := by decide +kernel
theorem dX8_drop_45 : decode cX8_drop 45 = .ok (.istore_n 2, 1) := by decide +kernel
theorem dX8_drop_46 : decode cX8_drop 46 = .ok (.aload_n 0, 1) := by decide +kernel
theorem dX8_drop_47 : decode cX8_drop 47 = .ok (.getfield 27, 3) := by decide +kernel
theorem dX8_drop_50 : decode cX8_drop 50 = .ok (.dup, 1) := by decide +kernel
theorem dX8_drop_51 : decode cX8_drop 51 = .ok (.getfield 133, 3) := by decide +kernel
theorem dX8_drop_54 : decode cX8_drop 54 = .ok (.aload_n 0, 1) := by decide +kernel
theorem dX8_drop_55 : decode cX8_drop 55 = .ok (.getfield 27, 3) := by decide +kernel
theorem dX8_drop_58 : decode cX8_drop 58 = .ok (.iload_n 1, 1) := by decide +kernel
theorem dX8_drop_59 : decode cX8_drop 59 = .ok (.invokevirtual 158, 3) := by decide +kernel
theorem dX8_drop_62 : decode cX8_drop 62 = .ok (.iconst (-1), 1) := by decide +kernel
theorem dX8_drop_63 : decode cX8_drop 63 = .ok (.ixor, 1) := by decide +kernel
theorem dX8_drop_64 : decode cX8_drop 64 = .ok (.iand, 1) := by decide +kernel
theorem dX8_drop_65 : decode cX8_drop 65 = .ok (.putfield 133, 3) := by decide +kernel
theorem dX8_drop_68 : decode cX8_drop 68 = .ok (.iload_n 2, 1) := by decide +kernel
theorem dX8_drop_69 : decode cX8_drop 69 = .ok (.aload_n 0, 1) := by decide +kernel
theorem dX8_drop_70 : decode cX8_drop 70 = .ok (.getfield 27, 3) := by decide +kernel
theorem dX8_drop_73 : decode cX8_drop 73 = .ok (.aload_n 0, 1) := by decide +kernel
theorem dX8_drop_74 : decode cX8_drop 74 = .ok (.getfield 27, 3) := by decide +kernel
theorem dX8_drop_77 : decode cX8_drop 77 = .ok (.getfield 133, 3) := by decide +kernel
theorem dX8_drop_80 : decode cX8_drop 80 = .ok (.invokevirtual 154, 3) := by decide +kernel
theorem dX8_drop_83 : decode cX8_drop 83 = .ok (.isub, 1) := by decide +kernel
theorem dX8_drop_84 : decode cX8_drop 84 = .ok (.ireturn, 1) := by decide +kernel
theorem dX8_undo_0 : decode cX8_undo 0 = .ok (.aload_n 0, 1) := by decide +kernel
theorem dX8_undo_1 : decode cX8_undo 1 = .ok (.getfield 34, 3) := by decide +kernel
theorem dX8_undo_4 : decode cX8_undo 4 = .ok (.getfield 161, 3) := by decide +kernel
theorem dX8_undo_7 : decode cX8_undo 7 = .ok (.ifCond .ne 5, 3) := by decide +kernel
theorem dX8_undo_10 : decode cX8_undo 10 = .ok (.iconst (-1), 1) := by decide +kernel
theorem dX8_undo_11 : decode cX8_undo 11 = .ok (.ireturn, 1) := by decide +kernel
theorem dX8_undo_12 : decode cX8_undo 12 = .ok (.aload_n 0, 1) := by decide +kernel
theorem dX8_undo_13 : decode cX8_undo 13 = .ok (.getfield 34, 3) := by decide +kernel
theorem dX8_undo_16 : decode cX8_undo 16 = .ok (.aload_n 0, 1) := by decide +kernel
theorem dX8_undo_17 : decode cX8_undo 17 = .ok (.getfield 27, 3) := by decide +kernel
theorem dX8_undo_20 : decode cX8_undo 20 = .ok (.invokevirtual 164, 3) := by decide +kernel
theorem dX8_undo_23 : decode cX8_undo 23 = .ok (.aload_n 0, 1) := by decide +kernel
theorem dX8_undo_24 : decode cX8_undo 24 = .ok (.getfield 34, 3) := by decide +kernel
theorem dX8_undo_27 : decode cX8_undo 27 = .ok (.getfield 161, 3) := by decide +kernel
theorem dX8_undo_30 : decode cX8_undo 30 = .ok (.ireturn, 1) := by decide +kernel
theorem dX8_told_0 : decode cX8_told 0 = .ok (.aload_n 0, 1) := by decide +kernel
theorem dX8_told_1 : decode cX8_told 1 = .ok (.iload_n 1, 1) := by decide +kernel
theorem dX8_told_2 : decode cX8_told 2 = .ok (.iconst 0, 1) := by decide +kernel
theorem dX8_told_3 : decode cX8_told 3 = .ok (.bipush 9, 2) := by decide +kernel
theorem dX8_told_5 : decode cX8_told 5 = .ok (.invokevirtual 84, 3) := by decide +kernel
theorem dX8_told_8 : decode cX8_told 8 = .ok (.iload_n 1, 1) := by decide +kernel
theorem dX8_told_9 : decode cX8_told 9 = .ok (.tableswitch 141 0 8 #[51, 59, 67, 75, 90, 105, 110, 118, 126], 51) := by decide +kernel
theorem dX8_told_60 : decode cX8_told 60 = .ok (.aload_n 0, 1) := by decide +kernel
theorem dX8_told_61 : decode cX8_told 61 = .ok (.getfield 27, 3) := by decide +kernel
theorem dX8_told_64 : decode cX8_told 64 = .ok (.getfield 111, 3) := by decide +kernel
theorem dX8_told_67 : decode cX8_told 67 = .ok (.ireturn, 1) := by decide +kernel
theorem dX8_told_68 : decode cX8_told 68 = .ok (.aload_n 0, 1) := by decide +kernel
theorem dX8_told_69 : decode cX8_told 69 = .ok (.getfield 27, 3) := by decide +kernel
theorem dX8_told_72 : decode cX8_told 72 = .ok (.getfield 167, 3) := by decide +kernel
theorem dX8_told_75 : decode cX8_told 75 = .ok (.ireturn, 1) := by decide +kernel
theorem dX8_told_76 : decode cX8_told 76 = .ok (.aload_n 0, 1) := by decide +kernel
theorem dX8_told_77 : decode cX8_told 77 = .ok (.getfield 27, 3) := by decide +kernel
theorem dX8_told_80 : decode cX8_told 80 = .ok (.getfield 102, 3) := by decide +kernel
theorem dX8_told_83 : decode cX8_told 83 = .ok (.ireturn, 1) := by decide +kernel
theorem dX8_told_84 : decode cX8_told 84 = .ok (.aload_n 0, 1) := by decide +kernel
theorem dX8_told_85 : decode cX8_told 85 = .ok (.getfield 27, 3) := by decide +kernel
theorem dX8_told_88 : decode cX8_told 88 = .ok (.aload_n 0, 1) := by decide +kernel
theorem dX8_told_89 : decode cX8_told 89 = .ok (.getfield 27, 3) := by decide +kernel
theorem dX8_told_92 : decode cX8_told 92 = .ok (.invokevirtual 170, 3) := by decide +kernel
theorem dX8_told_95 : decode cX8_told 95 = .ok (.invokevirtual 154, 3) := by decide +kernel
theorem dX8_told_98 : decode cX8_told 98 = .ok (.ireturn, 1) := by decide +kernel
theorem dX8_told_99 : decode cX8_told 99 = .ok (.aload_n 0, 1) := by decide +kernel
theorem dX8_told_100 : decode cX8_told 100 = .ok (.getfield 27, 3) := by decide +kernel
theorem dX8_told_103 : decode cX8_told 103 = .ok (.aload_n 0, 1) := by decide +kernel
theorem dX8_told_104 : decode cX8_told 104 = .ok (.getfield 27, 3) := by decide +kernel
theorem dX8_told_107 : decode cX8_told 107 = .ok (.invokevirtual 170, 3) := by decide +kernel
theorem dX8_told_110 : decode cX8_told 110 = .ok (.invokevirtual 174, 3) := by decide +kernel
theorem dX8_told_113 : decode cX8_told 113 = .ok (.ireturn, 1) := by decide +kernel
theorem dX8_told_114 : decode cX8_told 114 = .ok (.aload_n 0, 1) := by decide +kernel
theorem dX8_told_115 : decode cX8_told 115 = .ok (.getfield 13, 3) := by decide +kernel
theorem dX8_told_118 : decode cX8_told 118 = .ok (.ireturn, 1) := by decide +kernel
theorem dX8_told_119 : decode cX8_told 119 = .ok (.aload_n 0, 1) := by decide +kernel
theorem dX8_told_120 : decode cX8_told 120 = .ok (.getfield 34, 3) := by decide +kernel
theorem dX8_told_123 : decode cX8_told 123 = .ok (.getfield 161, 3) := by decide +kernel
theorem dX8_told_126 : decode cX8_told 126 = .ok (.ireturn, 1) := by decide +kernel
theorem dX8_told_127 : decode cX8_told 127 = .ok (.aload_n 0, 1) := by decide +kernel
theorem dX8_told_128 : decode cX8_told 128 = .ok (.getfield 27, 3) := by decide +kernel
theorem dX8_told_131 : decode cX8_told 131 = .ok (.getfield 133, 3) := by decide +kernel
theorem dX8_told_134 : decode cX8_told 134 = .ok (.ireturn, 1) := by decide +kernel
theorem dX8_told_135 : decode cX8_told 135 = .ok (.aload_n 0, 1) := by decide +kernel
theorem dX8_told_136 : decode cX8_told 136 = .ok (.getfield 27, 3) := by decide +kernel
theorem dX8_told_139 : decode cX8_told 139 = .ok (.aload_n 0, 1) := by decide +kernel
theorem dX8_told_140 : decode cX8_told 140 = .ok (.getfield 27, 3) := by decide +kernel
theorem dX8_told_143 : decode cX8_told 143 = .ok (.getfield 133, 3) := by decide +kernel
theorem dX8_told_146 : decode cX8_told 146 = .ok (.invokevirtual 154, 3) := by decide +kernel
theorem dX8_told_149 : decode cX8_told 149 = .ok (.ireturn, 1) := by decide +kernel
theorem dX8_told_150 : decode cX8_told 150 = .ok (.aload_n 0, 1) := by decide +kernel
theorem dX8_told_151 : decode cX8_told 151 = .ok (.getfield 27, 3) := by decide +kernel
theorem dX8_told_154 : decode cX8_told 154 = .ok (.aload_n 0, 1) := by decide +kernel
theorem dX8_told_155 : decode cX8_told 155 = .ok (.getfield 27, 3) := by decide +kernel
theorem dX8_told_158 : decode cX8_told 158 = .ok (.getfield 133, 3) := by decide +kernel
theorem dX8_told_161 : decode cX8_told 161 = .ok (.invokevirtual 174, 3) := by decide +kernel
theorem dX8_told_164 : decode cX8_told 164 = .ok (.ireturn, 1) := by decide +kernel
theorem dX8_sentence_0 : decode cX8_sentence 0 = .ok (.aload_n 0, 1) := by decide +kernel
theorem dX8_sentence_1 : decode cX8_sentence 1 = .ok (.iload_n 1, 1) := by decide +kernel
theorem dX8_sentence_2 : decode cX8_sentence 2 = .ok (.invokevirtual 130, 3) := by decide +kernel
theorem dX8_sentence_5 : decode cX8_sentence 5 = .ok (.aload_n 0, 1) := by decide +kernel
theorem dX8_sentence_6 : decode cX8_sentence 6 = .ok (.iload_n 2, 1) := by decide +kernel
theorem dX8_sentence_7 : decode cX8_sentence 7 = .ok (.iconst 0, 1) := by decide +kernel
theorem dX8_sentence_8 : decode cX8_sentence 8 = .ok (.bipush 7, 2) := by decide +kernel
theorem dX8_sentence_10 : decode cX8_sentence 10 = .ok (.invokevirtual 84, 3) := by decide +kernel
theorem dX8_sentence_13 : decode cX8_sentence 13 = .ok (.iload_n 2, 1) := by decide +kernel
theorem dX8_sentence_14 : decode cX8_sentence 14 = .ok (.tableswitch 134 0 6 #[42, 52, 62, 75, 92, 102, 118], 42) := by decide +kernel
theorem dX8_sentence_56 : decode cX8_sentence 56 = .ok (.aload_n 0, 1) := by decide +kernel
theorem dX8_sentence_57 : decode cX8_sentence 57 = .ok (.getfield 27, 3) := by decide +kernel
theorem dX8_sentence_60 : decode cX8_sentence 60 = .ok (.getfield 177, 3) := by decide +kernel
theorem dX8_sentence_63 : decode cX8_sentence 63 = .ok (.iload_n 1, 1) := by decide +kernel
theorem dX8_sentence_64 : decode cX8_sentence 64 = .ok (.iaload, 1) := by decide +kernel
theorem dX8_sentence_65 : decode cX8_sentence 65 = .ok (.ireturn, 1) := by decide +kernel
theorem dX8_sentence_66 : decode cX8_sentence 66 = .ok (.aload_n 0, 1) := by decide +kernel
theorem dX8_sentence_67 : decode cX8_sentence 67 = .ok (.getfield 27, 3) := by decide +kernel
theorem dX8_sentence_70 : decode cX8_sentence 70 = .ok (.getfield 180, 3) := by decide +kernel
theorem dX8_sentence_73 : decode cX8_sentence 73 = .ok (.iload_n 1, 1) := by decide +kernel
theorem dX8_sentence_74 : decode cX8_sentence 74 = .ok (.iaload, 1) := by decide +kernel
theorem dX8_sentence_75 : decode cX8_sentence 75 = .ok (.ireturn, 1) := by decide +kernel
theorem dX8_sentence_76 : decode cX8_sentence 76 = .ok (.aload_n 0, 1) := by decide +kernel
theorem dX8_sentence_77 : decode cX8_sentence 77 = .ok (.getfield 27, 3) := by decide +kernel
theorem dX8_sentence_80 : decode cX8_sentence 80 = .ok (.getfield 183, 3) := by decide +kernel
theorem dX8_sentence_83 : decode cX8_sentence 83 = .ok (.iload_n 1, 1) := by decide +kernel
theorem dX8_sentence_84 : decode cX8_sentence 84 = .ok (.laload, 1) := by decide +kernel
theorem dX8_sentence_85 : decode cX8_sentence 85 = .ok (.invokestatic 187, 3) := by decide +kernel
theorem dX8_sentence_88 : decode cX8_sentence 88 = .ok (.ireturn, 1) := by decide +kernel
theorem dX8_sentence_89 : decode cX8_sentence 89 = .ok (.aload_n 0, 1) := by decide +kernel
theorem dX8_sentence_90 : decode cX8_sentence 90 = .ok (.getfield 27, 3) := by decide +kernel
theorem dX8_sentence_93 : decode cX8_sentence 93 = .ok (.aload_n 0, 1) := by decide +kernel
theorem dX8_sentence_94 : decode cX8_sentence 94 = .ok (.getfield 27, 3) := by decide +kernel
theorem dX8_sentence_97 : decode cX8_sentence 97 = .ok (.getfield 183, 3) := by decide +kernel
theorem dX8_sentence_100 : decode cX8_sentence 100 = .ok (.iload_n 1, 1) := by decide +kernel
theorem dX8_sentence_101 : decode cX8_sentence 101 = .ok (.laload, 1) := by decide +kernel
theorem dX8_sentence_102 : decode cX8_sentence 102 = .ok (.invokevirtual 193, 3) := by decide +kernel
theorem dX8_sentence_105 : decode cX8_sentence 105 = .ok (.ireturn, 1) := by decide +kernel
theorem dX8_sentence_106 : decode cX8_sentence 106 = .ok (.aload_n 0, 1) := by decide +kernel
theorem dX8_sentence_107 : decode cX8_sentence 107 = .ok (.getfield 27, 3) := by decide +kernel
theorem dX8_sentence_110 : decode cX8_sentence 110 = .ok (.getfield 148, 3) := by decide +kernel
theorem dX8_sentence_113 : decode cX8_sentence 113 = .ok (.iload_n 1, 1) := by decide +kernel
theorem dX8_sentence_114 : decode cX8_sentence 114 = .ok (.iaload, 1) := by decide +kernel
theorem dX8_sentence_115 : decode cX8_sentence 115 = .ok (.ireturn, 1) := by decide +kernel
theorem dX8_sentence_116 : decode cX8_sentence 116 = .ok (.aload_n 0, 1) := by decide +kernel
theorem dX8_sentence_117 : decode cX8_sentence 117 = .ok (.getfield 27, 3) := by decide +kernel
theorem dX8_sentence_120 : decode cX8_sentence 120 = .ok (.iload_n 1, 1) := by decide +kernel
theorem dX8_sentence_121 : decode cX8_sentence 121 = .ok (.aload_n 0, 1) := by decide +kernel
theorem dX8_sentence_122 : decode cX8_sentence 122 = .ok (.getfield 27, 3) := by decide +kernel
theorem dX8_sentence_125 : decode cX8_sentence 125 = .ok (.getfield 133, 3) := by decide +kernel
theorem dX8_sentence_128 : decode cX8_sentence 128 = .ok (.invokevirtual 144, 3) := by decide +kernel
theorem dX8_sentence_131 : decode cX8_sentence 131 = .ok (.ireturn, 1) := by decide +kernel
theorem dX8_sentence_132 : decode cX8_sentence 132 = .ok (.aload_n 0, 1) := by decide +kernel
theorem dX8_sentence_133 : decode cX8_sentence 133 = .ok (.getfield 27, 3) := by decide +kernel
theorem dX8_sentence_136 : decode cX8_sentence 136 = .ok (.iload_n 1, 1) := by decide +kernel
theorem dX8_sentence_137 : decode cX8_sentence 137 = .ok (.aload_n 0, 1) := by decide +kernel
theorem dX8_sentence_138 : decode cX8_sentence 138 = .ok (.getfield 27, 3) := by decide +kernel
theorem dX8_sentence_141 : decode cX8_sentence 141 = .ok (.getfield 133, 3) := by decide +kernel
theorem dX8_sentence_144 : decode cX8_sentence 144 = .ok (.invokevirtual 196, 3) := by decide +kernel
theorem dX8_sentence_147 : decode cX8_sentence 147 = .ok (.ireturn, 1) := by decide +kernel
theorem dX8_sentence_148 : decode cX8_sentence 148 = .ok (.aload_n 0, 1) := by decide +kernel
theorem dX8_sentence_149 : decode cX8_sentence 149 = .ok (.getfield 27, 3) := by decide +kernel
theorem dX8_sentence_152 : decode cX8_sentence 152 = .ok (.iload_n 1, 1) := by decide +kernel
theorem dX8_sentence_153 : decode cX8_sentence 153 = .ok (.aload_n 0, 1) := by decide +kernel
theorem dX8_sentence_154 : decode cX8_sentence 154 = .ok (.getfield 27, 3) := by decide +kernel
theorem dX8_sentence_157 : decode cX8_sentence 157 = .ok (.getfield 133, 3) := by decide +kernel
theorem dX8_sentence_160 : decode cX8_sentence 160 = .ok (.invokevirtual 136, 3) := by decide +kernel
theorem dX8_sentence_163 : decode cX8_sentence 163 = .ok (.ifCond .eq 7, 3) := by decide +kernel
theorem dX8_sentence_166 : decode cX8_sentence 166 = .ok (.iconst 1, 1) := by decide +kernel
theorem dX8_sentence_167 : decode cX8_sentence 167 = .ok (.goto 4, 3) := by decide +kernel
theorem dX8_sentence_170 : decode cX8_sentence 170 = .ok (.iconst 0, 1) := by decide +kernel
theorem dX8_sentence_171 : decode cX8_sentence 171 = .ok (.ireturn, 1) := by decide +kernel
theorem dX8_words_0 : decode cX8_words 0 = .ok (.aload_n 0, 1) := by decide +kernel
theorem dX8_words_1 : decode cX8_words 1 = .ok (.iload_n 1, 1) := by decide +kernel
theorem dX8_words_2 : decode cX8_words 2 = .ok (.invokevirtual 130, 3) := by decide +kernel
theorem dX8_words_5 : decode cX8_words 5 = .ok (.aload_n 0, 1) := by decide +kernel
theorem dX8_words_6 : decode cX8_words 6 = .ok (.getfield 27, 3) := by decide +kernel
theorem dX8_words_9 : decode cX8_words 9 = .ok (.getfield 183, 3) := by decide +kernel
theorem dX8_words_12 : decode cX8_words 12 = .ok (.iload_n 1, 1) := by decide +kernel
theorem dX8_words_13 : decode cX8_words 13 = .ok (.laload, 1) := by decide +kernel
theorem dX8_words_14 : decode cX8_words 14 = .ok (.lreturn, 1) := by decide +kernel
theorem dX8_word_0 : decode cX8_word 0 = .ok (.aload_n 0, 1) := by decide +kernel
theorem dX8_word_1 : decode cX8_word 1 = .ok (.iload_n 1, 1) := by decide +kernel
theorem dX8_word_2 : decode cX8_word 2 = .ok (.invokevirtual 114, 3) := by decide +kernel
theorem dX8_word_5 : decode cX8_word 5 = .ok (.aload_n 0, 1) := by decide +kernel
theorem dX8_word_6 : decode cX8_word 6 = .ok (.iload_n 2, 1) := by decide +kernel
theorem dX8_word_7 : decode cX8_word 7 = .ok (.iconst 0, 1) := by decide +kernel
theorem dX8_word_8 : decode cX8_word 8 = .ok (.iconst 3, 1) := by decide +kernel
theorem dX8_word_9 : decode cX8_word 9 = .ok (.invokevirtual 84, 3) := by decide +kernel
theorem dX8_word_12 : decode cX8_word 12 = .ok (.iload_n 2, 1) := by decide +kernel
theorem dX8_word_13 : decode cX8_word 13 = .ok (.tableswitch 55 0 2 #[27, 37, 46], 27) := by decide +kernel
theorem dX8_word_40 : decode cX8_word 40 = .ok (.aload_n 0, 1) := by decide +kernel
theorem dX8_word_41 : decode cX8_word 41 = .ok (.getfield 27, 3) := by decide +kernel
theorem dX8_word_44 : decode cX8_word 44 = .ok (.getfield 117, 3) := by decide +kernel
theorem dX8_word_47 : decode cX8_word 47 = .ok (.iload_n 1, 1) := by decide +kernel
theorem dX8_word_48 : decode cX8_word 48 = .ok (.iaload, 1) := by decide +kernel
theorem dX8_word_49 : decode cX8_word 49 = .ok (.ireturn, 1) := by decide +kernel
theorem dX8_word_50 : decode cX8_word 50 = .ok (.aload_n 0, 1) := by decide +kernel
theorem dX8_word_51 : decode cX8_word 51 = .ok (.getfield 27, 3) := by decide +kernel
theorem dX8_word_54 : decode cX8_word 54 = .ok (.iload_n 1, 1) := by decide +kernel
theorem dX8_word_55 : decode cX8_word 55 = .ok (.invokevirtual 199, 3) := by decide +kernel
theorem dX8_word_58 : decode cX8_word 58 = .ok (.ireturn, 1) := by decide +kernel
theorem dX8_word_59 : decode cX8_word 59 = .ok (.aload_n 0, 1) := by decide +kernel
theorem dX8_word_60 : decode cX8_word 60 = .ok (.getfield 27, 3) := by decide +kernel
theorem dX8_word_63 : decode cX8_word 63 = .ok (.iload_n 1, 1) := by decide +kernel
theorem dX8_word_64 : decode cX8_word 64 = .ok (.invokevirtual 202, 3) := by decide +kernel
theorem dX8_word_67 : decode cX8_word 67 = .ok (.ireturn, 1) := by decide +kernel
theorem dX8_word_68 : decode cX8_word 68 = .ok (.aload_n 0, 1) := by decide +kernel
theorem dX8_word_69 : decode cX8_word 69 = .ok (.getfield 27, 3) := by decide +kernel
theorem dX8_word_72 : decode cX8_word 72 = .ok (.iload_n 1, 1) := by decide +kernel
theorem dX8_word_73 : decode cX8_word 73 = .ok (.invokevirtual 120, 3) := by decide +kernel
theorem dX8_word_76 : decode cX8_word 76 = .ok (.ifCond .eq 7, 3) := by decide +kernel
theorem dX8_word_79 : decode cX8_word 79 = .ok (.iconst 1, 1) := by decide +kernel
theorem dX8_word_80 : decode cX8_word 80 = .ok (.goto 4, 3) := by decide +kernel
theorem dX8_word_83 : decode cX8_word 83 = .ok (.iconst 0, 1) := by decide +kernel
theorem dX8_word_84 : decode cX8_word 84 = .ok (.ireturn, 1) := by decide +kernel
theorem dX8_letter_0 : decode cX8_letter 0 = .ok (.aload_n 0, 1) := by decide +kernel
theorem dX8_letter_1 : decode cX8_letter 1 = .ok (.iload_n 1, 1) := by decide +kernel
theorem dX8_letter_2 : decode cX8_letter 2 = .ok (.invokevirtual 114, 3) := by decide +kernel
theorem dX8_letter_5 : decode cX8_letter 5 = .ok (.aload_n 0, 1) := by decide +kernel
theorem dX8_letter_6 : decode cX8_letter 6 = .ok (.iload_n 2, 1) := by decide +kernel
theorem dX8_letter_7 : decode cX8_letter 7 = .ok (.ifCond .lt 19, 3) := by decide +kernel
theorem dX8_letter_10 : decode cX8_letter 10 = .ok (.iload_n 2, 1) := by decide +kernel
theorem dX8_letter_11 : decode cX8_letter 11 = .ok (.aload_n 0, 1) := by decide +kernel
theorem dX8_letter_12 : decode cX8_letter 12 = .ok (.getfield 27, 3) := by decide +kernel
theorem dX8_letter_15 : decode cX8_letter 15 = .ok (.iload_n 1, 1) := by decide +kernel
theorem dX8_letter_16 : decode cX8_letter 16 = .ok (.invokevirtual 199, 3) := by decide +kernel
theorem dX8_letter_19 : decode cX8_letter 19 = .ok (.if_icmp .ge 7, 3) := by decide +kernel
theorem dX8_letter_22 : decode cX8_letter 22 = .ok (.iconst 1, 1) := by decide +kernel
theorem dX8_letter_23 : decode cX8_letter 23 = .ok (.goto 4, 3) := by decide +kernel
theorem dX8_letter_26 : decode cX8_letter 26 = .ok (.iconst 0, 1) := by decide +kernel
theorem dX8_letter_27 : decode cX8_letter 27 = .ok (.invokevirtual 205, 3) := by decide +kernel
theorem dX8_letter_30 : decode cX8_letter 30 = .ok (.aload_n 0, 1) := by decide +kernel
theorem dX8_letter_31 : decode cX8_letter 31 = .ok (.getfield 27, 3) := by decide +kernel
theorem dX8_letter_34 : decode cX8_letter 34 = .ok (.iload_n 1, 1) := by decide +kernel
theorem dX8_letter_35 : decode cX8_letter 35 = .ok (.iload_n 2, 1) := by decide +kernel
theorem dX8_letter_36 : decode cX8_letter 36 = .ok (.invokevirtual 208, 3) := by decide +kernel
theorem dX8_letter_39 : decode cX8_letter 39 = .ok (.ireturn, 1) := by decide +kernel
theorem dX8_greedy_0 : decode cX8_greedy 0 = .ok (.aload_n 0, 1) := by decide +kernel
theorem dX8_greedy_1 : decode cX8_greedy 1 = .ok (.iload_n 1, 1) := by decide +kernel
theorem dX8_greedy_2 : decode cX8_greedy 2 = .ok (.iconst 0, 1) := by decide +kernel
theorem dX8_greedy_3 : decode cX8_greedy 3 = .ok (.iconst 2, 1) := by decide +kernel
theorem dX8_greedy_4 : decode cX8_greedy 4 = .ok (.invokevirtual 84, 3) := by decide +kernel
theorem dX8_greedy_7 : decode cX8_greedy 7 = .ok (.aload_n 0, 1) := by decide +kernel
theorem dX8_greedy_8 : decode cX8_greedy 8 = .ok (.iload_n 2, 1) := by decide +kernel
theorem dX8_greedy_9 : decode cX8_greedy 9 = .ok (.iconst 0, 1) := by decide +kernel
theorem dX8_greedy_10 : decode cX8_greedy 10 = .ok (.iconst 3, 1) := by decide +kernel
theorem dX8_greedy_11 : decode cX8_greedy 11 = .ok (.invokevirtual 84, 3) := by decide +kernel
theorem dX8_greedy_14 : decode cX8_greedy 14 = .ok (.aload_n 0, 1) := by decide +kernel
theorem dX8_greedy_15 : decode cX8_greedy 15 = .ok (.getfield 48, 3) := by decide +kernel
theorem dX8_greedy_18 : decode cX8_greedy 18 = .ok (.aload_n 0, 1) := by decide +kernel
theorem dX8_greedy_19 : decode cX8_greedy 19 = .ok (.getfield 27, 3) := by decide +kernel
theorem dX8_greedy_22 : decode cX8_greedy 22 = .ok (.iload_n 1, 1) := by decide +kernel
theorem dX8_greedy_23 : decode cX8_greedy 23 = .ok (.invokevirtual 211, 3) := by decide +kernel
theorem dX8_greedy_26 : decode cX8_greedy 26 = .ok (.iload_n 2, 1) := by decide +kernel
theorem dX8_greedy_27 : decode cX8_greedy 27 = .ok (.tableswitch 63 0 2 #[25, 33, 48], 25) := by decide +kernel
theorem dX8_greedy_52 : decode cX8_greedy 52 = .ok (.aload_n 0, 1) := by decide +kernel
theorem dX8_greedy_53 : decode cX8_greedy 53 = .ok (.getfield 48, 3) := by decide +kernel
theorem dX8_greedy_56 : decode cX8_greedy 56 = .ok (.getfield 215, 3) := by decide +kernel
theorem dX8_greedy_59 : decode cX8_greedy 59 = .ok (.ireturn, 1) := by decide +kernel
theorem dX8_greedy_60 : decode cX8_greedy 60 = .ok (.aload_n 0, 1) := by decide +kernel
theorem dX8_greedy_61 : decode cX8_greedy 61 = .ok (.getfield 27, 3) := by decide +kernel
theorem dX8_greedy_64 : decode cX8_greedy 64 = .ok (.aload_n 0, 1) := by decide +kernel
theorem dX8_greedy_65 : decode cX8_greedy 65 = .ok (.getfield 48, 3) := by decide +kernel
theorem dX8_greedy_68 : decode cX8_greedy 68 = .ok (.getfield 215, 3) := by decide +kernel
theorem dX8_greedy_71 : decode cX8_greedy 71 = .ok (.invokevirtual 154, 3) := by decide +kernel
theorem dX8_greedy_74 : decode cX8_greedy 74 = .ok (.ireturn, 1) := by decide +kernel
theorem dX8_greedy_75 : decode cX8_greedy 75 = .ok (.aload_n 0, 1) := by decide +kernel
theorem dX8_greedy_76 : decode cX8_greedy 76 = .ok (.getfield 27, 3) := by decide +kernel
theorem dX8_greedy_79 : decode cX8_greedy 79 = .ok (.aload_n 0, 1) := by decide +kernel
theorem dX8_greedy_80 : decode cX8_greedy 80 = .ok (.getfield 48, 3) := by decide +kernel
theorem dX8_greedy_83 : decode cX8_greedy 83 = .ok (.getfield 215, 3) := by decide +kernel
theorem dX8_greedy_86 : decode cX8_greedy 86 = .ok (.invokevirtual 174, 3) := by decide +kernel
theorem dX8_greedy_89 : decode cX8_greedy 89 = .ok (.ireturn, 1) := by decide +kernel
theorem dX8_greedy_90 : decode cX8_greedy 90 = .ok (.aload_n 0, 1) := by decide +kernel
theorem dX8_greedy_91 : decode cX8_greedy 91 = .ok (.getfield 48, 3) := by decide +kernel
theorem dX8_greedy_94 : decode cX8_greedy 94 = .ok (.getfield 218, 3) := by decide +kernel
theorem dX8_greedy_97 : decode cX8_greedy 97 = .ok (.ireturn, 1) := by decide +kernel
theorem dX8_step_0 : decode cX8_step 0 = .ok (.aload_n 0, 1) := by decide +kernel
theorem dX8_step_1 : decode cX8_step 1 = .ok (.iload_n 1, 1) := by decide +kernel
theorem dX8_step_2 : decode cX8_step 2 = .ok (.iconst 0, 1) := by decide +kernel
theorem dX8_step_3 : decode cX8_step 3 = .ok (.iconst 2, 1) := by decide +kernel
theorem dX8_step_4 : decode cX8_step 4 = .ok (.invokevirtual 84, 3) := by decide +kernel
theorem dX8_step_7 : decode cX8_step 7 = .ok (.aload_n 0, 1) := by decide +kernel
theorem dX8_step_8 : decode cX8_step 8 = .ok (.getfield 48, 3) := by decide +kernel
theorem dX8_step_11 : decode cX8_step 11 = .ok (.aload_n 0, 1) := by decide +kernel
theorem dX8_step_12 : decode cX8_step 12 = .ok (.getfield 27, 3) := by decide +kernel
theorem dX8_step_15 : decode cX8_step 15 = .ok (.iload_n 1, 1) := by decide +kernel
theorem dX8_step_16 : decode cX8_step 16 = .ok (.invokevirtual 211, 3) := by decide +kernel
theorem dX8_step_19 : decode cX8_step 19 = .ok (.aload_n 0, 1) := by decide +kernel
theorem dX8_step_20 : decode cX8_step 20 = .ok (.iload_n 2, 1) := by decide +kernel
theorem dX8_step_21 : decode cX8_step 21 = .ok (.ifCond .lt 18, 3) := by decide +kernel
theorem dX8_step_24 : decode cX8_step 24 = .ok (.iload_n 2, 1) := by decide +kernel
theorem dX8_step_25 : decode cX8_step 25 = .ok (.aload_n 0, 1) := by decide +kernel
theorem dX8_step_26 : decode cX8_step 26 = .ok (.getfield 48, 3) := by decide +kernel
theorem dX8_step_29 : decode cX8_step 29 = .ok (.getfield 218, 3) := by decide +kernel
theorem dX8_step_32 : decode cX8_step 32 = .ok (.if_icmp .ge 7, 3) := by decide +kernel
theorem dX8_step_35 : decode cX8_step 35 = .ok (.iconst 1, 1) := by decide +kernel
theorem dX8_step_36 : decode cX8_step 36 = .ok (.goto 4, 3) := by decide +kernel
theorem dX8_step_39 : decode cX8_step 39 = .ok (.iconst 0, 1) := by decide +kernel
theorem dX8_step_40 : decode cX8_step 40 = .ok (.invokevirtual 205, 3) := by decide +kernel
theorem dX8_step_43 : decode cX8_step 43 = .ok (.aload_n 0, 1) := by decide +kernel
theorem dX8_step_44 : decode cX8_step 44 = .ok (.getfield 48, 3) := by decide +kernel
theorem dX8_step_47 : decode cX8_step 47 = .ok (.getfield 221, 3) := by decide +kernel
theorem dX8_step_50 : decode cX8_step 50 = .ok (.iload_n 2, 1) := by decide +kernel
theorem dX8_step_51 : decode cX8_step 51 = .ok (.iaload, 1) := by decide +kernel
theorem dX8_step_52 : decode cX8_step 52 = .ok (.ireturn, 1) := by decide +kernel
theorem dX8_lazy_0 : decode cX8_lazy 0 = .ok (.aload_n 0, 1) := by decide +kernel
theorem dX8_lazy_1 : decode cX8_lazy 1 = .ok (.iload_n 1, 1) := by decide +kernel
theorem dX8_lazy_2 : decode cX8_lazy 2 = .ok (.iconst 0, 1) := by decide +kernel
theorem dX8_lazy_3 : decode cX8_lazy 3 = .ok (.iconst 2, 1) := by decide +kernel
theorem dX8_lazy_4 : decode cX8_lazy 4 = .ok (.invokevirtual 84, 3) := by decide +kernel
theorem dX8_lazy_7 : decode cX8_lazy 7 = .ok (.iload_n 1, 1) := by decide +kernel
theorem dX8_lazy_8 : decode cX8_lazy 8 = .ok (.iconst 2, 1) := by decide +kernel
theorem dX8_lazy_9 : decode cX8_lazy 9 = .ok (.if_icmp .ne 23, 3) := by decide +kernel
theorem dX8_lazy_12 : decode cX8_lazy 12 = .ok (.aload_n 0, 1) := by decide +kernel
theorem dX8_lazy_13 : decode cX8_lazy 13 = .ok (.getfield 48, 3) := by decide +kernel
theorem dX8_lazy_16 : decode cX8_lazy 16 = .ok (.aload_n 0, 1) := by decide +kernel
theorem dX8_lazy_17 : decode cX8_lazy 17 = .ok (.getfield 27, 3) := by decide +kernel
theorem dX8_lazy_20 : decode cX8_lazy 20 = .ok (.iconst 1, 1) := by decide +kernel
theorem dX8_lazy_21 : decode cX8_lazy 21 = .ok (.invokevirtual 211, 3) := by decide +kernel
theorem dX8_lazy_24 : decode cX8_lazy 24 = .ok (.aload_n 0, 1) := by decide +kernel
theorem dX8_lazy_25 : decode cX8_lazy 25 = .ok (.getfield 48, 3) := by decide +kernel
theorem dX8_lazy_28 : decode cX8_lazy 28 = .ok (.getfield 224, 3) := by decide +kernel
theorem dX8_lazy_31 : decode cX8_lazy 31 = .ok (.ireturn, 1) := by decide +kernel
theorem dX8_lazy_32 : decode cX8_lazy 32 = .ok (.aload_n 0, 1) := by decide +kernel
theorem dX8_lazy_33 : decode cX8_lazy 33 = .ok (.getfield 55, 3) := by decide +kernel
theorem dX8_lazy_36 : decode cX8_lazy 36 = .ok (.aload_n 0, 1) := by decide +kernel
theorem dX8_lazy_37 : decode cX8_lazy 37 = .ok (.getfield 27, 3) := by decide +kernel
theorem dX8_lazy_40 : decode cX8_lazy 40 = .ok (.invokevirtual 227, 3) := by decide +kernel
theorem dX8_lazy_43 : decode cX8_lazy 43 = .ok (.iload_n 1, 1) := by decide +kernel
theorem dX8_lazy_44 : decode cX8_lazy 44 = .ok (.ifCond .ne 13, 3) := by decide +kernel
theorem dX8_lazy_47 : decode cX8_lazy 47 = .ok (.aload_n 0, 1) := by decide +kernel
theorem dX8_lazy_48 : decode cX8_lazy 48 = .ok (.getfield 55, 3) := by decide +kernel
theorem dX8_lazy_51 : decode cX8_lazy 51 = .ok (.getfield 229, 3) := by decide +kernel
theorem dX8_lazy_54 : decode cX8_lazy 54 = .ok (.goto 10, 3) := by decide +kernel
theorem dX8_lazy_57 : decode cX8_lazy 57 = .ok (.aload_n 0, 1) := by decide +kernel
theorem dX8_lazy_58 : decode cX8_lazy 58 = .ok (.getfield 55, 3) := by decide +kernel
theorem dX8_lazy_61 : decode cX8_lazy 61 = .ok (.getfield 230, 3) := by decide +kernel
theorem dX8_lazy_64 : decode cX8_lazy 64 = .ok (.ireturn, 1) := by decide +kernel
theorem dX8_bound_0 : decode cX8_bound 0 = .ok (.aload_n 0, 1) := by decide +kernel
theorem dX8_bound_1 : decode cX8_bound 1 = .ok (.iload_n 1, 1) := by decide +kernel
theorem dX8_bound_2 : decode cX8_bound 2 = .ok (.iconst 0, 1) := by decide +kernel
theorem dX8_bound_3 : decode cX8_bound 3 = .ok (.iconst 3, 1) := by decide +kernel
theorem dX8_bound_4 : decode cX8_bound 4 = .ok (.invokevirtual 84, 3) := by decide +kernel
theorem dX8_bound_7 : decode cX8_bound 7 = .ok (.iload_n 1, 1) := by decide +kernel
theorem dX8_bound_8 : decode cX8_bound 8 = .ok (.ifCond .ne 13, 3) := by decide +kernel
theorem dX8_bound_11 : decode cX8_bound 11 = .ok (.aload_n 0, 1) := by decide +kernel
theorem dX8_bound_12 : decode cX8_bound 12 = .ok (.getfield 27, 3) := by decide +kernel
theorem dX8_bound_15 : decode cX8_bound 15 = .ok (.iconst 0, 1) := by decide +kernel
theorem dX8_bound_16 : decode cX8_bound 16 = .ok (.iconst 0, 1) := by decide +kernel
theorem dX8_bound_17 : decode cX8_bound 17 = .ok (.invokestatic 231, 3) := by decide +kernel
theorem dX8_bound_20 : decode cX8_bound 20 = .ok (.ireturn, 1) := by decide +kernel
theorem dX8_bound_21 : decode cX8_bound 21 = .ok (.aload_n 0, 1) := by decide +kernel
theorem dX8_bound_22 : decode cX8_bound 22 = .ok (.getfield 48, 3) := by decide +kernel
theorem dX8_bound_25 : decode cX8_bound 25 = .ok (.aload_n 0, 1) := by decide +kernel
theorem dX8_bound_26 : decode cX8_bound 26 = .ok (.getfield 27, 3) := by decide +kernel
theorem dX8_bound_29 : decode cX8_bound 29 = .ok (.iconst 1, 1) := by decide +kernel
theorem dX8_bound_30 : decode cX8_bound 30 = .ok (.invokevirtual 211, 3) := by decide +kernel
theorem dX8_bound_33 : decode cX8_bound 33 = .ok (.aload_n 0, 1) := by decide +kernel
theorem dX8_bound_34 : decode cX8_bound 34 = .ok (.getfield 62, 3) := by decide +kernel
theorem dX8_bound_37 : decode cX8_bound 37 = .ok (.aload_n 0, 1) := by decide +kernel
theorem dX8_bound_38 : decode cX8_bound 38 = .ok (.getfield 27, 3) := by decide +kernel
theorem dX8_bound_41 : decode cX8_bound 41 = .ok (.aload_n 0, 1) := by decide +kernel
theorem dX8_bound_42 : decode cX8_bound 42 = .ok (.getfield 48, 3) := by decide +kernel
theorem dX8_bound_45 : decode cX8_bound 45 = .ok (.invokevirtual 235, 3) := by decide +kernel
theorem dX8_bound_48 : decode cX8_bound 48 = .ok (.iload_n 1, 1) := by decide +kernel
theorem dX8_bound_49 : decode cX8_bound 49 = .ok (.iconst 1, 1) := by decide +kernel
theorem dX8_bound_50 : decode cX8_bound 50 = .ok (.if_icmp .ne 11, 3) := by decide +kernel
theorem dX8_bound_53 : decode cX8_bound 53 = .ok (.aload_n 0, 1) := by decide +kernel
theorem dX8_bound_54 : decode cX8_bound 54 = .ok (.getfield 62, 3) := by decide +kernel
theorem dX8_bound_57 : decode cX8_bound 57 = .ok (.getfield 238, 3) := by decide +kernel
theorem dX8_bound_60 : decode cX8_bound 60 = .ok (.ireturn, 1) := by decide +kernel
theorem dX8_bound_61 : decode cX8_bound 61 = .ok (.iload_n 1, 1) := by decide +kernel
theorem dX8_bound_62 : decode cX8_bound 62 = .ok (.iconst 2, 1) := by decide +kernel
theorem dX8_bound_63 : decode cX8_bound 63 = .ok (.if_icmp .ne 11, 3) := by decide +kernel
theorem dX8_bound_66 : decode cX8_bound 66 = .ok (.aload_n 0, 1) := by decide +kernel
theorem dX8_bound_67 : decode cX8_bound 67 = .ok (.getfield 62, 3) := by decide +kernel
theorem dX8_bound_70 : decode cX8_bound 70 = .ok (.getfield 241, 3) := by decide +kernel
theorem dX8_bound_73 : decode cX8_bound 73 = .ok (.ireturn, 1) := by decide +kernel
theorem dX8_bound_74 : decode cX8_bound 74 = .ok (.aload_n 0, 1) := by decide +kernel
theorem dX8_bound_75 : decode cX8_bound 75 = .ok (.getfield 62, 3) := by decide +kernel
theorem dX8_bound_78 : decode cX8_bound 78 = .ok (.getfield 238, 3) := by decide +kernel
theorem dX8_bound_81 : decode cX8_bound 81 = .ok (.ifCond .ne 7, 3) := by decide +kernel
theorem dX8_bound_84 : decode cX8_bound 84 = .ok (.sipush 1000, 3) := by decide +kernel
theorem dX8_bound_87 : decode cX8_bound 87 = .ok (.ireturn, 1) := by decide +kernel
theorem dX8_bound_88 : decode cX8_bound 88 = .ok (.aload_n 0, 1) := by decide +kernel
theorem dX8_bound_89 : decode cX8_bound 89 = .ok (.getfield 48, 3) := by decide +kernel
theorem dX8_bound_92 : decode cX8_bound 92 = .ok (.aload_n 0, 1) := by decide +kernel
theorem dX8_bound_93 : decode cX8_bound 93 = .ok (.getfield 27, 3) := by decide +kernel
theorem dX8_bound_96 : decode cX8_bound 96 = .ok (.iconst 2, 1) := by decide +kernel
theorem dX8_bound_97 : decode cX8_bound 97 = .ok (.invokevirtual 211, 3) := by decide +kernel
theorem dX8_bound_100 : decode cX8_bound 100 = .ok (.aload_n 0, 1) := by decide +kernel
theorem dX8_bound_101 : decode cX8_bound 101 = .ok (.getfield 27, 3) := by decide +kernel
theorem dX8_bound_104 : decode cX8_bound 104 = .ok (.aload_n 0, 1) := by decide +kernel
theorem dX8_bound_105 : decode cX8_bound 105 = .ok (.getfield 48, 3) := by decide +kernel
theorem dX8_bound_108 : decode cX8_bound 108 = .ok (.getfield 215, 3) := by decide +kernel
theorem dX8_bound_111 : decode cX8_bound 111 = .ok (.invokevirtual 154, 3) := by decide +kernel
theorem dX8_bound_114 : decode cX8_bound 114 = .ok (.sipush 1000, 3) := by decide +kernel
theorem dX8_bound_117 : decode cX8_bound 117 = .ok (.imul, 1) := by decide +kernel
theorem dX8_bound_118 : decode cX8_bound 118 = .ok (.aload_n 0, 1) := by decide +kernel
theorem dX8_bound_119 : decode cX8_bound 119 = .ok (.getfield 62, 3) := by decide +kernel
theorem dX8_bound_122 : decode cX8_bound 122 = .ok (.getfield 238, 3) := by decide +kernel
theorem dX8_bound_125 : decode cX8_bound 125 = .ok (.idiv, 1) := by decide +kernel
theorem dX8_bound_126 : decode cX8_bound 126 = .ok (.ireturn, 1) := by decide +kernel
theorem dX8_best_0 : decode cX8_best 0 = .ok (.aload_n 0, 1) := by decide +kernel
theorem dX8_best_1 : decode cX8_best 1 = .ok (.iload_n 1, 1) := by decide +kernel
theorem dX8_best_2 : decode cX8_best 2 = .ok (.iconst 0, 1) := by decide +kernel
theorem dX8_best_3 : decode cX8_best 3 = .ok (.sipush 9999, 3) := by decide +kernel
theorem dX8_best_6 : decode cX8_best 6 = .ok (.invokevirtual 84, 3) := by decide +kernel
theorem dX8_best_9 : decode cX8_best 9 = .ok (.aload_n 0, 1) := by decide +kernel
theorem dX8_best_10 : decode cX8_best 10 = .ok (.iload_n 2, 1) := by decide +kernel
theorem dX8_best_11 : decode cX8_best 11 = .ok (.iconst 0, 1) := by decide +kernel
theorem dX8_best_12 : decode cX8_best 12 = .ok (.iconst 2, 1) := by decide +kernel
theorem dX8_best_13 : decode cX8_best 13 = .ok (.invokevirtual 84, 3) := by decide +kernel
theorem dX8_best_16 : decode cX8_best 16 = .ok (.aload_n 0, 1) := by decide +kernel
theorem dX8_best_17 : decode cX8_best 17 = .ok (.getfield 69, 3) := by decide +kernel
theorem dX8_best_20 : decode cX8_best 20 = .ok (.aload_n 0, 1) := by decide +kernel
theorem dX8_best_21 : decode cX8_best 21 = .ok (.getfield 27, 3) := by decide +kernel
theorem dX8_best_24 : decode cX8_best 24 = .ok (.iload_n 1, 1) := by decide +kernel
theorem dX8_best_25 : decode cX8_best 25 = .ok (.iconst (-1), 1) := by decide +kernel
theorem dX8_best_26 : decode cX8_best 26 = .ok (.invokevirtual 244, 3) := by decide +kernel
theorem dX8_best_29 : decode cX8_best 29 = .ok (.iload_n 2, 1) := by decide +kernel
theorem dX8_best_30 : decode cX8_best 30 = .ok (.ifCond .ne 11, 3) := by decide +kernel
theorem dX8_best_33 : decode cX8_best 33 = .ok (.aload_n 0, 1) := by decide +kernel
theorem dX8_best_34 : decode cX8_best 34 = .ok (.getfield 69, 3) := by decide +kernel
theorem dX8_best_37 : decode cX8_best 37 = .ok (.getfield 248, 3) := by decide +kernel
theorem dX8_best_40 : decode cX8_best 40 = .ok (.ireturn, 1) := by decide +kernel
theorem dX8_best_41 : decode cX8_best 41 = .ok (.iload_n 2, 1) := by decide +kernel
theorem dX8_best_42 : decode cX8_best 42 = .ok (.iconst 1, 1) := by decide +kernel
theorem dX8_best_43 : decode cX8_best 43 = .ok (.if_icmp .ne 13, 3) := by decide +kernel
theorem dX8_best_46 : decode cX8_best 46 = .ok (.aload_n 0, 1) := by decide +kernel
theorem dX8_best_47 : decode cX8_best 47 = .ok (.getfield 69, 3) := by decide +kernel
theorem dX8_best_50 : decode cX8_best 50 = .ok (.getfield 249, 3) := by decide +kernel
theorem dX8_best_53 : decode cX8_best 53 = .ok (.goto 10, 3) := by decide +kernel
theorem dX8_best_56 : decode cX8_best 56 = .ok (.aload_n 0, 1) := by decide +kernel
theorem dX8_best_57 : decode cX8_best 57 = .ok (.getfield 69, 3) := by decide +kernel
theorem dX8_best_60 : decode cX8_best 60 = .ok (.getfield 252, 3) := by decide +kernel
theorem dX8_best_63 : decode cX8_best 63 = .ok (.ireturn, 1) := by decide +kernel
theorem dX8_fewest_0 : decode cX8_fewest 0 = .ok (.aload_n 0, 1) := by decide +kernel
theorem dX8_fewest_1 : decode cX8_fewest 1 = .ok (.iload_n 1, 1) := by decide +kernel
theorem dX8_fewest_2 : decode cX8_fewest 2 = .ok (.iconst 0, 1) := by decide +kernel
theorem dX8_fewest_3 : decode cX8_fewest 3 = .ok (.iconst 2, 1) := by decide +kernel
theorem dX8_fewest_4 : decode cX8_fewest 4 = .ok (.invokevirtual 84, 3) := by decide +kernel
theorem dX8_fewest_7 : decode cX8_fewest 7 = .ok (.aload_n 0, 1) := by decide +kernel
theorem dX8_fewest_8 : decode cX8_fewest 8 = .ok (.getfield 69, 3) := by decide +kernel
theorem dX8_fewest_11 : decode cX8_fewest 11 = .ok (.aload_n 0, 1) := by decide +kernel
theorem dX8_fewest_12 : decode cX8_fewest 12 = .ok (.getfield 27, 3) := by decide +kernel
theorem dX8_fewest_15 : decode cX8_fewest 15 = .ok (.invokevirtual 255, 3) := by decide +kernel
theorem dX8_fewest_18 : decode cX8_fewest 18 = .ok (.iload_n 1, 1) := by decide +kernel
theorem dX8_fewest_19 : decode cX8_fewest 19 = .ok (.ifCond .ne 11, 3) := by decide +kernel
theorem dX8_fewest_22 : decode cX8_fewest 22 = .ok (.aload_n 0, 1) := by decide +kernel
theorem dX8_fewest_23 : decode cX8_fewest 23 = .ok (.getfield 69, 3) := by decide +kernel
theorem dX8_fewest_26 : decode cX8_fewest 26 = .ok (.getfield 248, 3) := by decide +kernel
theorem dX8_fewest_29 : decode cX8_fewest 29 = .ok (.ireturn, 1) := by decide +kernel
theorem dX8_fewest_30 : decode cX8_fewest 30 = .ok (.iload_n 1, 1) := by decide +kernel
theorem dX8_fewest_31 : decode cX8_fewest 31 = .ok (.iconst 1, 1) := by decide +kernel
theorem dX8_fewest_32 : decode cX8_fewest 32 = .ok (.if_icmp .ne 16, 3) := by decide +kernel
theorem dX8_fewest_35 : decode cX8_fewest 35 = .ok (.aload_n 0, 1) := by decide +kernel
theorem dX8_fewest_36 : decode cX8_fewest 36 = .ok (.getfield 69, 3) := by decide +kernel
theorem dX8_fewest_39 : decode cX8_fewest 39 = .ok (.getfield 248, 3) := by decide +kernel
theorem dX8_fewest_42 : decode cX8_fewest 42 = .ok (.invokestatic 258, 3) := by decide +kernel
theorem dX8_fewest_45 : decode cX8_fewest 45 = .ok (.goto 10, 3) := by decide +kernel
theorem dX8_fewest_48 : decode cX8_fewest 48 = .ok (.aload_n 0, 1) := by decide +kernel
theorem dX8_fewest_49 : decode cX8_fewest 49 = .ok (.getfield 69, 3) := by decide +kernel
theorem dX8_fewest_52 : decode cX8_fewest 52 = .ok (.getfield 252, 3) := by decide +kernel
theorem dX8_fewest_55 : decode cX8_fewest 55 = .ok (.ireturn, 1) := by decide +kernel
theorem dX8_shortest_0 : decode cX8_shortest 0 = .ok (.aload_n 0, 1) := by decide +kernel
theorem dX8_shortest_1 : decode cX8_shortest 1 = .ok (.iload_n 1, 1) := by decide +kernel
theorem dX8_shortest_2 : decode cX8_shortest 2 = .ok (.iconst 0, 1) := by decide +kernel
theorem dX8_shortest_3 : decode cX8_shortest 3 = .ok (.bipush 100, 2) := by decide +kernel
theorem dX8_shortest_5 : decode cX8_shortest 5 = .ok (.invokevirtual 84, 3) := by decide +kernel
theorem dX8_shortest_8 : decode cX8_shortest 8 = .ok (.aload_n 0, 1) := by decide +kernel
theorem dX8_shortest_9 : decode cX8_shortest 9 = .ok (.iload_n 2, 1) := by decide +kernel
theorem dX8_shortest_10 : decode cX8_shortest 10 = .ok (.iconst 0, 1) := by decide +kernel
theorem dX8_shortest_11 : decode cX8_shortest 11 = .ok (.iconst 2, 1) := by decide +kernel
theorem dX8_shortest_12 : decode cX8_shortest 12 = .ok (.invokevirtual 84, 3) := by decide +kernel
theorem dX8_shortest_15 : decode cX8_shortest 15 = .ok (.aload_n 0, 1) := by decide +kernel
theorem dX8_shortest_16 : decode cX8_shortest 16 = .ok (.getfield 27, 3) := by decide +kernel
theorem dX8_shortest_19 : decode cX8_shortest 19 = .ok (.aload_n 0, 1) := by decide +kernel
theorem dX8_shortest_20 : decode cX8_shortest 20 = .ok (.getfield 27, 3) := by decide +kernel
theorem dX8_shortest_23 : decode cX8_shortest 23 = .ok (.invokevirtual 170, 3) := by decide +kernel
theorem dX8_shortest_26 : decode cX8_shortest 26 = .ok (.invokevirtual 154, 3) := by decide +kernel
theorem dX8_shortest_29 : decode cX8_shortest 29 = .ok (.istore_n 3, 1) := by decide +kernel
theorem dX8_shortest_30 : decode cX8_shortest 30 = .ok (.aload_n 0, 1) := by decide +kernel
theorem dX8_shortest_31 : decode cX8_shortest 31 = .ok (.getfield 69, 3) := by decide +kernel
theorem dX8_shortest_34 : decode cX8_shortest 34 = .ok (.aload_n 0, 1) := by decide +kernel
theorem dX8_shortest_35 : decode cX8_shortest 35 = .ok (.getfield 27, 3) := by decide +kernel
theorem dX8_shortest_38 : decode cX8_shortest 38 = .ok (.iload_n 3, 1) := by decide +kernel
theorem dX8_shortest_39 : decode cX8_shortest 39 = .ok (.iload_n 1, 1) := by decide +kernel
theorem dX8_shortest_40 : decode cX8_shortest 40 = .ok (.imul, 1) := by decide +kernel
theorem dX8_shortest_41 : decode cX8_shortest 41 = .ok (.bipush 100, 2) := by decide +kernel
theorem dX8_shortest_43 : decode cX8_shortest 43 = .ok (.iadd, 1) := by decide +kernel
theorem dX8_shortest_44 : decode cX8_shortest 44 = .ok (.iconst 1, 1) := by decide +kernel
theorem dX8_shortest_45 : decode cX8_shortest 45 = .ok (.isub, 1) := by decide +kernel
theorem dX8_shortest_46 : decode cX8_shortest 46 = .ok (.bipush 100, 2) := by decide +kernel
theorem dX8_shortest_48 : decode cX8_shortest 48 = .ok (.idiv, 1) := by decide +kernel
theorem dX8_shortest_49 : decode cX8_shortest 49 = .ok (.invokevirtual 262, 3) := by decide +kernel
theorem dX8_shortest_52 : decode cX8_shortest 52 = .ok (.iload_n 2, 1) := by decide +kernel
theorem dX8_shortest_53 : decode cX8_shortest 53 = .ok (.ifCond .ne 11, 3) := by decide +kernel
theorem dX8_shortest_56 : decode cX8_shortest 56 = .ok (.aload_n 0, 1) := by decide +kernel
theorem dX8_shortest_57 : decode cX8_shortest 57 = .ok (.getfield 69, 3) := by decide +kernel
theorem dX8_shortest_60 : decode cX8_shortest 60 = .ok (.getfield 248, 3) := by decide +kernel
theorem dX8_shortest_63 : decode cX8_shortest 63 = .ok (.ireturn, 1) := by decide +kernel
theorem dX8_shortest_64 : decode cX8_shortest 64 = .ok (.iload_n 2, 1) := by decide +kernel
theorem dX8_shortest_65 : decode cX8_shortest 65 = .ok (.iconst 1, 1) := by decide +kernel
theorem dX8_shortest_66 : decode cX8_shortest 66 = .ok (.if_icmp .ne 13, 3) := by decide +kernel
theorem dX8_shortest_69 : decode cX8_shortest 69 = .ok (.aload_n 0, 1) := by decide +kernel
theorem dX8_shortest_70 : decode cX8_shortest 70 = .ok (.getfield 69, 3) := by decide +kernel
theorem dX8_shortest_73 : decode cX8_shortest 73 = .ok (.getfield 249, 3) := by decide +kernel
theorem dX8_shortest_76 : decode cX8_shortest 76 = .ok (.goto 10, 3) := by decide +kernel
theorem dX8_shortest_79 : decode cX8_shortest 79 = .ok (.aload_n 0, 1) := by decide +kernel
theorem dX8_shortest_80 : decode cX8_shortest 80 = .ok (.getfield 69, 3) := by decide +kernel
theorem dX8_shortest_83 : decode cX8_shortest 83 = .ok (.getfield 252, 3) := by decide +kernel
theorem dX8_shortest_86 : decode cX8_shortest 86 = .ok (.ireturn, 1) := by decide +kernel
theorem dX8_worth_0 : decode cX8_worth 0 = .ok (.aload_n 0, 1) := by decide +kernel
theorem dX8_worth_1 : decode cX8_worth 1 = .ok (.iload_n 1, 1) := by decide +kernel
theorem dX8_worth_2 : decode cX8_worth 2 = .ok (.invokevirtual 130, 3) := by decide +kernel
theorem dX8_worth_5 : decode cX8_worth 5 = .ok (.aload_n 0, 1) := by decide +kernel
theorem dX8_worth_6 : decode cX8_worth 6 = .ok (.getfield 69, 3) := by decide +kernel
theorem dX8_worth_9 : decode cX8_worth 9 = .ok (.aload_n 0, 1) := by decide +kernel
theorem dX8_worth_10 : decode cX8_worth 10 = .ok (.getfield 27, 3) := by decide +kernel
theorem dX8_worth_13 : decode cX8_worth 13 = .ok (.aload_n 0, 1) := by decide +kernel
theorem dX8_worth_14 : decode cX8_worth 14 = .ok (.getfield 27, 3) := by decide +kernel
theorem dX8_worth_17 : decode cX8_worth 17 = .ok (.getfield 102, 3) := by decide +kernel
theorem dX8_worth_20 : decode cX8_worth 20 = .ok (.iconst (-1), 1) := by decide +kernel
theorem dX8_worth_21 : decode cX8_worth 21 = .ok (.invokevirtual 244, 3) := by decide +kernel
theorem dX8_worth_24 : decode cX8_worth 24 = .ok (.aload_n 0, 1) := by decide +kernel
theorem dX8_worth_25 : decode cX8_worth 25 = .ok (.getfield 69, 3) := by decide +kernel
theorem dX8_worth_28 : decode cX8_worth 28 = .ok (.getfield 249, 3) := by decide +kernel
theorem dX8_worth_31 : decode cX8_worth 31 = .ok (.istore_n 2, 1) := by decide +kernel
theorem dX8_worth_32 : decode cX8_worth 32 = .ok (.iload_n 1, 1) := by decide +kernel
theorem dX8_worth_33 : decode cX8_worth 33 = .ok (.aload_n 0, 1) := by decide +kernel
theorem dX8_worth_34 : decode cX8_worth 34 = .ok (.getfield 69, 3) := by decide +kernel
theorem dX8_worth_37 : decode cX8_worth 37 = .ok (.getfield 248, 3) := by decide +kernel
theorem dX8_worth_40 : decode cX8_worth 40 = .ok (.invokestatic 151, 3) := by decide +kernel
theorem dX8_worth_43 : decode cX8_worth 43 = .ok (.ifCond .ne 5, 3) := by decide +kernel
theorem dX8_worth_46 : decode cX8_worth 46 = .ok (.iconst 0, 1) := by decide +kernel
theorem dX8_worth_47 : decode cX8_worth 47 = .ok (.ireturn, 1) := by decide +kernel
theorem dX8_worth_48 : decode cX8_worth 48 = .ok (.aload_n 0, 1) := by decide +kernel
theorem dX8_worth_49 : decode cX8_worth 49 = .ok (.getfield 69, 3) := by decide +kernel
theorem dX8_worth_52 : decode cX8_worth 52 = .ok (.aload_n 0, 1) := by decide +kernel
theorem dX8_worth_53 : decode cX8_worth 53 = .ok (.getfield 27, 3) := by decide +kernel
theorem dX8_worth_56 : decode cX8_worth 56 = .ok (.aload_n 0, 1) := by decide +kernel
theorem dX8_worth_57 : decode cX8_worth 57 = .ok (.getfield 27, 3) := by decide +kernel
theorem dX8_worth_60 : decode cX8_worth 60 = .ok (.getfield 102, 3) := by decide +kernel
theorem dX8_worth_63 : decode cX8_worth 63 = .ok (.iload_n 1, 1) := by decide +kernel
theorem dX8_worth_64 : decode cX8_worth 64 = .ok (.invokevirtual 244, 3) := by decide +kernel
theorem dX8_worth_67 : decode cX8_worth 67 = .ok (.iload_n 2, 1) := by decide +kernel
theorem dX8_worth_68 : decode cX8_worth 68 = .ok (.aload_n 0, 1) := by decide +kernel
theorem dX8_worth_69 : decode cX8_worth 69 = .ok (.getfield 69, 3) := by decide +kernel
theorem dX8_worth_72 : decode cX8_worth 72 = .ok (.getfield 249, 3) := by decide +kernel
theorem dX8_worth_75 : decode cX8_worth 75 = .ok (.isub, 1) := by decide +kernel
theorem dX8_worth_76 : decode cX8_worth 76 = .ok (.ireturn, 1) := by decide +kernel
theorem dX8_exchange_0 : decode cX8_exchange 0 = .ok (.aload_n 0, 1) := by decide +kernel
theorem dX8_exchange_1 : decode cX8_exchange 1 = .ok (.iload_n 1, 1) := by decide +kernel
theorem dX8_exchange_2 : decode cX8_exchange 2 = .ok (.iconst 0, 1) := by decide +kernel
theorem dX8_exchange_3 : decode cX8_exchange 3 = .ok (.iconst 2, 1) := by decide +kernel
theorem dX8_exchange_4 : decode cX8_exchange 4 = .ok (.invokevirtual 84, 3) := by decide +kernel
theorem dX8_exchange_7 : decode cX8_exchange 7 = .ok (.aload_n 0, 1) := by decide +kernel
theorem dX8_exchange_8 : decode cX8_exchange 8 = .ok (.getfield 76, 3) := by decide +kernel
theorem dX8_exchange_11 : decode cX8_exchange 11 = .ok (.aload_n 0, 1) := by decide +kernel
theorem dX8_exchange_12 : decode cX8_exchange 12 = .ok (.getfield 27, 3) := by decide +kernel
theorem dX8_exchange_15 : decode cX8_exchange 15 = .ok (.invokevirtual 265, 3) := by decide +kernel
theorem dX8_exchange_18 : decode cX8_exchange 18 = .ok (.aload_n 0, 1) := by decide +kernel
theorem dX8_exchange_19 : decode cX8_exchange 19 = .ok (.getfield 76, 3) := by decide +kernel
theorem dX8_exchange_22 : decode cX8_exchange 22 = .ok (.getfield 266, 3) := by decide +kernel
theorem dX8_exchange_25 : decode cX8_exchange 25 = .ok (.iconst (-1), 1) := by decide +kernel
theorem dX8_exchange_26 : decode cX8_exchange 26 = .ok (.if_icmp .ne 5, 3) := by decide +kernel
theorem dX8_exchange_29 : decode cX8_exchange 29 = .ok (.iconst (-1), 1) := by decide +kernel
theorem dX8_exchange_30 : decode cX8_exchange 30 = .ok (.ireturn, 1) := by decide +kernel
theorem dX8_exchange_31 : decode cX8_exchange 31 = .ok (.iload_n 1, 1) := by decide +kernel
theorem dX8_exchange_32 : decode cX8_exchange 32 = .ok (.ifCond .ne 11, 3) := by decide +kernel
theorem dX8_exchange_35 : decode cX8_exchange 35 = .ok (.aload_n 0, 1) := by decide +kernel
theorem dX8_exchange_36 : decode cX8_exchange 36 = .ok (.getfield 76, 3) := by decide +kernel
theorem dX8_exchange_39 : decode cX8_exchange 39 = .ok (.getfield 266, 3) := by decide +kernel
theorem dX8_exchange_42 : decode cX8_exchange 42 = .ok (.ireturn, 1) := by decide +kernel
theorem dX8_exchange_43 : decode cX8_exchange 43 = .ok (.iload_n 1, 1) := by decide +kernel
theorem dX8_exchange_44 : decode cX8_exchange 44 = .ok (.iconst 1, 1) := by decide +kernel
theorem dX8_exchange_45 : decode cX8_exchange 45 = .ok (.if_icmp .ne 13, 3) := by decide +kernel
theorem dX8_exchange_48 : decode cX8_exchange 48 = .ok (.aload_n 0, 1) := by decide +kernel
theorem dX8_exchange_49 : decode cX8_exchange 49 = .ok (.getfield 76, 3) := by decide +kernel
theorem dX8_exchange_52 : decode cX8_exchange 52 = .ok (.getfield 269, 3) := by decide +kernel
theorem dX8_exchange_55 : decode cX8_exchange 55 = .ok (.goto 10, 3) := by decide +kernel
theorem dX8_exchange_58 : decode cX8_exchange 58 = .ok (.aload_n 0, 1) := by decide +kernel
theorem dX8_exchange_59 : decode cX8_exchange 59 = .ok (.getfield 76, 3) := by decide +kernel
theorem dX8_exchange_62 : decode cX8_exchange 62 = .ok (.getfield 272, 3) := by decide +kernel
theorem dX8_exchange_65 : decode cX8_exchange 65 = .ok (.ireturn, 1) := by decide +kernel
theorem dX8_next_0 : decode cX8_next 0 = .ok (.aload_n 0, 1) := by decide +kernel
theorem dX8_next_1 : decode cX8_next 1 = .ok (.iload_n 1, 1) := by decide +kernel
theorem dX8_next_2 : decode cX8_next 2 = .ok (.iconst 0, 1) := by decide +kernel
theorem dX8_next_3 : decode cX8_next 3 = .ok (.sipush 9999, 3) := by decide +kernel
theorem dX8_next_6 : decode cX8_next 6 = .ok (.invokevirtual 84, 3) := by decide +kernel
theorem dX8_next_9 : decode cX8_next 9 = .ok (.aload_n 0, 1) := by decide +kernel
theorem dX8_next_10 : decode cX8_next 10 = .ok (.getfield 69, 3) := by decide +kernel
theorem dX8_next_13 : decode cX8_next 13 = .ok (.aload_n 0, 1) := by decide +kernel
theorem dX8_next_14 : decode cX8_next 14 = .ok (.getfield 27, 3) := by decide +kernel
theorem dX8_next_17 : decode cX8_next 17 = .ok (.iload_n 1, 1) := by decide +kernel
theorem dX8_next_18 : decode cX8_next 18 = .ok (.iconst (-1), 1) := by decide +kernel
theorem dX8_next_19 : decode cX8_next 19 = .ok (.invokevirtual 244, 3) := by decide +kernel
theorem dX8_next_22 : decode cX8_next 22 = .ok (.aload_n 0, 1) := by decide +kernel
theorem dX8_next_23 : decode cX8_next 23 = .ok (.getfield 69, 3) := by decide +kernel
theorem dX8_next_26 : decode cX8_next 26 = .ok (.aload_n 0, 1) := by decide +kernel
theorem dX8_next_27 : decode cX8_next 27 = .ok (.getfield 27, 3) := by decide +kernel
theorem dX8_next_30 : decode cX8_next 30 = .ok (.aload_n 0, 1) := by decide +kernel
theorem dX8_next_31 : decode cX8_next 31 = .ok (.getfield 69, 3) := by decide +kernel
theorem dX8_next_34 : decode cX8_next 34 = .ok (.getfield 249, 3) := by decide +kernel
theorem dX8_next_37 : decode cX8_next 37 = .ok (.iconst 1, 1) := by decide +kernel
theorem dX8_next_38 : decode cX8_next 38 = .ok (.iadd, 1) := by decide +kernel
theorem dX8_next_39 : decode cX8_next 39 = .ok (.invokevirtual 262, 3) := by decide +kernel
theorem dX8_next_42 : decode cX8_next 42 = .ok (.aload_n 0, 1) := by decide +kernel
theorem dX8_next_43 : decode cX8_next 43 = .ok (.getfield 69, 3) := by decide +kernel
theorem dX8_next_46 : decode cX8_next 46 = .ok (.getfield 273, 3) := by decide +kernel
theorem dX8_next_49 : decode cX8_next 49 = .ok (.ifCond .eq 13, 3) := by decide +kernel
theorem dX8_next_52 : decode cX8_next 52 = .ok (.aload_n 0, 1) := by decide +kernel
theorem dX8_next_53 : decode cX8_next 53 = .ok (.getfield 69, 3) := by decide +kernel
theorem dX8_next_56 : decode cX8_next 56 = .ok (.getfield 252, 3) := by decide +kernel
theorem dX8_next_59 : decode cX8_next 59 = .ok (.goto 4, 3) := by decide +kernel
theorem dX8_next_62 : decode cX8_next 62 = .ok (.iconst (-1), 1) := by decide +kernel
theorem dX8_next_63 : decode cX8_next 63 = .ok (.ireturn, 1) := by decide +kernel
theorem dX8_likeness_0 : decode cX8_likeness 0 = .ok (.aload_n 0, 1) := by decide +kernel
theorem dX8_likeness_1 : decode cX8_likeness 1 = .ok (.iload_n 1, 1) := by decide +kernel
theorem dX8_likeness_2 : decode cX8_likeness 2 = .ok (.invokevirtual 130, 3) := by decide +kernel
theorem dX8_likeness_5 : decode cX8_likeness 5 = .ok (.aload_n 0, 1) := by decide +kernel
theorem dX8_likeness_6 : decode cX8_likeness 6 = .ok (.iload_n 2, 1) := by decide +kernel
theorem dX8_likeness_7 : decode cX8_likeness 7 = .ok (.invokevirtual 130, 3) := by decide +kernel
theorem dX8_likeness_10 : decode cX8_likeness 10 = .ok (.aload_n 0, 1) := by decide +kernel
theorem dX8_likeness_11 : decode cX8_likeness 11 = .ok (.iload_n 3, 1) := by decide +kernel
theorem dX8_likeness_12 : decode cX8_likeness 12 = .ok (.iconst 0, 1) := by decide +kernel
theorem dX8_likeness_13 : decode cX8_likeness 13 = .ok (.iconst 1, 1) := by decide +kernel
theorem dX8_likeness_14 : decode cX8_likeness 14 = .ok (.invokevirtual 84, 3) := by decide +kernel
theorem dX8_likeness_17 : decode cX8_likeness 17 = .ok (.aload_n 0, 1) := by decide +kernel
theorem dX8_likeness_18 : decode cX8_likeness 18 = .ok (.getfield 27, 3) := by decide +kernel
theorem dX8_likeness_21 : decode cX8_likeness 21 = .ok (.aload_n 0, 1) := by decide +kernel
theorem dX8_likeness_22 : decode cX8_likeness 22 = .ok (.getfield 27, 3) := by decide +kernel
theorem dX8_likeness_25 : decode cX8_likeness 25 = .ok (.getfield 183, 3) := by decide +kernel
theorem dX8_likeness_28 : decode cX8_likeness 28 = .ok (.iload_n 1, 1) := by decide +kernel
theorem dX8_likeness_29 : decode cX8_likeness 29 = .ok (.laload, 1) := by decide +kernel
theorem dX8_likeness_30 : decode cX8_likeness 30 = .ok (.aload_n 0, 1) := by decide +kernel
theorem dX8_likeness_31 : decode cX8_likeness 31 = .ok (.getfield 27, 3) := by decide +kernel
theorem dX8_likeness_34 : decode cX8_likeness 34 = .ok (.getfield 183, 3) := by decide +kernel
theorem dX8_likeness_37 : decode cX8_likeness 37 = .ok (.iload_n 2, 1) := by decide +kernel
theorem dX8_likeness_38 : decode cX8_likeness 38 = .ok (.laload, 1) := by decide +kernel
theorem dX8_likeness_39 : decode cX8_likeness 39 = .ok (.land, 1) := by decide +kernel
theorem dX8_likeness_40 : decode cX8_likeness 40 = .ok (.invokevirtual 193, 3) := by decide +kernel
theorem dX8_likeness_43 : decode cX8_likeness 43 = .ok (.istore 4, 2) := by decide +kernel
theorem dX8_likeness_45 : decode cX8_likeness 45 = .ok (.aload_n 0, 1) := by decide +kernel
theorem dX8_likeness_46 : decode cX8_likeness 46 = .ok (.getfield 27, 3) := by decide +kernel
theorem dX8_likeness_49 : decode cX8_likeness 49 = .ok (.aload_n 0, 1) := by decide +kernel
theorem dX8_likeness_50 : decode cX8_likeness 50 = .ok (.getfield 27, 3) := by decide +kernel
theorem dX8_likeness_53 : decode cX8_likeness 53 = .ok (.getfield 183, 3) := by decide +kernel
theorem dX8_likeness_56 : decode cX8_likeness 56 = .ok (.iload_n 1, 1) := by decide +kernel
theorem dX8_likeness_57 : decode cX8_likeness 57 = .ok (.laload, 1) := by decide +kernel
theorem dX8_likeness_58 : decode cX8_likeness 58 = .ok (.aload_n 0, 1) := by decide +kernel
theorem dX8_likeness_59 : decode cX8_likeness 59 = .ok (.getfield 27, 3) := by decide +kernel
theorem dX8_likeness_62 : decode cX8_likeness 62 = .ok (.getfield 183, 3) := by decide +kernel
theorem dX8_likeness_65 : decode cX8_likeness 65 = .ok (.iload_n 2, 1) := by decide +kernel
theorem dX8_likeness_66 : decode cX8_likeness 66 = .ok (.laload, 1) := by decide +kernel
theorem dX8_likeness_67 : decode cX8_likeness 67 = .ok (.lor, 1) := by decide +kernel
theorem dX8_likeness_68 : decode cX8_likeness 68 = .ok (.invokevirtual 193, 3) := by decide +kernel
theorem dX8_likeness_71 : decode cX8_likeness 71 = .ok (.istore 5, 2) := by decide +kernel
theorem dX8_likeness_73 : decode cX8_likeness 73 = .ok (.iload 5, 2) := by decide +kernel
theorem dX8_likeness_75 : decode cX8_likeness 75 = .ok (.iload 4, 2) := by decide +kernel
theorem dX8_likeness_77 : decode cX8_likeness 77 = .ok (.invokestatic 277, 3) := by decide +kernel
theorem dX8_likeness_80 : decode cX8_likeness 80 = .ok (.istore 6, 2) := by decide +kernel
theorem dX8_likeness_82 : decode cX8_likeness 82 = .ok (.iload 4, 2) := by decide +kernel
theorem dX8_likeness_84 : decode cX8_likeness 84 = .ok (.ifCond .eq 8, 3) := by decide +kernel
theorem dX8_likeness_87 : decode cX8_likeness 87 = .ok (.iload 6, 2) := by decide +kernel
theorem dX8_likeness_89 : decode cX8_likeness 89 = .ok (.ifCond .ne 13, 3) := by decide +kernel
theorem dX8_likeness_92 : decode cX8_likeness 92 = .ok (.iload_n 3, 1) := by decide +kernel
theorem dX8_likeness_93 : decode cX8_likeness 93 = .ok (.ifCond .ne 7, 3) := by decide +kernel
theorem dX8_likeness_96 : decode cX8_likeness 96 = .ok (.iconst 0, 1) := by decide +kernel
theorem dX8_likeness_97 : decode cX8_likeness 97 = .ok (.goto 4, 3) := by decide +kernel
theorem dX8_likeness_100 : decode cX8_likeness 100 = .ok (.iconst 1, 1) := by decide +kernel
theorem dX8_likeness_101 : decode cX8_likeness 101 = .ok (.ireturn, 1) := by decide +kernel
theorem dX8_likeness_102 : decode cX8_likeness 102 = .ok (.iload_n 3, 1) := by decide +kernel
theorem dX8_likeness_103 : decode cX8_likeness 103 = .ok (.ifCond .ne 8, 3) := by decide +kernel
theorem dX8_likeness_106 : decode cX8_likeness 106 = .ok (.iload 4, 2) := by decide +kernel
theorem dX8_likeness_108 : decode cX8_likeness 108 = .ok (.goto 5, 3) := by decide +kernel
theorem dX8_likeness_111 : decode cX8_likeness 111 = .ok (.iload 5, 2) := by decide +kernel
theorem dX8_likeness_113 : decode cX8_likeness 113 = .ok (.iload 6, 2) := by decide +kernel
theorem dX8_likeness_115 : decode cX8_likeness 115 = .ok (.idiv, 1) := by decide +kernel
theorem dX8_likeness_116 : decode cX8_likeness 116 = .ok (.ireturn, 1) := by decide +kernel
theorem dX8_print_0 : decode cX8_print 0 = .ok (.lconst 0, 1) := by decide +kernel
theorem dX8_print_1 : decode cX8_print 1 = .ok (.lstore_n 1, 1) := by decide +kernel
theorem dX8_print_2 : decode cX8_print 2 = .ok (.iconst 0, 1) := by decide +kernel
theorem dX8_print_3 : decode cX8_print 3 = .ok (.istore_n 3, 1) := by decide +kernel
theorem dX8_print_4 : decode cX8_print 4 = .ok (.iload_n 3, 1) := by decide +kernel
theorem dX8_print_5 : decode cX8_print 5 = .ok (.aload_n 0, 1) := by decide +kernel
theorem dX8_print_6 : decode cX8_print 6 = .ok (.getfield 27, 3) := by decide +kernel
theorem dX8_print_9 : decode cX8_print 9 = .ok (.getfield 111, 3) := by decide +kernel
theorem dX8_print_12 : decode cX8_print 12 = .ok (.if_icmp .ge 56, 3) := by decide +kernel
theorem dX8_print_15 : decode cX8_print 15 = .ok (.lload_n 1, 1) := by decide +kernel
theorem dX8_print_16 : decode cX8_print 16 = .ok (.ldc2_w 280, 3) := by decide +kernel
theorem dX8_print_19 : decode cX8_print 19 = .ok (.lmul, 1) := by decide +kernel
theorem dX8_print_20 : decode cX8_print 20 = .ok (.aload_n 0, 1) := by decide +kernel
theorem dX8_print_21 : decode cX8_print 21 = .ok (.getfield 27, 3) := by decide +kernel
theorem dX8_print_24 : decode cX8_print 24 = .ok (.aload_n 0, 1) := by decide +kernel
theorem dX8_print_25 : decode cX8_print 25 = .ok (.getfield 27, 3) := by decide +kernel
theorem dX8_print_28 : decode cX8_print 28 = .ok (.getfield 183, 3) := by decide +kernel
theorem dX8_print_31 : decode cX8_print 31 = .ok (.iload_n 3, 1) := by decide +kernel
theorem dX8_print_32 : decode cX8_print 32 = .ok (.laload, 1) := by decide +kernel
theorem dX8_print_33 : decode cX8_print 33 = .ok (.invokevirtual 193, 3) := by decide +kernel
theorem dX8_print_36 : decode cX8_print 36 = .ok (.i2l, 1) := by decide +kernel
theorem dX8_print_37 : decode cX8_print 37 = .ok (.ladd, 1) := by decide +kernel
theorem dX8_print_38 : decode cX8_print 38 = .ok (.lstore_n 1, 1) := by decide +kernel
theorem dX8_print_39 : decode cX8_print 39 = .ok (.lload_n 1, 1) := by decide +kernel
theorem dX8_print_40 : decode cX8_print 40 = .ok (.ldc2_w 280, 3) := by decide +kernel
theorem dX8_print_43 : decode cX8_print 43 = .ok (.lmul, 1) := by decide +kernel
theorem dX8_print_44 : decode cX8_print 44 = .ok (.aload_n 0, 1) := by decide +kernel
theorem dX8_print_45 : decode cX8_print 45 = .ok (.getfield 27, 3) := by decide +kernel
theorem dX8_print_48 : decode cX8_print 48 = .ok (.iload_n 3, 1) := by decide +kernel
theorem dX8_print_49 : decode cX8_print 49 = .ok (.aload_n 0, 1) := by decide +kernel
theorem dX8_print_50 : decode cX8_print 50 = .ok (.getfield 27, 3) := by decide +kernel
theorem dX8_print_53 : decode cX8_print 53 = .ok (.getfield 133, 3) := by decide +kernel
theorem dX8_print_56 : decode cX8_print 56 = .ok (.invokevirtual 144, 3) := by decide +kernel
theorem dX8_print_59 : decode cX8_print 59 = .ok (.i2l, 1) := by decide +kernel
theorem dX8_print_60 : decode cX8_print 60 = .ok (.ladd, 1) := by decide +kernel
theorem dX8_print_61 : decode cX8_print 61 = .ok (.lstore_n 1, 1) := by decide +kernel
theorem dX8_print_62 : decode cX8_print 62 = .ok (.iinc 3 1, 3) := by decide +kernel
theorem dX8_print_65 : decode cX8_print 65 = .ok (.goto (-61), 3) := by decide +kernel
theorem dX8_print_68 : decode cX8_print 68 = .ok (.lload_n 1, 1) := by decide +kernel
theorem dX8_print_69 : decode cX8_print 69 = .ok (.lreturn, 1) := by decide +kernel
theorem dX8_status_0 : decode cX8_status 0 = .ok (.iload_n 1, 1) := by decide +kernel
theorem dX8_status_1 : decode cX8_status 1 = .ok (.ifCond .lt 17, 3) := by decide +kernel
theorem dX8_status_4 : decode cX8_status 4 = .ok (.iload_n 1, 1) := by decide +kernel
theorem dX8_status_5 : decode cX8_status 5 = .ok (.iconst 3, 1) := by decide +kernel
theorem dX8_status_6 : decode cX8_status 6 = .ok (.if_icmp .ge 12, 3) := by decide +kernel
theorem dX8_status_9 : decode cX8_status 9 = .ok (.aload_n 0, 1) := by decide +kernel
theorem dX8_status_10 : decode cX8_status 10 = .ok (.getfield 20, 3) := by decide +kernel
theorem dX8_status_13 : decode cX8_status 13 = .ok (.iload_n 1, 1) := by decide +kernel
theorem dX8_status_14 : decode cX8_status 14 = .ok (.iaload, 1) := by decide +kernel
theorem dX8_status_15 : decode cX8_status 15 = .ok (.goto 4, 3) := by decide +kernel
theorem dX8_status_18 : decode cX8_status 18 = .ok (.iconst (-1), 1) := by decide +kernel
theorem dX8_status_19 : decode cX8_status 19 = .ok (.ireturn, 1) := by decide +kernel
theorem dX8_putNumber_0 : decode cX8_putNumber 0 = .ok (.bipush 24, 2) := by decide +kernel
theorem dX8_putNumber_2 : decode cX8_putNumber 2 = .ok (.istore_n 2, 1) := by decide +kernel
theorem dX8_putNumber_3 : decode cX8_putNumber 3 = .ok (.iload_n 2, 1) := by decide +kernel
theorem dX8_putNumber_4 : decode cX8_putNumber 4 = .ok (.ifCond .lt 42, 3) := by decide +kernel
theorem dX8_putNumber_7 : decode cX8_putNumber 7 = .ok (.aload_n 0, 1) := by decide +kernel
theorem dX8_putNumber_8 : decode cX8_putNumber 8 = .ok (.getfield 13, 3) := by decide +kernel
theorem dX8_putNumber_11 : decode cX8_putNumber 11 = .ok (.sipush 600, 3) := by decide +kernel
theorem dX8_putNumber_14 : decode cX8_putNumber 14 = .ok (.if_icmp .ge 26, 3) := by decide +kernel
theorem dX8_putNumber_17 : decode cX8_putNumber 17 = .ok (.aload_n 0, 1) := by decide +kernel
theorem dX8_putNumber_18 : decode cX8_putNumber 18 = .ok (.getfield 9, 3) := by decide +kernel
theorem dX8_putNumber_21 : decode cX8_putNumber 21 = .ok (.aload_n 0, 1) := by decide +kernel
theorem dX8_putNumber_22 : decode cX8_putNumber 22 = .ok (.getfield 13, 3) := by decide +kernel
theorem dX8_putNumber_25 : decode cX8_putNumber 25 = .ok (.iload_n 1, 1) := by decide +kernel
theorem dX8_putNumber_26 : decode cX8_putNumber 26 = .ok (.iload_n 2, 1) := by decide +kernel
theorem dX8_putNumber_27 : decode cX8_putNumber 27 = .ok (.iushr, 1) := by decide +kernel
theorem dX8_putNumber_28 : decode cX8_putNumber 28 = .ok (.i2b, 1) := by decide +kernel
theorem dX8_putNumber_29 : decode cX8_putNumber 29 = .ok (.bastore, 1) := by decide +kernel
theorem dX8_putNumber_30 : decode cX8_putNumber 30 = .ok (.aload_n 0, 1) := by decide +kernel
theorem dX8_putNumber_31 : decode cX8_putNumber 31 = .ok (.dup, 1) := by decide +kernel
theorem dX8_putNumber_32 : decode cX8_putNumber 32 = .ok (.getfield 13, 3) := by decide +kernel
theorem dX8_putNumber_35 : decode cX8_putNumber 35 = .ok (.iconst 1, 1) := by decide +kernel
theorem dX8_putNumber_36 : decode cX8_putNumber 36 = .ok (.iadd, 1) := by decide +kernel
theorem dX8_putNumber_37 : decode cX8_putNumber 37 = .ok (.putfield 13, 3) := by decide +kernel
theorem dX8_putNumber_40 : decode cX8_putNumber 40 = .ok (.iinc 2 (-8), 3) := by decide +kernel
theorem dX8_putNumber_43 : decode cX8_putNumber 43 = .ok (.goto (-40), 3) := by decide +kernel
theorem dX8_putNumber_46 : decode cX8_putNumber 46 = .ok (.return_, 1) := by decide +kernel
theorem dX8_needSentence_0 : decode cX8_needSentence 0 = .ok (.aload_n 0, 1) := by decide +kernel
theorem dX8_needSentence_1 : decode cX8_needSentence 1 = .ok (.iload_n 1, 1) := by decide +kernel
theorem dX8_needSentence_2 : decode cX8_needSentence 2 = .ok (.ifCond .lt 18, 3) := by decide +kernel
theorem dX8_needSentence_5 : decode cX8_needSentence 5 = .ok (.iload_n 1, 1) := by decide +kernel
theorem dX8_needSentence_6 : decode cX8_needSentence 6 = .ok (.aload_n 0, 1) := by decide +kernel
theorem dX8_needSentence_7 : decode cX8_needSentence 7 = .ok (.getfield 27, 3) := by decide +kernel
theorem dX8_needSentence_10 : decode cX8_needSentence 10 = .ok (.getfield 111, 3) := by decide +kernel
theorem dX8_needSentence_13 : decode cX8_needSentence 13 = .ok (.if_icmp .ge 7, 3) := by decide +kernel
theorem dX8_needSentence_16 : decode cX8_needSentence 16 = .ok (.iconst 1, 1) := by decide +kernel
theorem dX8_needSentence_17 : decode cX8_needSentence 17 = .ok (.goto 4, 3) := by decide +kernel
theorem dX8_needSentence_20 : decode cX8_needSentence 20 = .ok (.iconst 0, 1) := by decide +kernel
theorem dX8_needSentence_21 : decode cX8_needSentence 21 = .ok (.invokevirtual 205, 3) := by decide +kernel
theorem dX8_needSentence_24 : decode cX8_needSentence 24 = .ok (.return_, 1) := by decide +kernel
theorem dX8_needWord_0 : decode cX8_needWord 0 = .ok (.aload_n 0, 1) := by decide +kernel
theorem dX8_needWord_1 : decode cX8_needWord 1 = .ok (.iload_n 1, 1) := by decide +kernel
theorem dX8_needWord_2 : decode cX8_needWord 2 = .ok (.ifCond .lt 18, 3) := by decide +kernel
theorem dX8_needWord_5 : decode cX8_needWord 5 = .ok (.iload_n 1, 1) := by decide +kernel
theorem dX8_needWord_6 : decode cX8_needWord 6 = .ok (.aload_n 0, 1) := by decide +kernel
theorem dX8_needWord_7 : decode cX8_needWord 7 = .ok (.getfield 27, 3) := by decide +kernel
theorem dX8_needWord_10 : decode cX8_needWord 10 = .ok (.getfield 167, 3) := by decide +kernel
theorem dX8_needWord_13 : decode cX8_needWord 13 = .ok (.if_icmp .ge 7, 3) := by decide +kernel
theorem dX8_needWord_16 : decode cX8_needWord 16 = .ok (.iconst 1, 1) := by decide +kernel
theorem dX8_needWord_17 : decode cX8_needWord 17 = .ok (.goto 4, 3) := by decide +kernel
theorem dX8_needWord_20 : decode cX8_needWord 20 = .ok (.iconst 0, 1) := by decide +kernel
theorem dX8_needWord_21 : decode cX8_needWord 21 = .ok (.invokevirtual 205, 3) := by decide +kernel
theorem dX8_needWord_24 : decode cX8_needWord 24 = .ok (.return_, 1) := by decide +kernel
theorem dX8_needElement_0 : decode cX8_needElement 0 = .ok (.iload_n 1, 1) := by decide +kernel
theorem dX8_needElement_1 : decode cX8_needElement 1 = .ok (.ifCond .ne 24, 3) := by decide +kernel
theorem dX8_needElement_4 : decode cX8_needElement 4 = .ok (.aload_n 0, 1) := by decide +kernel
theorem dX8_needElement_5 : decode cX8_needElement 5 = .ok (.getfield 20, 3) := by decide +kernel
theorem dX8_needElement_8 : decode cX8_needElement 8 = .ok (.iconst 0, 1) := by decide +kernel
theorem dX8_needElement_9 : decode cX8_needElement 9 = .ok (.dup2, 1) := by decide +kernel
theorem dX8_needElement_10 : decode cX8_needElement 10 = .ok (.iaload, 1) := by decide +kernel
theorem dX8_needElement_11 : decode cX8_needElement 11 = .ok (.iconst 1, 1) := by decide +kernel
theorem dX8_needElement_12 : decode cX8_needElement 12 = .ok (.iadd, 1) := by decide +kernel
theorem dX8_needElement_13 : decode cX8_needElement 13 = .ok (.iastore, 1) := by decide +kernel
theorem dX8_needElement_14 : decode cX8_needElement 14 = .ok (.new 282, 3) := by decide +kernel
theorem dX8_needElement_17 : decode cX8_needElement 17 = .ok (.dup, 1) := by decide +kernel
theorem dX8_needElement_18 : decode cX8_needElement 18 = .ok (.ldc_w 284, 3) := by decide +kernel
theorem dX8_needElement_21 : decode cX8_needElement 21 = .ok (.invokespecial 286, 3) := by decide +kernel
theorem dX8_needElement_24 : decode cX8_needElement 24 = .ok (.athrow, 1) := by decide +kernel
theorem dX8_needElement_25 : decode cX8_needElement 25 = .ok (.return_, 1) := by decide +kernel
theorem dX8_needNumber_0 : decode cX8_needNumber 0 = .ok (.iload_n 1, 1) := by decide +kernel
theorem dX8_needNumber_1 : decode cX8_needNumber 1 = .ok (.iload_n 2, 1) := by decide +kernel
theorem dX8_needNumber_2 : decode cX8_needNumber 2 = .ok (.if_icmp .lt 8, 3) := by decide +kernel
theorem dX8_needNumber_5 : decode cX8_needNumber 5 = .ok (.iload_n 1, 1) := by decide +kernel
theorem dX8_needNumber_6 : decode cX8_needNumber 6 = .ok (.iload_n 3, 1) := by decide +kernel
theorem dX8_needNumber_7 : decode cX8_needNumber 7 = .ok (.if_icmp .le 24, 3) := by decide +kernel
theorem dX8_needNumber_10 : decode cX8_needNumber 10 = .ok (.aload_n 0, 1) := by decide +kernel
theorem dX8_needNumber_11 : decode cX8_needNumber 11 = .ok (.getfield 20, 3) := by decide +kernel
theorem dX8_needNumber_14 : decode cX8_needNumber 14 = .ok (.iconst 1, 1) := by decide +kernel
theorem dX8_needNumber_15 : decode cX8_needNumber 15 = .ok (.dup2, 1) := by decide +kernel
theorem dX8_needNumber_16 : decode cX8_needNumber 16 = .ok (.iaload, 1) := by decide +kernel
theorem dX8_needNumber_17 : decode cX8_needNumber 17 = .ok (.iconst 1, 1) := by decide +kernel
theorem dX8_needNumber_18 : decode cX8_needNumber 18 = .ok (.iadd, 1) := by decide +kernel
theorem dX8_needNumber_19 : decode cX8_needNumber 19 = .ok (.iastore, 1) := by decide +kernel
theorem dX8_needNumber_20 : decode cX8_needNumber 20 = .ok (.new 289, 3) := by decide +kernel
theorem dX8_needNumber_23 : decode cX8_needNumber 23 = .ok (.dup, 1) := by decide +kernel
theorem dX8_needNumber_24 : decode cX8_needNumber 24 = .ok (.ldc_w 291, 3) := by decide +kernel
theorem dX8_needNumber_27 : decode cX8_needNumber 27 = .ok (.invokespecial 293, 3) := by decide +kernel
theorem dX8_needNumber_30 : decode cX8_needNumber 30 = .ok (.athrow, 1) := by decide +kernel
theorem dX8_needNumber_31 : decode cX8_needNumber 31 = .ok (.return_, 1) := by decide +kernel
theorem dX8_needState_0 : decode cX8_needState 0 = .ok (.iload_n 1, 1) := by decide +kernel
theorem dX8_needState_1 : decode cX8_needState 1 = .ok (.ifCond .ne 24, 3) := by decide +kernel
theorem dX8_needState_4 : decode cX8_needState 4 = .ok (.aload_n 0, 1) := by decide +kernel
theorem dX8_needState_5 : decode cX8_needState 5 = .ok (.getfield 20, 3) := by decide +kernel
theorem dX8_needState_8 : decode cX8_needState 8 = .ok (.iconst 2, 1) := by decide +kernel
theorem dX8_needState_9 : decode cX8_needState 9 = .ok (.dup2, 1) := by decide +kernel
theorem dX8_needState_10 : decode cX8_needState 10 = .ok (.iaload, 1) := by decide +kernel
theorem dX8_needState_11 : decode cX8_needState 11 = .ok (.iconst 1, 1) := by decide +kernel
theorem dX8_needState_12 : decode cX8_needState 12 = .ok (.iadd, 1) := by decide +kernel
theorem dX8_needState_13 : decode cX8_needState 13 = .ok (.iastore, 1) := by decide +kernel
theorem dX8_needState_14 : decode cX8_needState 14 = .ok (.new 294, 3) := by decide +kernel
theorem dX8_needState_17 : decode cX8_needState 17 = .ok (.dup, 1) := by decide +kernel
theorem dX8_needState_18 : decode cX8_needState 18 = .ok (.ldc_w 296, 3) := by decide +kernel
theorem dX8_needState_21 : decode cX8_needState 21 = .ok (.invokespecial 298, 3) := by decide +kernel
theorem dX8_needState_24 : decode cX8_needState 24 = .ok (.athrow, 1) := by decide +kernel
theorem dX8_needState_25 : decode cX8_needState 25 = .ok (.return_, 1) := by decide +kernel
theorem dX8_isIn_0 : decode cX8_isIn 0 = .ok (.iload_n 1, 1) := by decide +kernel
theorem dX8_isIn_1 : decode cX8_isIn 1 = .ok (.iload_n 0, 1) := by decide +kernel
theorem dX8_isIn_2 : decode cX8_isIn 2 = .ok (.iushr, 1) := by decide +kernel
theorem dX8_isIn_3 : decode cX8_isIn 3 = .ok (.iconst 1, 1) := by decide +kernel
theorem dX8_isIn_4 : decode cX8_isIn 4 = .ok (.iand, 1) := by decide +kernel
theorem dX8_isIn_5 : decode cX8_isIn 5 = .ok (.ifCond .eq 7, 3) := by decide +kernel
theorem dX8_isIn_8 : decode cX8_isIn 8 = .ok (.iconst 1, 1) := by decide +kernel
theorem dX8_isIn_9 : decode cX8_isIn 9 = .ok (.goto 4, 3) := by decide +kernel
theorem dX8_isIn_12 : decode cX8_isIn 12 = .ok (.iconst 0, 1) := by decide +kernel
theorem dX8_isIn_13 : decode cX8_isIn 13 = .ok (.ireturn, 1) := by decide +kernel
theorem dX8_isMoreFor_0 : decode cX8_isMoreFor 0 = .ok (.iload_n 0, 1) := by decide +kernel
theorem dX8_isMoreFor_1 : decode cX8_isMoreFor 1 = .ok (.i2l, 1) := by decide +kernel
theorem dX8_isMoreFor_2 : decode cX8_isMoreFor 2 = .ok (.iload_n 3, 1) := by decide +kernel
theorem dX8_isMoreFor_3 : decode cX8_isMoreFor 3 = .ok (.i2l, 1) := by decide +kernel
theorem dX8_isMoreFor_4 : decode cX8_isMoreFor 4 = .ok (.lmul, 1) := by decide +kernel
theorem dX8_isMoreFor_5 : decode cX8_isMoreFor 5 = .ok (.iload_n 2, 1) := by decide +kernel
theorem dX8_isMoreFor_6 : decode cX8_isMoreFor 6 = .ok (.i2l, 1) := by decide +kernel
theorem dX8_isMoreFor_7 : decode cX8_isMoreFor 7 = .ok (.iload_n 1, 1) := by decide +kernel
theorem dX8_isMoreFor_8 : decode cX8_isMoreFor 8 = .ok (.i2l, 1) := by decide +kernel
theorem dX8_isMoreFor_9 : decode cX8_isMoreFor 9 = .ok (.lmul, 1) := by decide +kernel
theorem dX8_isMoreFor_10 : decode cX8_isMoreFor 10 = .ok (.lcmp, 1) := by decide +kernel
theorem dX8_isMoreFor_11 : decode cX8_isMoreFor 11 = .ok (.ifCond .le 7, 3) := by decide +kernel
theorem dX8_isMoreFor_14 : decode cX8_isMoreFor 14 = .ok (.iconst 1, 1) := by decide +kernel
theorem dX8_isMoreFor_15 : decode cX8_isMoreFor 15 = .ok (.goto 4, 3) := by decide +kernel
theorem dX8_isMoreFor_18 : decode cX8_isMoreFor 18 = .ok (.iconst 0, 1) := by decide +kernel
theorem dX8_isMoreFor_19 : decode cX8_isMoreFor 19 = .ok (.ireturn, 1) := by decide +kernel
theorem dX8_commonDivisor_0 : decode cX8_commonDivisor 0 = .ok (.iload_n 0, 1) := by decide +kernel
theorem dX8_commonDivisor_1 : decode cX8_commonDivisor 1 = .ok (.istore_n 2, 1) := by decide +kernel
theorem dX8_commonDivisor_2 : decode cX8_commonDivisor 2 = .ok (.iload_n 1, 1) := by decide +kernel
theorem dX8_commonDivisor_3 : decode cX8_commonDivisor 3 = .ok (.istore_n 3, 1) := by decide +kernel
theorem dX8_commonDivisor_4 : decode cX8_commonDivisor 4 = .ok (.iconst 0, 1) := by decide +kernel
theorem dX8_commonDivisor_5 : decode cX8_commonDivisor 5 = .ok (.istore 4, 2) := by decide +kernel
theorem dX8_commonDivisor_7 : decode cX8_commonDivisor 7 = .ok (.iload 4, 2) := by decide +kernel
theorem dX8_commonDivisor_9 : decode cX8_commonDivisor 9 = .ok (.bipush 100, 2) := by decide +kernel
theorem dX8_commonDivisor_11 : decode cX8_commonDivisor 11 = .ok (.if_icmp .ge 23, 3) := by decide +kernel
theorem dX8_commonDivisor_14 : decode cX8_commonDivisor 14 = .ok (.iload_n 3, 1) := by decide +kernel
theorem dX8_commonDivisor_15 : decode cX8_commonDivisor 15 = .ok (.ifCond .eq 19, 3) := by decide +kernel
theorem dX8_commonDivisor_18 : decode cX8_commonDivisor 18 = .ok (.iload_n 2, 1) := by decide +kernel
theorem dX8_commonDivisor_19 : decode cX8_commonDivisor 19 = .ok (.iload_n 3, 1) := by decide +kernel
theorem dX8_commonDivisor_20 : decode cX8_commonDivisor 20 = .ok (.irem, 1) := by decide +kernel
theorem dX8_commonDivisor_21 : decode cX8_commonDivisor 21 = .ok (.istore 5, 2) := by decide +kernel
theorem dX8_commonDivisor_23 : decode cX8_commonDivisor 23 = .ok (.iload_n 3, 1) := by decide +kernel
theorem dX8_commonDivisor_24 : decode cX8_commonDivisor 24 = .ok (.istore_n 2, 1) := by decide +kernel
theorem dX8_commonDivisor_25 : decode cX8_commonDivisor 25 = .ok (.iload 5, 2) := by decide +kernel
theorem dX8_commonDivisor_27 : decode cX8_commonDivisor 27 = .ok (.istore_n 3, 1) := by decide +kernel
theorem dX8_commonDivisor_28 : decode cX8_commonDivisor 28 = .ok (.iinc 4 1, 3) := by decide +kernel
theorem dX8_commonDivisor_31 : decode cX8_commonDivisor 31 = .ok (.goto (-24), 3) := by decide +kernel
theorem dX8_commonDivisor_34 : decode cX8_commonDivisor 34 = .ok (.iload_n 2, 1) := by decide +kernel
theorem dX8_commonDivisor_35 : decode cX8_commonDivisor 35 = .ok (.ireturn, 1) := by decide +kernel
theorem dJ6_compare_7cf53_0 : decode cJ6_compare_7cf53 0 = .ok (.iload_n 0, 1) := by decide +kernel
theorem dJ6_compare_7cf53_1 : decode cJ6_compare_7cf53 1 = .ok (.iload_n 1, 1) := by decide +kernel
theorem dJ6_compare_7cf53_2 : decode cJ6_compare_7cf53 2 = .ok (.if_icmp .ge 7, 3) := by decide +kernel
theorem dJ6_compare_7cf53_5 : decode cJ6_compare_7cf53 5 = .ok (.iconst (-1), 1) := by decide +kernel
theorem dJ6_compare_7cf53_6 : decode cJ6_compare_7cf53 6 = .ok (.goto 13, 3) := by decide +kernel
theorem dJ6_compare_7cf53_9 : decode cJ6_compare_7cf53 9 = .ok (.iload_n 0, 1) := by decide +kernel
theorem dJ6_compare_7cf53_10 : decode cJ6_compare_7cf53 10 = .ok (.iload_n 1, 1) := by decide +kernel
theorem dJ6_compare_7cf53_11 : decode cJ6_compare_7cf53 11 = .ok (.if_icmp .ne 7, 3) := by decide +kernel
theorem dJ6_compare_7cf53_14 : decode cJ6_compare_7cf53 14 = .ok (.iconst 0, 1) := by decide +kernel
theorem dJ6_compare_7cf53_15 : decode cJ6_compare_7cf53 15 = .ok (.goto 4, 3) := by decide +kernel
theorem dJ6_compare_7cf53_18 : decode cJ6_compare_7cf53 18 = .ok (.iconst 1, 1) := by decide +kernel
theorem dJ6_compare_7cf53_19 : decode cJ6_compare_7cf53 19 = .ok (.ireturn, 1) := by decide +kernel
theorem dJ6_numberOfTrailingZeros_0f7a4_0 : decode cJ6_numberOfTrailingZeros_0f7a4 0 = .ok (.iload_n 0, 1) := by decide +kernel
theorem dJ6_numberOfTrailingZeros_0f7a4_1 : decode cJ6_numberOfTrailingZeros_0f7a4 1 = .ok (.iconst (-1), 1) := by decide +kernel
theorem dJ6_numberOfTrailingZeros_0f7a4_2 : decode cJ6_numberOfTrailingZeros_0f7a4 2 = .ok (.ixor, 1) := by decide +kernel
theorem dJ6_numberOfTrailingZeros_0f7a4_3 : decode cJ6_numberOfTrailingZeros_0f7a4 3 = .ok (.iload_n 0, 1) := by decide +kernel
theorem dJ6_numberOfTrailingZeros_0f7a4_4 : decode cJ6_numberOfTrailingZeros_0f7a4 4 = .ok (.iconst 1, 1) := by decide +kernel
theorem dJ6_numberOfTrailingZeros_0f7a4_5 : decode cJ6_numberOfTrailingZeros_0f7a4 5 = .ok (.isub, 1) := by decide +kernel
theorem dJ6_numberOfTrailingZeros_0f7a4_6 : decode cJ6_numberOfTrailingZeros_0f7a4 6 = .ok (.iand, 1) := by decide +kernel
theorem dJ6_numberOfTrailingZeros_0f7a4_7 : decode cJ6_numberOfTrailingZeros_0f7a4 7 = .ok (.istore_n 0, 1) := by decide +kernel
theorem dJ6_numberOfTrailingZeros_0f7a4_8 : decode cJ6_numberOfTrailingZeros_0f7a4 8 = .ok (.iload_n 0, 1) := by decide +kernel
theorem dJ6_numberOfTrailingZeros_0f7a4_9 : decode cJ6_numberOfTrailingZeros_0f7a4 9 = .ok (.ifCond .gt 8, 3) := by decide +kernel
theorem dJ6_numberOfTrailingZeros_0f7a4_12 : decode cJ6_numberOfTrailingZeros_0f7a4 12 = .ok (.iload_n 0, 1) := by decide +kernel
theorem dJ6_numberOfTrailingZeros_0f7a4_13 : decode cJ6_numberOfTrailingZeros_0f7a4 13 = .ok (.bipush 32, 2) := by decide +kernel
theorem dJ6_numberOfTrailingZeros_0f7a4_15 : decode cJ6_numberOfTrailingZeros_0f7a4 15 = .ok (.iand, 1) := by decide +kernel
theorem dJ6_numberOfTrailingZeros_0f7a4_16 : decode cJ6_numberOfTrailingZeros_0f7a4 16 = .ok (.ireturn, 1) := by decide +kernel
theorem dJ6_numberOfTrailingZeros_0f7a4_17 : decode cJ6_numberOfTrailingZeros_0f7a4 17 = .ok (.iconst 1, 1) := by decide +kernel
theorem dJ6_numberOfTrailingZeros_0f7a4_18 : decode cJ6_numberOfTrailingZeros_0f7a4 18 = .ok (.istore_n 1, 1) := by decide +kernel
theorem dJ6_numberOfTrailingZeros_0f7a4_19 : decode cJ6_numberOfTrailingZeros_0f7a4 19 = .ok (.iload_n 0, 1) := by decide +kernel
theorem dJ6_numberOfTrailingZeros_0f7a4_20 : decode cJ6_numberOfTrailingZeros_0f7a4 20 = .ok (.ldc_w 264, 3) := by decide +kernel
theorem dJ6_numberOfTrailingZeros_0f7a4_23 : decode cJ6_numberOfTrailingZeros_0f7a4 23 = .ok (.if_icmp .le 11, 3) := by decide +kernel
theorem dJ6_numberOfTrailingZeros_0f7a4_26 : decode cJ6_numberOfTrailingZeros_0f7a4 26 = .ok (.iinc 1 16, 3) := by decide +kernel
theorem dJ6_numberOfTrailingZeros_0f7a4_29 : decode cJ6_numberOfTrailingZeros_0f7a4 29 = .ok (.iload_n 0, 1) := by decide +kernel
theorem dJ6_numberOfTrailingZeros_0f7a4_30 : decode cJ6_numberOfTrailingZeros_0f7a4 30 = .ok (.bipush 16, 2) := by decide +kernel
theorem dJ6_numberOfTrailingZeros_0f7a4_32 : decode cJ6_numberOfTrailingZeros_0f7a4 32 = .ok (.iushr, 1) := by decide +kernel
theorem dJ6_numberOfTrailingZeros_0f7a4_33 : decode cJ6_numberOfTrailingZeros_0f7a4 33 = .ok (.istore_n 0, 1) := by decide +kernel
theorem dJ6_numberOfTrailingZeros_0f7a4_34 : decode cJ6_numberOfTrailingZeros_0f7a4 34 = .ok (.iload_n 0, 1) := by decide +kernel
theorem dJ6_numberOfTrailingZeros_0f7a4_35 : decode cJ6_numberOfTrailingZeros_0f7a4 35 = .ok (.sipush 256, 3) := by decide +kernel
theorem dJ6_numberOfTrailingZeros_0f7a4_38 : decode cJ6_numberOfTrailingZeros_0f7a4 38 = .ok (.if_icmp .le 11, 3) := by decide +kernel
theorem dJ6_numberOfTrailingZeros_0f7a4_41 : decode cJ6_numberOfTrailingZeros_0f7a4 41 = .ok (.iinc 1 8, 3) := by decide +kernel
theorem dJ6_numberOfTrailingZeros_0f7a4_44 : decode cJ6_numberOfTrailingZeros_0f7a4 44 = .ok (.iload_n 0, 1) := by decide +kernel
theorem dJ6_numberOfTrailingZeros_0f7a4_45 : decode cJ6_numberOfTrailingZeros_0f7a4 45 = .ok (.bipush 8, 2) := by decide +kernel
theorem dJ6_numberOfTrailingZeros_0f7a4_47 : decode cJ6_numberOfTrailingZeros_0f7a4 47 = .ok (.iushr, 1) := by decide +kernel
theorem dJ6_numberOfTrailingZeros_0f7a4_48 : decode cJ6_numberOfTrailingZeros_0f7a4 48 = .ok (.istore_n 0, 1) := by decide +kernel
theorem dJ6_numberOfTrailingZeros_0f7a4_49 : decode cJ6_numberOfTrailingZeros_0f7a4 49 = .ok (.iload_n 0, 1) := by decide +kernel
theorem dJ6_numberOfTrailingZeros_0f7a4_50 : decode cJ6_numberOfTrailingZeros_0f7a4 50 = .ok (.bipush 16, 2) := by decide +kernel
theorem dJ6_numberOfTrailingZeros_0f7a4_52 : decode cJ6_numberOfTrailingZeros_0f7a4 52 = .ok (.if_icmp .le 10, 3) := by decide +kernel
theorem dJ6_numberOfTrailingZeros_0f7a4_55 : decode cJ6_numberOfTrailingZeros_0f7a4 55 = .ok (.iinc 1 4, 3) := by decide +kernel
theorem dJ6_numberOfTrailingZeros_0f7a4_58 : decode cJ6_numberOfTrailingZeros_0f7a4 58 = .ok (.iload_n 0, 1) := by decide +kernel
theorem dJ6_numberOfTrailingZeros_0f7a4_59 : decode cJ6_numberOfTrailingZeros_0f7a4 59 = .ok (.iconst 4, 1) := by decide +kernel
theorem dJ6_numberOfTrailingZeros_0f7a4_60 : decode cJ6_numberOfTrailingZeros_0f7a4 60 = .ok (.iushr, 1) := by decide +kernel
theorem dJ6_numberOfTrailingZeros_0f7a4_61 : decode cJ6_numberOfTrailingZeros_0f7a4 61 = .ok (.istore_n 0, 1) := by decide +kernel
theorem dJ6_numberOfTrailingZeros_0f7a4_62 : decode cJ6_numberOfTrailingZeros_0f7a4 62 = .ok (.iload_n 0, 1) := by decide +kernel
theorem dJ6_numberOfTrailingZeros_0f7a4_63 : decode cJ6_numberOfTrailingZeros_0f7a4 63 = .ok (.iconst 4, 1) := by decide +kernel
theorem dJ6_numberOfTrailingZeros_0f7a4_64 : decode cJ6_numberOfTrailingZeros_0f7a4 64 = .ok (.if_icmp .le 10, 3) := by decide +kernel
theorem dJ6_numberOfTrailingZeros_0f7a4_67 : decode cJ6_numberOfTrailingZeros_0f7a4 67 = .ok (.iinc 1 2, 3) := by decide +kernel
theorem dJ6_numberOfTrailingZeros_0f7a4_70 : decode cJ6_numberOfTrailingZeros_0f7a4 70 = .ok (.iload_n 0, 1) := by decide +kernel
theorem dJ6_numberOfTrailingZeros_0f7a4_71 : decode cJ6_numberOfTrailingZeros_0f7a4 71 = .ok (.iconst 2, 1) := by decide +kernel
theorem dJ6_numberOfTrailingZeros_0f7a4_72 : decode cJ6_numberOfTrailingZeros_0f7a4 72 = .ok (.iushr, 1) := by decide +kernel
theorem dJ6_numberOfTrailingZeros_0f7a4_73 : decode cJ6_numberOfTrailingZeros_0f7a4 73 = .ok (.istore_n 0, 1) := by decide +kernel
theorem dJ6_numberOfTrailingZeros_0f7a4_74 : decode cJ6_numberOfTrailingZeros_0f7a4 74 = .ok (.iload_n 1, 1) := by decide +kernel
theorem dJ6_numberOfTrailingZeros_0f7a4_75 : decode cJ6_numberOfTrailingZeros_0f7a4 75 = .ok (.iload_n 0, 1) := by decide +kernel
theorem dJ6_numberOfTrailingZeros_0f7a4_76 : decode cJ6_numberOfTrailingZeros_0f7a4 76 = .ok (.iconst 1, 1) := by decide +kernel
theorem dJ6_numberOfTrailingZeros_0f7a4_77 : decode cJ6_numberOfTrailingZeros_0f7a4 77 = .ok (.iushr, 1) := by decide +kernel
theorem dJ6_numberOfTrailingZeros_0f7a4_78 : decode cJ6_numberOfTrailingZeros_0f7a4 78 = .ok (.iadd, 1) := by decide +kernel
theorem dJ6_numberOfTrailingZeros_0f7a4_79 : decode cJ6_numberOfTrailingZeros_0f7a4 79 = .ok (.ireturn, 1) := by decide +kernel
theorem dJ6_bitCount_0f7a4_0 : decode cJ6_bitCount_0f7a4 0 = .ok (.iload_n 0, 1) := by decide +kernel
theorem dJ6_bitCount_0f7a4_1 : decode cJ6_bitCount_0f7a4 1 = .ok (.iload_n 0, 1) := by decide +kernel
theorem dJ6_bitCount_0f7a4_2 : decode cJ6_bitCount_0f7a4 2 = .ok (.iconst 1, 1) := by decide +kernel
theorem dJ6_bitCount_0f7a4_3 : decode cJ6_bitCount_0f7a4 3 = .ok (.iushr, 1) := by decide +kernel
theorem dJ6_bitCount_0f7a4_4 : decode cJ6_bitCount_0f7a4 4 = .ok (.ldc_w 265, 3) := by decide +kernel
theorem dJ6_bitCount_0f7a4_7 : decode cJ6_bitCount_0f7a4 7 = .ok (.iand, 1) := by decide +kernel
theorem dJ6_bitCount_0f7a4_8 : decode cJ6_bitCount_0f7a4 8 = .ok (.isub, 1) := by decide +kernel
theorem dJ6_bitCount_0f7a4_9 : decode cJ6_bitCount_0f7a4 9 = .ok (.istore_n 0, 1) := by decide +kernel
theorem dJ6_bitCount_0f7a4_10 : decode cJ6_bitCount_0f7a4 10 = .ok (.iload_n 0, 1) := by decide +kernel
theorem dJ6_bitCount_0f7a4_11 : decode cJ6_bitCount_0f7a4 11 = .ok (.ldc_w 266, 3) := by decide +kernel
theorem dJ6_bitCount_0f7a4_14 : decode cJ6_bitCount_0f7a4 14 = .ok (.iand, 1) := by decide +kernel
theorem dJ6_bitCount_0f7a4_15 : decode cJ6_bitCount_0f7a4 15 = .ok (.iload_n 0, 1) := by decide +kernel
theorem dJ6_bitCount_0f7a4_16 : decode cJ6_bitCount_0f7a4 16 = .ok (.iconst 2, 1) := by decide +kernel
theorem dJ6_bitCount_0f7a4_17 : decode cJ6_bitCount_0f7a4 17 = .ok (.iushr, 1) := by decide +kernel
theorem dJ6_bitCount_0f7a4_18 : decode cJ6_bitCount_0f7a4 18 = .ok (.ldc_w 266, 3) := by decide +kernel
theorem dJ6_bitCount_0f7a4_21 : decode cJ6_bitCount_0f7a4 21 = .ok (.iand, 1) := by decide +kernel
theorem dJ6_bitCount_0f7a4_22 : decode cJ6_bitCount_0f7a4 22 = .ok (.iadd, 1) := by decide +kernel
theorem dJ6_bitCount_0f7a4_23 : decode cJ6_bitCount_0f7a4 23 = .ok (.istore_n 0, 1) := by decide +kernel
theorem dJ6_bitCount_0f7a4_24 : decode cJ6_bitCount_0f7a4 24 = .ok (.iload_n 0, 1) := by decide +kernel
theorem dJ6_bitCount_0f7a4_25 : decode cJ6_bitCount_0f7a4 25 = .ok (.iload_n 0, 1) := by decide +kernel
theorem dJ6_bitCount_0f7a4_26 : decode cJ6_bitCount_0f7a4 26 = .ok (.iconst 4, 1) := by decide +kernel
theorem dJ6_bitCount_0f7a4_27 : decode cJ6_bitCount_0f7a4 27 = .ok (.iushr, 1) := by decide +kernel
theorem dJ6_bitCount_0f7a4_28 : decode cJ6_bitCount_0f7a4 28 = .ok (.iadd, 1) := by decide +kernel
theorem dJ6_bitCount_0f7a4_29 : decode cJ6_bitCount_0f7a4 29 = .ok (.ldc_w 267, 3) := by decide +kernel
theorem dJ6_bitCount_0f7a4_32 : decode cJ6_bitCount_0f7a4 32 = .ok (.iand, 1) := by decide +kernel
theorem dJ6_bitCount_0f7a4_33 : decode cJ6_bitCount_0f7a4 33 = .ok (.istore_n 0, 1) := by decide +kernel
theorem dJ6_bitCount_0f7a4_34 : decode cJ6_bitCount_0f7a4 34 = .ok (.iload_n 0, 1) := by decide +kernel
theorem dJ6_bitCount_0f7a4_35 : decode cJ6_bitCount_0f7a4 35 = .ok (.iload_n 0, 1) := by decide +kernel
theorem dJ6_bitCount_0f7a4_36 : decode cJ6_bitCount_0f7a4 36 = .ok (.bipush 8, 2) := by decide +kernel
theorem dJ6_bitCount_0f7a4_38 : decode cJ6_bitCount_0f7a4 38 = .ok (.iushr, 1) := by decide +kernel
theorem dJ6_bitCount_0f7a4_39 : decode cJ6_bitCount_0f7a4 39 = .ok (.iadd, 1) := by decide +kernel
theorem dJ6_bitCount_0f7a4_40 : decode cJ6_bitCount_0f7a4 40 = .ok (.istore_n 0, 1) := by decide +kernel
theorem dJ6_bitCount_0f7a4_41 : decode cJ6_bitCount_0f7a4 41 = .ok (.iload_n 0, 1) := by decide +kernel
theorem dJ6_bitCount_0f7a4_42 : decode cJ6_bitCount_0f7a4 42 = .ok (.iload_n 0, 1) := by decide +kernel
theorem dJ6_bitCount_0f7a4_43 : decode cJ6_bitCount_0f7a4 43 = .ok (.bipush 16, 2) := by decide +kernel
theorem dJ6_bitCount_0f7a4_45 : decode cJ6_bitCount_0f7a4 45 = .ok (.iushr, 1) := by decide +kernel
theorem dJ6_bitCount_0f7a4_46 : decode cJ6_bitCount_0f7a4 46 = .ok (.iadd, 1) := by decide +kernel
theorem dJ6_bitCount_0f7a4_47 : decode cJ6_bitCount_0f7a4 47 = .ok (.istore_n 0, 1) := by decide +kernel
theorem dJ6_bitCount_0f7a4_48 : decode cJ6_bitCount_0f7a4 48 = .ok (.iload_n 0, 1) := by decide +kernel
theorem dJ6_bitCount_0f7a4_49 : decode cJ6_bitCount_0f7a4 49 = .ok (.bipush 63, 2) := by decide +kernel
theorem dJ6_bitCount_0f7a4_51 : decode cJ6_bitCount_0f7a4 51 = .ok (.iand, 1) := by decide +kernel
theorem dJ6_bitCount_0f7a4_52 : decode cJ6_bitCount_0f7a4 52 = .ok (.ireturn, 1) := by decide +kernel
theorem dJ13_numberOfTrailingZeros_95d88_0 : decode cJ13_numberOfTrailingZeros_95d88 0 = .ok (.lload_n 0, 1) := by decide +kernel
theorem dJ13_numberOfTrailingZeros_95d88_1 : decode cJ13_numberOfTrailingZeros_95d88 1 = .ok (.l2i, 1) := by decide +kernel
theorem dJ13_numberOfTrailingZeros_95d88_2 : decode cJ13_numberOfTrailingZeros_95d88 2 = .ok (.istore_n 2, 1) := by decide +kernel
theorem dJ13_numberOfTrailingZeros_95d88_3 : decode cJ13_numberOfTrailingZeros_95d88 3 = .ok (.iload_n 2, 1) := by decide +kernel
theorem dJ13_numberOfTrailingZeros_95d88_4 : decode cJ13_numberOfTrailingZeros_95d88 4 = .ok (.ifCond .ne 17, 3) := by decide +kernel
theorem dJ13_numberOfTrailingZeros_95d88_7 : decode cJ13_numberOfTrailingZeros_95d88 7 = .ok (.bipush 32, 2) := by decide +kernel
theorem dJ13_numberOfTrailingZeros_95d88_9 : decode cJ13_numberOfTrailingZeros_95d88 9 = .ok (.lload_n 0, 1) := by decide +kernel
theorem dJ13_numberOfTrailingZeros_95d88_10 : decode cJ13_numberOfTrailingZeros_95d88 10 = .ok (.bipush 32, 2) := by decide +kernel
theorem dJ13_numberOfTrailingZeros_95d88_12 : decode cJ13_numberOfTrailingZeros_95d88 12 = .ok (.lushr, 1) := by decide +kernel
theorem dJ13_numberOfTrailingZeros_95d88_13 : decode cJ13_numberOfTrailingZeros_95d88 13 = .ok (.l2i, 1) := by decide +kernel
theorem dJ13_numberOfTrailingZeros_95d88_14 : decode cJ13_numberOfTrailingZeros_95d88 14 = .ok (.invokestatic 311, 3) := by decide +kernel
theorem dJ13_numberOfTrailingZeros_95d88_17 : decode cJ13_numberOfTrailingZeros_95d88 17 = .ok (.iadd, 1) := by decide +kernel
theorem dJ13_numberOfTrailingZeros_95d88_18 : decode cJ13_numberOfTrailingZeros_95d88 18 = .ok (.goto 7, 3) := by decide +kernel
theorem dJ13_numberOfTrailingZeros_95d88_21 : decode cJ13_numberOfTrailingZeros_95d88 21 = .ok (.iload_n 2, 1) := by decide +kernel
theorem dJ13_numberOfTrailingZeros_95d88_22 : decode cJ13_numberOfTrailingZeros_95d88 22 = .ok (.invokestatic 311, 3) := by decide +kernel
theorem dJ13_numberOfTrailingZeros_95d88_25 : decode cJ13_numberOfTrailingZeros_95d88 25 = .ok (.ireturn, 1) := by decide +kernel
theorem dJ13_bitCount_95d88_0 : decode cJ13_bitCount_95d88 0 = .ok (.lload_n 0, 1) := by decide +kernel
theorem dJ13_bitCount_95d88_1 : decode cJ13_bitCount_95d88 1 = .ok (.lload_n 0, 1) := by decide +kernel
theorem dJ13_bitCount_95d88_2 : decode cJ13_bitCount_95d88 2 = .ok (.iconst 1, 1) := by decide +kernel
theorem dJ13_bitCount_95d88_3 : decode cJ13_bitCount_95d88 3 = .ok (.lushr, 1) := by decide +kernel
theorem dJ13_bitCount_95d88_4 : decode cJ13_bitCount_95d88 4 = .ok (.ldc2_w 314, 3) := by decide +kernel
theorem dJ13_bitCount_95d88_7 : decode cJ13_bitCount_95d88 7 = .ok (.land, 1) := by decide +kernel
theorem dJ13_bitCount_95d88_8 : decode cJ13_bitCount_95d88 8 = .ok (.lsub, 1) := by decide +kernel
theorem dJ13_bitCount_95d88_9 : decode cJ13_bitCount_95d88 9 = .ok (.lstore_n 0, 1) := by decide +kernel
theorem dJ13_bitCount_95d88_10 : decode cJ13_bitCount_95d88 10 = .ok (.lload_n 0, 1) := by decide +kernel
theorem dJ13_bitCount_95d88_11 : decode cJ13_bitCount_95d88 11 = .ok (.ldc2_w 316, 3) := by decide +kernel
theorem dJ13_bitCount_95d88_14 : decode cJ13_bitCount_95d88 14 = .ok (.land, 1) := by decide +kernel
theorem dJ13_bitCount_95d88_15 : decode cJ13_bitCount_95d88 15 = .ok (.lload_n 0, 1) := by decide +kernel
theorem dJ13_bitCount_95d88_16 : decode cJ13_bitCount_95d88 16 = .ok (.iconst 2, 1) := by decide +kernel
theorem dJ13_bitCount_95d88_17 : decode cJ13_bitCount_95d88 17 = .ok (.lushr, 1) := by decide +kernel
theorem dJ13_bitCount_95d88_18 : decode cJ13_bitCount_95d88 18 = .ok (.ldc2_w 316, 3) := by decide +kernel
theorem dJ13_bitCount_95d88_21 : decode cJ13_bitCount_95d88 21 = .ok (.land, 1) := by decide +kernel
theorem dJ13_bitCount_95d88_22 : decode cJ13_bitCount_95d88 22 = .ok (.ladd, 1) := by decide +kernel
theorem dJ13_bitCount_95d88_23 : decode cJ13_bitCount_95d88 23 = .ok (.lstore_n 0, 1) := by decide +kernel
theorem dJ13_bitCount_95d88_24 : decode cJ13_bitCount_95d88 24 = .ok (.lload_n 0, 1) := by decide +kernel
theorem dJ13_bitCount_95d88_25 : decode cJ13_bitCount_95d88 25 = .ok (.lload_n 0, 1) := by decide +kernel
theorem dJ13_bitCount_95d88_26 : decode cJ13_bitCount_95d88 26 = .ok (.iconst 4, 1) := by decide +kernel
theorem dJ13_bitCount_95d88_27 : decode cJ13_bitCount_95d88 27 = .ok (.lushr, 1) := by decide +kernel
theorem dJ13_bitCount_95d88_28 : decode cJ13_bitCount_95d88 28 = .ok (.ladd, 1) := by decide +kernel
theorem dJ13_bitCount_95d88_29 : decode cJ13_bitCount_95d88 29 = .ok (.ldc2_w 318, 3) := by decide +kernel
theorem dJ13_bitCount_95d88_32 : decode cJ13_bitCount_95d88 32 = .ok (.land, 1) := by decide +kernel
theorem dJ13_bitCount_95d88_33 : decode cJ13_bitCount_95d88 33 = .ok (.lstore_n 0, 1) := by decide +kernel
theorem dJ13_bitCount_95d88_34 : decode cJ13_bitCount_95d88 34 = .ok (.lload_n 0, 1) := by decide +kernel
theorem dJ13_bitCount_95d88_35 : decode cJ13_bitCount_95d88 35 = .ok (.lload_n 0, 1) := by decide +kernel
theorem dJ13_bitCount_95d88_36 : decode cJ13_bitCount_95d88 36 = .ok (.bipush 8, 2) := by decide +kernel
theorem dJ13_bitCount_95d88_38 : decode cJ13_bitCount_95d88 38 = .ok (.lushr, 1) := by decide +kernel
theorem dJ13_bitCount_95d88_39 : decode cJ13_bitCount_95d88 39 = .ok (.ladd, 1) := by decide +kernel
theorem dJ13_bitCount_95d88_40 : decode cJ13_bitCount_95d88 40 = .ok (.lstore_n 0, 1) := by decide +kernel
theorem dJ13_bitCount_95d88_41 : decode cJ13_bitCount_95d88 41 = .ok (.lload_n 0, 1) := by decide +kernel
theorem dJ13_bitCount_95d88_42 : decode cJ13_bitCount_95d88 42 = .ok (.lload_n 0, 1) := by decide +kernel
theorem dJ13_bitCount_95d88_43 : decode cJ13_bitCount_95d88 43 = .ok (.bipush 16, 2) := by decide +kernel
theorem dJ13_bitCount_95d88_45 : decode cJ13_bitCount_95d88 45 = .ok (.lushr, 1) := by decide +kernel
theorem dJ13_bitCount_95d88_46 : decode cJ13_bitCount_95d88 46 = .ok (.ladd, 1) := by decide +kernel
theorem dJ13_bitCount_95d88_47 : decode cJ13_bitCount_95d88 47 = .ok (.lstore_n 0, 1) := by decide +kernel
theorem dJ13_bitCount_95d88_48 : decode cJ13_bitCount_95d88 48 = .ok (.lload_n 0, 1) := by decide +kernel
theorem dJ13_bitCount_95d88_49 : decode cJ13_bitCount_95d88 49 = .ok (.lload_n 0, 1) := by decide +kernel
theorem dJ13_bitCount_95d88_50 : decode cJ13_bitCount_95d88 50 = .ok (.bipush 32, 2) := by decide +kernel
theorem dJ13_bitCount_95d88_52 : decode cJ13_bitCount_95d88 52 = .ok (.lushr, 1) := by decide +kernel
theorem dJ13_bitCount_95d88_53 : decode cJ13_bitCount_95d88 53 = .ok (.ladd, 1) := by decide +kernel
theorem dJ13_bitCount_95d88_54 : decode cJ13_bitCount_95d88 54 = .ok (.lstore_n 0, 1) := by decide +kernel
theorem dJ13_bitCount_95d88_55 : decode cJ13_bitCount_95d88 55 = .ok (.lload_n 0, 1) := by decide +kernel
theorem dJ13_bitCount_95d88_56 : decode cJ13_bitCount_95d88 56 = .ok (.l2i, 1) := by decide +kernel
theorem dJ13_bitCount_95d88_57 : decode cJ13_bitCount_95d88 57 = .ok (.bipush 127, 2) := by decide +kernel
theorem dJ13_bitCount_95d88_59 : decode cJ13_bitCount_95d88 59 = .ok (.iand, 1) := by decide +kernel
theorem dJ13_bitCount_95d88_60 : decode cJ13_bitCount_95d88 60 = .ok (.ireturn, 1) := by decide +kernel
