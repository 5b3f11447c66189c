theorem dX9_init_0 : decode cX9_init 0 = .ok (.aload_n 0, 1) := by decide +kernel
theorem dX9_init_1 : decode cX9_init 1 = .ok (.invokespecial 3, 3) := by decide +kernel
theorem dX9_init_4 : decode cX9_init 4 = .ok (.aload_n 0, 1) := by decide +kernel
theorem dX9_init_5 : decode cX9_init 5 = .ok (.iconst 3, 1) := by decide +kernel
theorem dX9_init_6 : decode cX9_init 6 = .ok (.newarray .int, 2) := by decide +kernel
theorem dX9_init_8 : decode cX9_init 8 = .ok (.putfield 9, 3) := by decide +kernel
theorem dX9_init_11 : decode cX9_init 11 = .ok (.aload_n 0, 1) := by decide +kernel
theorem dX9_init_12 : decode cX9_init 12 = .ok (.iconst (-1), 1) := by decide +kernel
theorem dX9_init_13 : decode cX9_init 13 = .ok (.putfield 13, 3) := by decide +kernel
theorem dX9_init_16 : decode cX9_init 16 = .ok (.aload_n 0, 1) := by decide +kernel
theorem dX9_init_17 : decode cX9_init 17 = .ok (.sipush 600, 3) := by decide +kernel
theorem dX9_init_20 : decode cX9_init 20 = .ok (.newarray .int, 2) := by decide +kernel
theorem dX9_init_22 : decode cX9_init 22 = .ok (.putfield 17, 3) := by decide +kernel
theorem dX9_init_25 : decode cX9_init 25 = .ok (.aload_n 0, 1) := by decide +kernel
theorem dX9_init_26 : decode cX9_init 26 = .ok (.sipush 645, 3) := by decide +kernel
theorem dX9_init_29 : decode cX9_init 29 = .ok (.newarray .long, 2) := by decide +kernel
theorem dX9_init_31 : decode cX9_init 31 = .ok (.putfield 20, 3) := by decide +kernel
theorem dX9_init_34 : decode cX9_init 34 = .ok (.aload_n 0, 1) := by decide +kernel
theorem dX9_init_35 : decode cX9_init 35 = .ok (.sipush 645, 3) := by decide +kernel
theorem dX9_init_38 : decode cX9_init 38 = .ok (.newarray .long, 2) := by decide +kernel
theorem dX9_init_40 : decode cX9_init 40 = .ok (.putfield 24, 3) := by decide +kernel
theorem dX9_init_43 : decode cX9_init 43 = .ok (.aload_n 0, 1) := by decide +kernel
theorem dX9_init_44 : decode cX9_init 44 = .ok (.bipush 8, 2) := by decide +kernel
theorem dX9_init_46 : decode cX9_init 46 = .ok (.sipush 645, 3) := by decide +kernel
theorem dX9_init_49 : decode cX9_init 49 = .ok (.multianewarray 27 2, 4) := by decide +kernel
theorem dX9_init_53 : decode cX9_init 53 = .ok (.putfield 29, 3) := by decide +kernel
theorem dX9_init_56 : decode cX9_init 56 = .ok (.aload_n 0, 1) := by decide +kernel
theorem dX9_init_57 : decode cX9_init 57 = .ok (.bipush 16, 2) := by decide +kernel
theorem dX9_init_59 : decode cX9_init 59 = .ok (.newarray .int, 2) := by decide +kernel
theorem dX9_init_61 : decode cX9_init 61 = .ok (.putfield 32, 3) := by decide +kernel
theorem dX9_init_64 : decode cX9_init 64 = .ok (.aload_n 0, 1) := by decide +kernel
theorem dX9_init_65 : decode cX9_init 65 = .ok (.bipush 16, 2) := by decide +kernel
theorem dX9_init_67 : decode cX9_init 67 = .ok (.newarray .int, 2) := by decide +kernel
theorem dX9_init_69 : decode cX9_init 69 = .ok (.putfield 35, 3) := by decide +kernel
theorem dX9_init_72 : decode cX9_init 72 = .ok (.aload_n 0, 1) := by decide +kernel
theorem dX9_init_73 : decode cX9_init 73 = .ok (.bipush 16, 2) := by decide +kernel
theorem dX9_init_75 : decode cX9_init 75 = .ok (.newarray .int, 2) := by decide +kernel
theorem dX9_init_77 : decode cX9_init 77 = .ok (.putfield 38, 3) := by decide +kernel
theorem dX9_init_80 : decode cX9_init 80 = .ok (.aload_n 0, 1) := by decide +kernel
theorem dX9_init_81 : decode cX9_init 81 = .ok (.bipush 16, 2) := by decide +kernel
theorem dX9_init_83 : decode cX9_init 83 = .ok (.newarray .boolean, 2) := by decide +kernel
theorem dX9_init_85 : decode cX9_init 85 = .ok (.putfield 41, 3) := by decide +kernel
theorem dX9_init_88 : decode cX9_init 88 = .ok (.aload_n 0, 1) := by decide +kernel
theorem dX9_init_89 : decode cX9_init 89 = .ok (.ldc 45, 2) := by decide +kernel
theorem dX9_init_91 : decode cX9_init 91 = .ok (.newarray .int, 2) := by decide +kernel
theorem dX9_init_93 : decode cX9_init 93 = .ok (.putfield 46, 3) := by decide +kernel
theorem dX9_init_96 : decode cX9_init 96 = .ok (.aload_n 0, 1) := by decide +kernel
theorem dX9_init_97 : decode cX9_init 97 = .ok (.ldc 45, 2) := by decide +kernel
theorem dX9_init_99 : decode cX9_init 99 = .ok (.newarray .int, 2) := by decide +kernel
theorem dX9_init_101 : decode cX9_init 101 = .ok (.putfield 49, 3) := by decide +kernel
theorem dX9_init_104 : decode cX9_init 104 = .ok (.aload_n 0, 1) := by decide +kernel
theorem dX9_init_105 : decode cX9_init 105 = .ok (.bipush 48, 2) := by decide +kernel
theorem dX9_init_107 : decode cX9_init 107 = .ok (.newarray .int, 2) := by decide +kernel
theorem dX9_init_109 : decode cX9_init 109 = .ok (.putfield 52, 3) := by decide +kernel
theorem dX9_init_112 : decode cX9_init 112 = .ok (.aload_n 0, 1) := by decide +kernel
theorem dX9_init_113 : decode cX9_init 113 = .ok (.bipush 16, 2) := by decide +kernel
theorem dX9_init_115 : decode cX9_init 115 = .ok (.newarray .int, 2) := by decide +kernel
theorem dX9_init_117 : decode cX9_init 117 = .ok (.putfield 55, 3) := by decide +kernel
theorem dX9_init_120 : decode cX9_init 120 = .ok (.aload_n 0, 1) := by decide +kernel
theorem dX9_init_121 : decode cX9_init 121 = .ok (.getfield 20, 3) := by decide +kernel
theorem dX9_init_124 : decode cX9_init 124 = .ok (.iconst 2, 1) := by decide +kernel
theorem dX9_init_125 : decode cX9_init 125 = .ok (.ldc2_w 58, 3) := by decide +kernel
theorem dX9_init_128 : decode cX9_init 128 = .ok (.lastore, 1) := by decide +kernel
theorem dX9_init_129 : decode cX9_init 129 = .ok (.return_, 1) := by decide +kernel
theorem dX9_thrown_0 : decode cX9_thrown 0 = .ok (.aload_n 0, 1) := by decide +kernel
theorem dX9_thrown_1 : decode cX9_thrown 1 = .ok (.getfield 60, 3) := by decide +kernel
theorem dX9_thrown_4 : decode cX9_thrown 4 = .ok (.ireturn, 1) := by decide +kernel
theorem dX9_bad_0 : decode cX9_bad 0 = .ok (.iload_n 1, 1) := by decide +kernel
theorem dX9_bad_1 : decode cX9_bad 1 = .ok (.ifCond .eq 25, 3) := by decide +kernel
theorem dX9_bad_4 : decode cX9_bad 4 = .ok (.aload_n 0, 1) := by decide +kernel
theorem dX9_bad_5 : decode cX9_bad 5 = .ok (.getfield 60, 3) := by decide +kernel
theorem dX9_bad_8 : decode cX9_bad 8 = .ok (.ifCond .ne 18, 3) := by decide +kernel
theorem dX9_bad_11 : decode cX9_bad 11 = .ok (.aload_n 0, 1) := by decide +kernel
theorem dX9_bad_12 : decode cX9_bad 12 = .ok (.iload_n 2, 1) := by decide +kernel
theorem dX9_bad_13 : decode cX9_bad 13 = .ok (.putfield 60, 3) := by decide +kernel
theorem dX9_bad_16 : decode cX9_bad 16 = .ok (.aload_n 0, 1) := by decide +kernel
theorem dX9_bad_17 : decode cX9_bad 17 = .ok (.getfield 9, 3) := by decide +kernel
theorem dX9_bad_20 : decode cX9_bad 20 = .ok (.iload_n 3, 1) := by decide +kernel
theorem dX9_bad_21 : decode cX9_bad 21 = .ok (.dup2, 1) := by decide +kernel
theorem dX9_bad_22 : decode cX9_bad 22 = .ok (.iaload, 1) := by decide +kernel
theorem dX9_bad_23 : decode cX9_bad 23 = .ok (.iconst 1, 1) := by decide +kernel
theorem dX9_bad_24 : decode cX9_bad 24 = .ok (.iadd, 1) := by decide +kernel
theorem dX9_bad_25 : decode cX9_bad 25 = .ok (.iastore, 1) := by decide +kernel
theorem dX9_bad_26 : decode cX9_bad 26 = .ok (.aload_n 0, 1) := by decide +kernel
theorem dX9_bad_27 : decode cX9_bad 27 = .ok (.getfield 60, 3) := by decide +kernel
theorem dX9_bad_30 : decode cX9_bad 30 = .ok (.ifCond .eq 7, 3) := by decide +kernel
theorem dX9_bad_33 : decode cX9_bad 33 = .ok (.iconst 1, 1) := by decide +kernel
theorem dX9_bad_34 : decode cX9_bad 34 = .ok (.goto 4, 3) := by decide +kernel
theorem dX9_bad_37 : decode cX9_bad 37 = .ok (.iconst 0, 1) := by decide +kernel
theorem dX9_bad_38 : decode cX9_bad 38 = .ok (.ireturn, 1) := by decide +kernel
theorem dX9_in_0 : decode cX9_in 0 = .ok (.iload_n 0, 1) := by decide +kernel
theorem dX9_in_1 : decode cX9_in 1 = .ok (.iload_n 1, 1) := by decide +kernel
theorem dX9_in_2 : decode cX9_in 2 = .ok (.if_icmp .lt 12, 3) := by decide +kernel
theorem dX9_in_5 : decode cX9_in 5 = .ok (.iload_n 0, 1) := by decide +kernel
theorem dX9_in_6 : decode cX9_in 6 = .ok (.iload_n 2, 1) := by decide +kernel
theorem dX9_in_7 : decode cX9_in 7 = .ok (.if_icmp .gt 7, 3) := by decide +kernel
theorem dX9_in_10 : decode cX9_in 10 = .ok (.iconst 1, 1) := by decide +kernel
theorem dX9_in_11 : decode cX9_in 11 = .ok (.goto 4, 3) := by decide +kernel
theorem dX9_in_14 : decode cX9_in 14 = .ok (.iconst 0, 1) := by decide +kernel
theorem dX9_in_15 : decode cX9_in 15 = .ok (.ireturn, 1) := by decide +kernel
theorem dX9_has_0 : decode cX9_has 0 = .ok (.lload_n 0, 1) := by decide +kernel
theorem dX9_has_1 : decode cX9_has 1 = .ok (.iload_n 2, 1) := by decide +kernel
theorem dX9_has_2 : decode cX9_has 2 = .ok (.lshr, 1) := by decide +kernel
theorem dX9_has_3 : decode cX9_has 3 = .ok (.lconst 1, 1) := by decide +kernel
theorem dX9_has_4 : decode cX9_has 4 = .ok (.land, 1) := by decide +kernel
theorem dX9_has_5 : decode cX9_has 5 = .ok (.lconst 1, 1) := by decide +kernel
theorem dX9_has_6 : decode cX9_has 6 = .ok (.lcmp, 1) := by decide +kernel
theorem dX9_has_7 : decode cX9_has 7 = .ok (.ifCond .ne 7, 3) := by decide +kernel
theorem dX9_has_10 : decode cX9_has 10 = .ok (.iconst 1, 1) := by decide +kernel
theorem dX9_has_11 : decode cX9_has 11 = .ok (.goto 4, 3) := by decide +kernel
theorem dX9_has_14 : decode cX9_has 14 = .ok (.iconst 0, 1) := by decide +kernel
theorem dX9_has_15 : decode cX9_has 15 = .ok (.ireturn, 1) := by decide +kernel
theorem dX9_ones_0 : decode cX9_ones 0 = .ok (.iconst 0, 1) := by decide +kernel
theorem dX9_ones_1 : decode cX9_ones 1 = .ok (.istore_n 2, 1) := by decide +kernel
theorem dX9_ones_2 : decode cX9_ones 2 = .ok (.lload_n 0, 1) := by decide +kernel
theorem dX9_ones_3 : decode cX9_ones 3 = .ok (.lstore_n 3, 1) := by decide +kernel
theorem dX9_ones_4 : decode cX9_ones 4 = .ok (.lload_n 3, 1) := by decide +kernel
theorem dX9_ones_5 : decode cX9_ones 5 = .ok (.lconst 0, 1) := by decide +kernel
theorem dX9_ones_6 : decode cX9_ones 6 = .ok (.lcmp, 1) := by decide +kernel
theorem dX9_ones_7 : decode cX9_ones 7 = .ok (.ifCond .eq 15, 3) := by decide +kernel
theorem dX9_ones_10 : decode cX9_ones 10 = .ok (.iinc 2 1, 3) := by decide +kernel
theorem dX9_ones_13 : decode cX9_ones 13 = .ok (.lload_n 3, 1) := by decide +kernel
theorem dX9_ones_14 : decode cX9_ones 14 = .ok (.lload_n 3, 1) := by decide +kernel
theorem dX9_ones_15 : decode cX9_ones 15 = .ok (.lconst 1, 1) := by decide +kernel
theorem dX9_ones_16 : decode cX9_ones 16 = .ok (.lsub, 1) := by decide +kernel
theorem dX9_ones_17 : decode cX9_ones 17 = .ok (.land, 1) := by decide +kernel
theorem dX9_ones_18 : decode cX9_ones 18 = .ok (.lstore_n 3, 1) := by decide +kernel
theorem dX9_ones_19 : decode cX9_ones 19 = .ok (.goto (-15), 3) := by decide +kernel
theorem dX9_ones_22 : decode cX9_ones 22 = .ok (.iload_n 2, 1) := by decide +kernel
theorem dX9_ones_23 : decode cX9_ones 23 = .ok (.ireturn, 1) := by decide +kernel
theorem dX9_feed_0 : decode cX9_feed 0 = .ok (.aload_n 0, 1) := by decide +kernel
theorem dX9_feed_1 : decode cX9_feed 1 = .ok (.iconst 0, 1) := by decide +kernel
theorem dX9_feed_2 : decode cX9_feed 2 = .ok (.putfield 60, 3) := by decide +kernel
theorem dX9_feed_5 : decode cX9_feed 5 = .ok (.aload_n 0, 1) := by decide +kernel
theorem dX9_feed_6 : decode cX9_feed 6 = .ok (.getfield 63, 3) := by decide +kernel
theorem dX9_feed_9 : decode cX9_feed 9 = .ok (.bipush 20, 2) := by decide +kernel
theorem dX9_feed_11 : decode cX9_feed 11 = .ok (.iadd, 1) := by decide +kernel
theorem dX9_feed_12 : decode cX9_feed 12 = .ok (.sipush 600, 3) := by decide +kernel
theorem dX9_feed_15 : decode cX9_feed 15 = .ok (.if_icmp .le 5, 3) := by decide +kernel
theorem dX9_feed_18 : decode cX9_feed 18 = .ok (.iconst (-1), 1) := by decide +kernel
theorem dX9_feed_19 : decode cX9_feed 19 = .ok (.ireturn, 1) := by decide +kernel
theorem dX9_feed_20 : decode cX9_feed 20 = .ok (.iconst 0, 1) := by decide +kernel
theorem dX9_feed_21 : decode cX9_feed 21 = .ok (.istore 6, 2) := by decide +kernel
theorem dX9_feed_23 : decode cX9_feed 23 = .ok (.iload 6, 2) := by decide +kernel
theorem dX9_feed_25 : decode cX9_feed 25 = .ok (.bipush 20, 2) := by decide +kernel
theorem dX9_feed_27 : decode cX9_feed 27 = .ok (.if_icmp .ge 93, 3) := by decide +kernel
theorem dX9_feed_30 : decode cX9_feed 30 = .ok (.iload 6, 2) := by decide +kernel
theorem dX9_feed_32 : decode cX9_feed 32 = .ok (.iconst 4, 1) := by decide +kernel
theorem dX9_feed_33 : decode cX9_feed 33 = .ok (.if_icmp .ge 7, 3) := by decide +kernel
theorem dX9_feed_36 : decode cX9_feed 36 = .ok (.iload_n 1, 1) := by decide +kernel
theorem dX9_feed_37 : decode cX9_feed 37 = .ok (.goto 39, 3) := by decide +kernel
theorem dX9_feed_40 : decode cX9_feed 40 = .ok (.iload 6, 2) := by decide +kernel
theorem dX9_feed_42 : decode cX9_feed 42 = .ok (.bipush 8, 2) := by decide +kernel
theorem dX9_feed_44 : decode cX9_feed 44 = .ok (.if_icmp .ge 7, 3) := by decide +kernel
theorem dX9_feed_47 : decode cX9_feed 47 = .ok (.iload_n 2, 1) := by decide +kernel
theorem dX9_feed_48 : decode cX9_feed 48 = .ok (.goto 28, 3) := by decide +kernel
theorem dX9_feed_51 : decode cX9_feed 51 = .ok (.iload 6, 2) := by decide +kernel
theorem dX9_feed_53 : decode cX9_feed 53 = .ok (.bipush 12, 2) := by decide +kernel
theorem dX9_feed_55 : decode cX9_feed 55 = .ok (.if_icmp .ge 7, 3) := by decide +kernel
theorem dX9_feed_58 : decode cX9_feed 58 = .ok (.iload_n 3, 1) := by decide +kernel
theorem dX9_feed_59 : decode cX9_feed 59 = .ok (.goto 17, 3) := by decide +kernel
theorem dX9_feed_62 : decode cX9_feed 62 = .ok (.iload 6, 2) := by decide +kernel
theorem dX9_feed_64 : decode cX9_feed 64 = .ok (.bipush 16, 2) := by decide +kernel
theorem dX9_feed_66 : decode cX9_feed 66 = .ok (.if_icmp .ge 8, 3) := by decide +kernel
theorem dX9_feed_69 : decode cX9_feed 69 = .ok (.iload 4, 2) := by decide +kernel
theorem dX9_feed_71 : decode cX9_feed 71 = .ok (.goto 5, 3) := by decide +kernel
theorem dX9_feed_74 : decode cX9_feed 74 = .ok (.iload 5, 2) := by decide +kernel
theorem dX9_feed_76 : decode cX9_feed 76 = .ok (.istore 7, 2) := by decide +kernel
theorem dX9_feed_78 : decode cX9_feed 78 = .ok (.aload_n 0, 1) := by decide +kernel
theorem dX9_feed_79 : decode cX9_feed 79 = .ok (.getfield 17, 3) := by decide +kernel
theorem dX9_feed_82 : decode cX9_feed 82 = .ok (.aload_n 0, 1) := by decide +kernel
theorem dX9_feed_83 : decode cX9_feed 83 = .ok (.getfield 63, 3) := by decide +kernel
theorem dX9_feed_86 : decode cX9_feed 86 = .ok (.iload 7, 2) := by decide +kernel
theorem dX9_feed_88 : decode cX9_feed 88 = .ok (.bipush 24, 2) := by decide +kernel
theorem dX9_feed_90 : decode cX9_feed 90 = .ok (.bipush 8, 2) := by decide +kernel
theorem dX9_feed_92 : decode cX9_feed 92 = .ok (.iload 6, 2) := by decide +kernel
theorem dX9_feed_94 : decode cX9_feed 94 = .ok (.iconst 4, 1) := by decide +kernel
theorem dX9_feed_95 : decode cX9_feed 95 = .ok (.irem, 1) := by decide +kernel
theorem dX9_feed_96 : decode cX9_feed 96 = .ok (.imul, 1) := by decide +kernel
theorem dX9_feed_97 : decode cX9_feed 97 = .ok (.isub, 1) := by decide +kernel
theorem dX9_feed_98 : decode cX9_feed 98 = .ok (.ishr, 1) := by decide +kernel
theorem dX9_feed_99 : decode cX9_feed 99 = .ok (.sipush 255, 3) := by decide +kernel
theorem dX9_feed_102 : decode cX9_feed 102 = .ok (.iand, 1) := by decide +kernel
theorem dX9_feed_103 : decode cX9_feed 103 = .ok (.iastore, 1) := by decide +kernel
theorem dX9_feed_104 : decode cX9_feed 104 = .ok (.aload_n 0, 1) := by decide +kernel
theorem dX9_feed_105 : decode cX9_feed 105 = .ok (.dup, 1) := by decide +kernel
theorem dX9_feed_106 : decode cX9_feed 106 = .ok (.getfield 63, 3) := by decide +kernel
theorem dX9_feed_109 : decode cX9_feed 109 = .ok (.iconst 1, 1) := by decide +kernel
theorem dX9_feed_110 : decode cX9_feed 110 = .ok (.iadd, 1) := by decide +kernel
theorem dX9_feed_111 : decode cX9_feed 111 = .ok (.putfield 63, 3) := by decide +kernel
theorem dX9_feed_114 : decode cX9_feed 114 = .ok (.iinc 6 1, 3) := by decide +kernel
theorem dX9_feed_117 : decode cX9_feed 117 = .ok (.goto (-94), 3) := by decide +kernel
theorem dX9_feed_120 : decode cX9_feed 120 = .ok (.aload_n 0, 1) := by decide +kernel
theorem dX9_feed_121 : decode cX9_feed 121 = .ok (.getfield 63, 3) := by decide +kernel
theorem dX9_feed_124 : decode cX9_feed 124 = .ok (.ireturn, 1) := by decide +kernel
theorem dX9_copies_0 : decode cX9_copies 0 = .ok (.iconst 0, 1) := by decide +kernel
theorem dX9_copies_1 : decode cX9_copies 1 = .ok (.istore_n 2, 1) := by decide +kernel
theorem dX9_copies_2 : decode cX9_copies 2 = .ok (.iload_n 2, 1) := by decide +kernel
theorem dX9_copies_3 : decode cX9_copies 3 = .ok (.sipush 645, 3) := by decide +kernel
theorem dX9_copies_6 : decode cX9_copies 6 = .ok (.if_icmp .ge 15, 3) := by decide +kernel
theorem dX9_copies_9 : decode cX9_copies 9 = .ok (.aload_n 1, 1) := by decide +kernel
theorem dX9_copies_10 : decode cX9_copies 10 = .ok (.iload_n 2, 1) := by decide +kernel
theorem dX9_copies_11 : decode cX9_copies 11 = .ok (.aload_n 0, 1) := by decide +kernel
theorem dX9_copies_12 : decode cX9_copies 12 = .ok (.iload_n 2, 1) := by decide +kernel
theorem dX9_copies_13 : decode cX9_copies 13 = .ok (.laload, 1) := by decide +kernel
theorem dX9_copies_14 : decode cX9_copies 14 = .ok (.lastore, 1) := by decide +kernel
theorem dX9_copies_15 : decode cX9_copies 15 = .ok (.iinc 2 1, 3) := by decide +kernel
theorem dX9_copies_18 : decode cX9_copies 18 = .ok (.goto (-16), 3) := by decide +kernel
theorem dX9_copies_21 : decode cX9_copies 21 = .ok (.return_, 1) := by decide +kernel
theorem dX9_sentenceAt_0 : decode cX9_sentenceAt 0 = .ok (.iconst 5, 1) := by decide +kernel
theorem dX9_sentenceAt_1 : decode cX9_sentenceAt 1 = .ok (.iconst 4, 1) := by decide +kernel
theorem dX9_sentenceAt_2 : decode cX9_sentenceAt 2 = .ok (.iload_n 0, 1) := by decide +kernel
theorem dX9_sentenceAt_3 : decode cX9_sentenceAt 3 = .ok (.imul, 1) := by decide +kernel
theorem dX9_sentenceAt_4 : decode cX9_sentenceAt 4 = .ok (.iadd, 1) := by decide +kernel
theorem dX9_sentenceAt_5 : decode cX9_sentenceAt 5 = .ok (.ireturn, 1) := by decide +kernel
theorem dX9_wordAt_0 : decode cX9_wordAt 0 = .ok (.bipush 69, 2) := by decide +kernel
theorem dX9_wordAt_2 : decode cX9_wordAt 2 = .ok (.bipush 12, 2) := by decide +kernel
theorem dX9_wordAt_4 : decode cX9_wordAt 4 = .ok (.iload_n 0, 1) := by decide +kernel
theorem dX9_wordAt_5 : decode cX9_wordAt 5 = .ok (.imul, 1) := by decide +kernel
theorem dX9_wordAt_6 : decode cX9_wordAt 6 = .ok (.iadd, 1) := by decide +kernel
theorem dX9_wordAt_7 : decode cX9_wordAt 7 = .ok (.ireturn, 1) := by decide +kernel
theorem dX9_many_0 : decode cX9_many 0 = .ok (.aload_n 0, 1) := by decide +kernel
theorem dX9_many_1 : decode cX9_many 1 = .ok (.getfield 20, 3) := by decide +kernel
theorem dX9_many_4 : decode cX9_many 4 = .ok (.iconst 0, 1) := by decide +kernel
theorem dX9_many_5 : decode cX9_many 5 = .ok (.laload, 1) := by decide +kernel
theorem dX9_many_6 : decode cX9_many 6 = .ok (.l2i, 1) := by decide +kernel
theorem dX9_many_7 : decode cX9_many 7 = .ok (.ireturn, 1) := by decide +kernel
theorem dX9_wordMany_0 : decode cX9_wordMany 0 = .ok (.aload_n 0, 1) := by decide +kernel
theorem dX9_wordMany_1 : decode cX9_wordMany 1 = .ok (.getfield 20, 3) := by decide +kernel
theorem dX9_wordMany_4 : decode cX9_wordMany 4 = .ok (.iconst 1, 1) := by decide +kernel
theorem dX9_wordMany_5 : decode cX9_wordMany 5 = .ok (.laload, 1) := by decide +kernel
theorem dX9_wordMany_6 : decode cX9_wordMany 6 = .ok (.l2i, 1) := by decide +kernel
theorem dX9_wordMany_7 : decode cX9_wordMany 7 = .ok (.ireturn, 1) := by decide +kernel
theorem dX9_wordsOf_0 : decode cX9_wordsOf 0 = .ok (.aload_n 0, 1) := by decide +kernel
theorem dX9_wordsOf_1 : decode cX9_wordsOf 1 = .ok (.getfield 20, 3) := by decide +kernel
theorem dX9_wordsOf_4 : decode cX9_wordsOf 4 = .ok (.iload_n 1, 1) := by decide +kernel
theorem dX9_wordsOf_5 : decode cX9_wordsOf 5 = .ok (.invokestatic 66, 3) := by decide +kernel
theorem dX9_wordsOf_8 : decode cX9_wordsOf 8 = .ok (.laload, 1) := by decide +kernel
theorem dX9_wordsOf_9 : decode cX9_wordsOf 9 = .ok (.lreturn, 1) := by decide +kernel
theorem dX9_lengthOf_0 : decode cX9_lengthOf 0 = .ok (.aload_n 0, 1) := by decide +kernel
theorem dX9_lengthOf_1 : decode cX9_lengthOf 1 = .ok (.getfield 20, 3) := by decide +kernel
theorem dX9_lengthOf_4 : decode cX9_lengthOf 4 = .ok (.iload_n 1, 1) := by decide +kernel
theorem dX9_lengthOf_5 : decode cX9_lengthOf 5 = .ok (.invokestatic 66, 3) := by decide +kernel
theorem dX9_lengthOf_8 : decode cX9_lengthOf 8 = .ok (.iconst 1, 1) := by decide +kernel
theorem dX9_lengthOf_9 : decode cX9_lengthOf 9 = .ok (.iadd, 1) := by decide +kernel
theorem dX9_lengthOf_10 : decode cX9_lengthOf 10 = .ok (.laload, 1) := by decide +kernel
theorem dX9_lengthOf_11 : decode cX9_lengthOf 11 = .ok (.l2i, 1) := by decide +kernel
theorem dX9_lengthOf_12 : decode cX9_lengthOf 12 = .ok (.ireturn, 1) := by decide +kernel
theorem dX9_byteAt_0 : decode cX9_byteAt 0 = .ok (.iload_n 1, 1) := by decide +kernel
theorem dX9_byteAt_1 : decode cX9_byteAt 1 = .ok (.aload_n 0, 1) := by decide +kernel
theorem dX9_byteAt_2 : decode cX9_byteAt 2 = .ok (.getfield 70, 3) := by decide +kernel
theorem dX9_byteAt_5 : decode cX9_byteAt 5 = .ok (.if_icmp .lt 7, 3) := by decide +kernel
theorem dX9_byteAt_8 : decode cX9_byteAt 8 = .ok (.iconst (-1), 1) := by decide +kernel
theorem dX9_byteAt_9 : decode cX9_byteAt 9 = .ok (.goto 9, 3) := by decide +kernel
theorem dX9_byteAt_12 : decode cX9_byteAt 12 = .ok (.aload_n 0, 1) := by decide +kernel
theorem dX9_byteAt_13 : decode cX9_byteAt 13 = .ok (.getfield 17, 3) := by decide +kernel
theorem dX9_byteAt_16 : decode cX9_byteAt 16 = .ok (.iload_n 1, 1) := by decide +kernel
theorem dX9_byteAt_17 : decode cX9_byteAt 17 = .ok (.iaload, 1) := by decide +kernel
theorem dX9_byteAt_18 : decode cX9_byteAt 18 = .ok (.ireturn, 1) := by decide +kernel
theorem dX9_here_0 : decode cX9_here 0 = .ok (.aload_n 0, 1) := by decide +kernel
theorem dX9_here_1 : decode cX9_here 1 = .ok (.aload_n 0, 1) := by decide +kernel
theorem dX9_here_2 : decode cX9_here 2 = .ok (.getfield 73, 3) := by decide +kernel
theorem dX9_here_5 : decode cX9_here 5 = .ok (.invokevirtual 76, 3) := by decide +kernel
theorem dX9_here_8 : decode cX9_here 8 = .ok (.bipush 32, 2) := by decide +kernel
theorem dX9_here_10 : decode cX9_here 10 = .ok (.if_icmp .ne 16, 3) := by decide +kernel
theorem dX9_here_13 : decode cX9_here 13 = .ok (.aload_n 0, 1) := by decide +kernel
theorem dX9_here_14 : decode cX9_here 14 = .ok (.dup, 1) := by decide +kernel
theorem dX9_here_15 : decode cX9_here 15 = .ok (.getfield 73, 3) := by decide +kernel
theorem dX9_here_18 : decode cX9_here 18 = .ok (.iconst 1, 1) := by decide +kernel
theorem dX9_here_19 : decode cX9_here 19 = .ok (.iadd, 1) := by decide +kernel
theorem dX9_here_20 : decode cX9_here 20 = .ok (.putfield 73, 3) := by decide +kernel
theorem dX9_here_23 : decode cX9_here 23 = .ok (.goto (-23), 3) := by decide +kernel
theorem dX9_here_26 : decode cX9_here 26 = .ok (.aload_n 0, 1) := by decide +kernel
theorem dX9_here_27 : decode cX9_here 27 = .ok (.aload_n 0, 1) := by decide +kernel
theorem dX9_here_28 : decode cX9_here 28 = .ok (.getfield 73, 3) := by decide +kernel
theorem dX9_here_31 : decode cX9_here 31 = .ok (.invokevirtual 76, 3) := by decide +kernel
theorem dX9_here_34 : decode cX9_here 34 = .ok (.ireturn, 1) := by decide +kernel
theorem dX9_fine_0 : decode cX9_fine 0 = .ok (.aload_n 0, 1) := by decide +kernel
theorem dX9_fine_1 : decode cX9_fine 1 = .ok (.getfield 79, 3) := by decide +kernel
theorem dX9_fine_4 : decode cX9_fine 4 = .ok (.ifCond .ne 7, 3) := by decide +kernel
theorem dX9_fine_7 : decode cX9_fine 7 = .ok (.iconst 1, 1) := by decide +kernel
theorem dX9_fine_8 : decode cX9_fine 8 = .ok (.goto 4, 3) := by decide +kernel
theorem dX9_fine_11 : decode cX9_fine 11 = .ok (.iconst 0, 1) := by decide +kernel
theorem dX9_fine_12 : decode cX9_fine 12 = .ok (.ireturn, 1) := by decide +kernel
theorem dX9_wrong_0 : decode cX9_wrong 0 = .ok (.aload_n 0, 1) := by decide +kernel
theorem dX9_wrong_1 : decode cX9_wrong 1 = .ok (.getfield 79, 3) := by decide +kernel
theorem dX9_wrong_4 : decode cX9_wrong 4 = .ok (.ifCond .ne 13, 3) := by decide +kernel
theorem dX9_wrong_7 : decode cX9_wrong 7 = .ok (.aload_n 0, 1) := by decide +kernel
theorem dX9_wrong_8 : decode cX9_wrong 8 = .ok (.iload_n 1, 1) := by decide +kernel
theorem dX9_wrong_9 : decode cX9_wrong 9 = .ok (.putfield 79, 3) := by decide +kernel
theorem dX9_wrong_12 : decode cX9_wrong 12 = .ok (.aload_n 0, 1) := by decide +kernel
theorem dX9_wrong_13 : decode cX9_wrong 13 = .ok (.iload_n 2, 1) := by decide +kernel
theorem dX9_wrong_14 : decode cX9_wrong 14 = .ok (.putfield 82, 3) := by decide +kernel
theorem dX9_wrong_17 : decode cX9_wrong 17 = .ok (.return_, 1) := by decide +kernel
theorem dX9_isSmall_0 : decode cX9_isSmall 0 = .ok (.iload_n 0, 1) := by decide +kernel
theorem dX9_isSmall_1 : decode cX9_isSmall 1 = .ok (.bipush 97, 2) := by decide +kernel
theorem dX9_isSmall_3 : decode cX9_isSmall 3 = .ok (.if_icmp .lt 13, 3) := by decide +kernel
theorem dX9_isSmall_6 : decode cX9_isSmall 6 = .ok (.iload_n 0, 1) := by decide +kernel
theorem dX9_isSmall_7 : decode cX9_isSmall 7 = .ok (.bipush 122, 2) := by decide +kernel
theorem dX9_isSmall_9 : decode cX9_isSmall 9 = .ok (.if_icmp .gt 7, 3) := by decide +kernel
theorem dX9_isSmall_12 : decode cX9_isSmall 12 = .ok (.iconst 1, 1) := by decide +kernel
theorem dX9_isSmall_13 : decode cX9_isSmall 13 = .ok (.goto 4, 3) := by decide +kernel
theorem dX9_isSmall_16 : decode cX9_isSmall 16 = .ok (.iconst 0, 1) := by decide +kernel
theorem dX9_isSmall_17 : decode cX9_isSmall 17 = .ok (.ireturn, 1) := by decide +kernel
theorem dX9_readsWord_0 : decode cX9_readsWord 0 = .ok (.aload_n 0, 1) := by decide +kernel
theorem dX9_readsWord_1 : decode cX9_readsWord 1 = .ok (.getfield 73, 3) := by decide +kernel
theorem dX9_readsWord_4 : decode cX9_readsWord 4 = .ok (.istore_n 2, 1) := by decide +kernel
theorem dX9_readsWord_5 : decode cX9_readsWord 5 = .ok (.iconst 0, 1) := by decide +kernel
theorem dX9_readsWord_6 : decode cX9_readsWord 6 = .ok (.istore_n 3, 1) := by decide +kernel
theorem dX9_readsWord_7 : decode cX9_readsWord 7 = .ok (.iload_n 1, 1) := by decide +kernel
theorem dX9_readsWord_8 : decode cX9_readsWord 8 = .ok (.invokestatic 66, 3) := by decide +kernel
theorem dX9_readsWord_11 : decode cX9_readsWord 11 = .ok (.istore 4, 2) := by decide +kernel
theorem dX9_readsWord_13 : decode cX9_readsWord 13 = .ok (.aload_n 0, 1) := by decide +kernel
theorem dX9_readsWord_14 : decode cX9_readsWord 14 = .ok (.aload_n 0, 1) := by decide +kernel
theorem dX9_readsWord_15 : decode cX9_readsWord 15 = .ok (.getfield 73, 3) := by decide +kernel
theorem dX9_readsWord_18 : decode cX9_readsWord 18 = .ok (.invokevirtual 76, 3) := by decide +kernel
theorem dX9_readsWord_21 : decode cX9_readsWord 21 = .ok (.invokestatic 85, 3) := by decide +kernel
theorem dX9_readsWord_24 : decode cX9_readsWord 24 = .ok (.ifCond .eq 19, 3) := by decide +kernel
theorem dX9_readsWord_27 : decode cX9_readsWord 27 = .ok (.aload_n 0, 1) := by decide +kernel
theorem dX9_readsWord_28 : decode cX9_readsWord 28 = .ok (.dup, 1) := by decide +kernel
theorem dX9_readsWord_29 : decode cX9_readsWord 29 = .ok (.getfield 73, 3) := by decide +kernel
theorem dX9_readsWord_32 : decode cX9_readsWord 32 = .ok (.iconst 1, 1) := by decide +kernel
theorem dX9_readsWord_33 : decode cX9_readsWord 33 = .ok (.iadd, 1) := by decide +kernel
theorem dX9_readsWord_34 : decode cX9_readsWord 34 = .ok (.putfield 73, 3) := by decide +kernel
theorem dX9_readsWord_37 : decode cX9_readsWord 37 = .ok (.iinc 3 1, 3) := by decide +kernel
theorem dX9_readsWord_40 : decode cX9_readsWord 40 = .ok (.goto (-27), 3) := by decide +kernel
theorem dX9_readsWord_43 : decode cX9_readsWord 43 = .ok (.iload_n 3, 1) := by decide +kernel
theorem dX9_readsWord_44 : decode cX9_readsWord 44 = .ok (.bipush 10, 2) := by decide +kernel
theorem dX9_readsWord_46 : decode cX9_readsWord 46 = .ok (.if_icmp .le 9, 3) := by decide +kernel
theorem dX9_readsWord_49 : decode cX9_readsWord 49 = .ok (.aload_n 0, 1) := by decide +kernel
theorem dX9_readsWord_50 : decode cX9_readsWord 50 = .ok (.iconst 2, 1) := by decide +kernel
theorem dX9_readsWord_51 : decode cX9_readsWord 51 = .ok (.iload_n 2, 1) := by decide +kernel
theorem dX9_readsWord_52 : decode cX9_readsWord 52 = .ok (.invokevirtual 89, 3) := by decide +kernel
theorem dX9_readsWord_55 : decode cX9_readsWord 55 = .ok (.aload_n 0, 1) := by decide +kernel
theorem dX9_readsWord_56 : decode cX9_readsWord 56 = .ok (.getfield 24, 3) := by decide +kernel
theorem dX9_readsWord_59 : decode cX9_readsWord 59 = .ok (.iload 4, 2) := by decide +kernel
theorem dX9_readsWord_61 : decode cX9_readsWord 61 = .ok (.iconst 2, 1) := by decide +kernel
theorem dX9_readsWord_62 : decode cX9_readsWord 62 = .ok (.iadd, 1) := by decide +kernel
theorem dX9_readsWord_63 : decode cX9_readsWord 63 = .ok (.laload, 1) := by decide +kernel
theorem dX9_readsWord_64 : decode cX9_readsWord 64 = .ok (.ldc2_w 93, 3) := by decide +kernel
theorem dX9_readsWord_67 : decode cX9_readsWord 67 = .ok (.lcmp, 1) := by decide +kernel
theorem dX9_readsWord_68 : decode cX9_readsWord 68 = .ok (.ifCond .ne 9, 3) := by decide +kernel
theorem dX9_readsWord_71 : decode cX9_readsWord 71 = .ok (.aload_n 0, 1) := by decide +kernel
theorem dX9_readsWord_72 : decode cX9_readsWord 72 = .ok (.iconst 3, 1) := by decide +kernel
theorem dX9_readsWord_73 : decode cX9_readsWord 73 = .ok (.iload_n 2, 1) := by decide +kernel
theorem dX9_readsWord_74 : decode cX9_readsWord 74 = .ok (.invokevirtual 89, 3) := by decide +kernel
theorem dX9_readsWord_77 : decode cX9_readsWord 77 = .ok (.aload_n 0, 1) := by decide +kernel
theorem dX9_readsWord_78 : decode cX9_readsWord 78 = .ok (.invokevirtual 95, 3) := by decide +kernel
theorem dX9_readsWord_81 : decode cX9_readsWord 81 = .ok (.ifCond .ne 4, 3) := by decide +kernel
theorem dX9_readsWord_84 : decode cX9_readsWord 84 = .ok (.return_, 1) := by decide +kernel
theorem dX9_readsWord_85 : decode cX9_readsWord 85 = .ok (.iconst 0, 1) := by decide +kernel
theorem dX9_readsWord_86 : decode cX9_readsWord 86 = .ok (.istore 5, 2) := by decide +kernel
theorem dX9_readsWord_88 : decode cX9_readsWord 88 = .ok (.iload 5, 2) := by decide +kernel
theorem dX9_readsWord_90 : decode cX9_readsWord 90 = .ok (.i2l, 1) := by decide +kernel
theorem dX9_readsWord_91 : decode cX9_readsWord 91 = .ok (.aload_n 0, 1) := by decide +kernel
theorem dX9_readsWord_92 : decode cX9_readsWord 92 = .ok (.getfield 24, 3) := by decide +kernel
theorem dX9_readsWord_95 : decode cX9_readsWord 95 = .ok (.iconst 1, 1) := by decide +kernel
theorem dX9_readsWord_96 : decode cX9_readsWord 96 = .ok (.laload, 1) := by decide +kernel
theorem dX9_readsWord_97 : decode cX9_readsWord 97 = .ok (.lcmp, 1) := by decide +kernel
theorem dX9_readsWord_98 : decode cX9_readsWord 98 = .ok (.ifCond .ge 20, 3) := by decide +kernel
theorem dX9_readsWord_101 : decode cX9_readsWord 101 = .ok (.aload_n 0, 1) := by decide +kernel
theorem dX9_readsWord_102 : decode cX9_readsWord 102 = .ok (.iload 5, 2) := by decide +kernel
theorem dX9_readsWord_104 : decode cX9_readsWord 104 = .ok (.iload_n 2, 1) := by decide +kernel
theorem dX9_readsWord_105 : decode cX9_readsWord 105 = .ok (.iload_n 3, 1) := by decide +kernel
theorem dX9_readsWord_106 : decode cX9_readsWord 106 = .ok (.invokevirtual 99, 3) := by decide +kernel
theorem dX9_readsWord_109 : decode cX9_readsWord 109 = .ok (.ifCond .ne 9, 3) := by decide +kernel
theorem dX9_readsWord_112 : decode cX9_readsWord 112 = .ok (.iinc 5 1, 3) := by decide +kernel
theorem dX9_readsWord_115 : decode cX9_readsWord 115 = .ok (.goto (-27), 3) := by decide +kernel
theorem dX9_readsWord_118 : decode cX9_readsWord 118 = .ok (.iload 5, 2) := by decide +kernel
theorem dX9_readsWord_120 : decode cX9_readsWord 120 = .ok (.bipush 48, 2) := by decide +kernel
theorem dX9_readsWord_122 : decode cX9_readsWord 122 = .ok (.if_icmp .ne 10, 3) := by decide +kernel
theorem dX9_readsWord_125 : decode cX9_readsWord 125 = .ok (.aload_n 0, 1) := by decide +kernel
theorem dX9_readsWord_126 : decode cX9_readsWord 126 = .ok (.iconst 3, 1) := by decide +kernel
theorem dX9_readsWord_127 : decode cX9_readsWord 127 = .ok (.iload_n 2, 1) := by decide +kernel
theorem dX9_readsWord_128 : decode cX9_readsWord 128 = .ok (.invokevirtual 89, 3) := by decide +kernel
theorem dX9_readsWord_131 : decode cX9_readsWord 131 = .ok (.return_, 1) := by decide +kernel
theorem dX9_readsWord_132 : decode cX9_readsWord 132 = .ok (.iload 5, 2) := by decide +kernel
theorem dX9_readsWord_134 : decode cX9_readsWord 134 = .ok (.i2l, 1) := by decide +kernel
theorem dX9_readsWord_135 : decode cX9_readsWord 135 = .ok (.aload_n 0, 1) := by decide +kernel
theorem dX9_readsWord_136 : decode cX9_readsWord 136 = .ok (.getfield 24, 3) := by decide +kernel
theorem dX9_readsWord_139 : decode cX9_readsWord 139 = .ok (.iconst 1, 1) := by decide +kernel
theorem dX9_readsWord_140 : decode cX9_readsWord 140 = .ok (.laload, 1) := by decide +kernel
theorem dX9_readsWord_141 : decode cX9_readsWord 141 = .ok (.lcmp, 1) := by decide +kernel
theorem dX9_readsWord_142 : decode cX9_readsWord 142 = .ok (.ifCond .ne 95, 3) := by decide +kernel
theorem dX9_readsWord_145 : decode cX9_readsWord 145 = .ok (.aload_n 0, 1) := by decide +kernel
theorem dX9_readsWord_146 : decode cX9_readsWord 146 = .ok (.getfield 24, 3) := by decide +kernel
theorem dX9_readsWord_149 : decode cX9_readsWord 149 = .ok (.iconst 1, 1) := by decide +kernel
theorem dX9_readsWord_150 : decode cX9_readsWord 150 = .ok (.dup2, 1) := by decide +kernel
theorem dX9_readsWord_151 : decode cX9_readsWord 151 = .ok (.laload, 1) := by decide +kernel
theorem dX9_readsWord_152 : decode cX9_readsWord 152 = .ok (.lconst 1, 1) := by decide +kernel
theorem dX9_readsWord_153 : decode cX9_readsWord 153 = .ok (.ladd, 1) := by decide +kernel
theorem dX9_readsWord_154 : decode cX9_readsWord 154 = .ok (.lastore, 1) := by decide +kernel
theorem dX9_readsWord_155 : decode cX9_readsWord 155 = .ok (.iconst 0, 1) := by decide +kernel
theorem dX9_readsWord_156 : decode cX9_readsWord 156 = .ok (.istore 6, 2) := by decide +kernel
theorem dX9_readsWord_158 : decode cX9_readsWord 158 = .ok (.iload 6, 2) := by decide +kernel
theorem dX9_readsWord_160 : decode cX9_readsWord 160 = .ok (.bipush 10, 2) := by decide +kernel
theorem dX9_readsWord_162 : decode cX9_readsWord 162 = .ok (.if_icmp .ge 42, 3) := by decide +kernel
theorem dX9_readsWord_165 : decode cX9_readsWord 165 = .ok (.aload_n 0, 1) := by decide +kernel
theorem dX9_readsWord_166 : decode cX9_readsWord 166 = .ok (.getfield 24, 3) := by decide +kernel
theorem dX9_readsWord_169 : decode cX9_readsWord 169 = .ok (.iload 5, 2) := by decide +kernel
theorem dX9_readsWord_171 : decode cX9_readsWord 171 = .ok (.invokestatic 103, 3) := by decide +kernel
theorem dX9_readsWord_174 : decode cX9_readsWord 174 = .ok (.iload 6, 2) := by decide +kernel
theorem dX9_readsWord_176 : decode cX9_readsWord 176 = .ok (.iadd, 1) := by decide +kernel
theorem dX9_readsWord_177 : decode cX9_readsWord 177 = .ok (.iload 6, 2) := by decide +kernel
theorem dX9_readsWord_179 : decode cX9_readsWord 179 = .ok (.iload_n 3, 1) := by decide +kernel
theorem dX9_readsWord_180 : decode cX9_readsWord 180 = .ok (.if_icmp .ge 16, 3) := by decide +kernel
theorem dX9_readsWord_183 : decode cX9_readsWord 183 = .ok (.aload_n 0, 1) := by decide +kernel
theorem dX9_readsWord_184 : decode cX9_readsWord 184 = .ok (.getfield 17, 3) := by decide +kernel
theorem dX9_readsWord_187 : decode cX9_readsWord 187 = .ok (.iload_n 2, 1) := by decide +kernel
theorem dX9_readsWord_188 : decode cX9_readsWord 188 = .ok (.iload 6, 2) := by decide +kernel
theorem dX9_readsWord_190 : decode cX9_readsWord 190 = .ok (.iadd, 1) := by decide +kernel
theorem dX9_readsWord_191 : decode cX9_readsWord 191 = .ok (.iaload, 1) := by decide +kernel
theorem dX9_readsWord_192 : decode cX9_readsWord 192 = .ok (.i2l, 1) := by decide +kernel
theorem dX9_readsWord_193 : decode cX9_readsWord 193 = .ok (.goto 4, 3) := by decide +kernel
theorem dX9_readsWord_196 : decode cX9_readsWord 196 = .ok (.lconst 0, 1) := by decide +kernel
theorem dX9_readsWord_197 : decode cX9_readsWord 197 = .ok (.lastore, 1) := by decide +kernel
theorem dX9_readsWord_198 : decode cX9_readsWord 198 = .ok (.iinc 6 1, 3) := by decide +kernel
theorem dX9_readsWord_201 : decode cX9_readsWord 201 = .ok (.goto (-43), 3) := by decide +kernel
theorem dX9_readsWord_204 : decode cX9_readsWord 204 = .ok (.aload_n 0, 1) := by decide +kernel
theorem dX9_readsWord_205 : decode cX9_readsWord 205 = .ok (.getfield 24, 3) := by decide +kernel
theorem dX9_readsWord_208 : decode cX9_readsWord 208 = .ok (.iload 5, 2) := by decide +kernel
theorem dX9_readsWord_210 : decode cX9_readsWord 210 = .ok (.invokestatic 103, 3) := by decide +kernel
theorem dX9_readsWord_213 : decode cX9_readsWord 213 = .ok (.bipush 10, 2) := by decide +kernel
theorem dX9_readsWord_215 : decode cX9_readsWord 215 = .ok (.iadd, 1) := by decide +kernel
theorem dX9_readsWord_216 : decode cX9_readsWord 216 = .ok (.iload_n 3, 1) := by decide +kernel
theorem dX9_readsWord_217 : decode cX9_readsWord 217 = .ok (.i2l, 1) := by decide +kernel
theorem dX9_readsWord_218 : decode cX9_readsWord 218 = .ok (.lastore, 1) := by decide +kernel
theorem dX9_readsWord_219 : decode cX9_readsWord 219 = .ok (.aload_n 0, 1) := by decide +kernel
theorem dX9_readsWord_220 : decode cX9_readsWord 220 = .ok (.getfield 24, 3) := by decide +kernel
theorem dX9_readsWord_223 : decode cX9_readsWord 223 = .ok (.iload 5, 2) := by decide +kernel
theorem dX9_readsWord_225 : decode cX9_readsWord 225 = .ok (.invokestatic 103, 3) := by decide +kernel
theorem dX9_readsWord_228 : decode cX9_readsWord 228 = .ok (.bipush 10, 2) := by decide +kernel
theorem dX9_readsWord_230 : decode cX9_readsWord 230 = .ok (.iadd, 1) := by decide +kernel
theorem dX9_readsWord_231 : decode cX9_readsWord 231 = .ok (.iconst 1, 1) := by decide +kernel
theorem dX9_readsWord_232 : decode cX9_readsWord 232 = .ok (.iadd, 1) := by decide +kernel
theorem dX9_readsWord_233 : decode cX9_readsWord 233 = .ok (.ldc2_w 106, 3) := by decide +kernel
theorem dX9_readsWord_236 : decode cX9_readsWord 236 = .ok (.lastore, 1) := by decide +kernel
theorem dX9_readsWord_237 : decode cX9_readsWord 237 = .ok (.aload_n 0, 1) := by decide +kernel
theorem dX9_readsWord_238 : decode cX9_readsWord 238 = .ok (.getfield 24, 3) := by decide +kernel
theorem dX9_readsWord_241 : decode cX9_readsWord 241 = .ok (.iload 4, 2) := by decide +kernel
theorem dX9_readsWord_243 : decode cX9_readsWord 243 = .ok (.iconst 2, 1) := by decide +kernel
theorem dX9_readsWord_244 : decode cX9_readsWord 244 = .ok (.iadd, 1) := by decide +kernel
theorem dX9_readsWord_245 : decode cX9_readsWord 245 = .ok (.laload, 1) := by decide +kernel
theorem dX9_readsWord_246 : decode cX9_readsWord 246 = .ok (.lconst 0, 1) := by decide +kernel
theorem dX9_readsWord_247 : decode cX9_readsWord 247 = .ok (.lcmp, 1) := by decide +kernel
theorem dX9_readsWord_248 : decode cX9_readsWord 248 = .ok (.ifCond .ne 15, 3) := by decide +kernel
theorem dX9_readsWord_251 : decode cX9_readsWord 251 = .ok (.aload_n 0, 1) := by decide +kernel
theorem dX9_readsWord_252 : decode cX9_readsWord 252 = .ok (.getfield 24, 3) := by decide +kernel
theorem dX9_readsWord_255 : decode cX9_readsWord 255 = .ok (.iload 4, 2) := by decide +kernel
theorem dX9_readsWord_257 : decode cX9_readsWord 257 = .ok (.iconst 3, 1) := by decide +kernel
theorem dX9_readsWord_258 : decode cX9_readsWord 258 = .ok (.iadd, 1) := by decide +kernel
theorem dX9_readsWord_259 : decode cX9_readsWord 259 = .ok (.iload 5, 2) := by decide +kernel
theorem dX9_readsWord_261 : decode cX9_readsWord 261 = .ok (.i2l, 1) := by decide +kernel
theorem dX9_readsWord_262 : decode cX9_readsWord 262 = .ok (.lastore, 1) := by decide +kernel
theorem dX9_readsWord_263 : decode cX9_readsWord 263 = .ok (.aload_n 0, 1) := by decide +kernel
theorem dX9_readsWord_264 : decode cX9_readsWord 264 = .ok (.getfield 24, 3) := by decide +kernel
theorem dX9_readsWord_267 : decode cX9_readsWord 267 = .ok (.iload 4, 2) := by decide +kernel
theorem dX9_readsWord_269 : decode cX9_readsWord 269 = .ok (.dup2, 1) := by decide +kernel
theorem dX9_readsWord_270 : decode cX9_readsWord 270 = .ok (.laload, 1) := by decide +kernel
theorem dX9_readsWord_271 : decode cX9_readsWord 271 = .ok (.lconst 1, 1) := by decide +kernel
theorem dX9_readsWord_272 : decode cX9_readsWord 272 = .ok (.iload 5, 2) := by decide +kernel
theorem dX9_readsWord_274 : decode cX9_readsWord 274 = .ok (.lshl, 1) := by decide +kernel
theorem dX9_readsWord_275 : decode cX9_readsWord 275 = .ok (.lor, 1) := by decide +kernel
theorem dX9_readsWord_276 : decode cX9_readsWord 276 = .ok (.lastore, 1) := by decide +kernel
theorem dX9_readsWord_277 : decode cX9_readsWord 277 = .ok (.aload_n 0, 1) := by decide +kernel
theorem dX9_readsWord_278 : decode cX9_readsWord 278 = .ok (.getfield 24, 3) := by decide +kernel
theorem dX9_readsWord_281 : decode cX9_readsWord 281 = .ok (.iload 4, 2) := by decide +kernel
theorem dX9_readsWord_283 : decode cX9_readsWord 283 = .ok (.iconst 1, 1) := by decide +kernel
theorem dX9_readsWord_284 : decode cX9_readsWord 284 = .ok (.iadd, 1) := by decide +kernel
theorem dX9_readsWord_285 : decode cX9_readsWord 285 = .ok (.dup2, 1) := by decide +kernel
theorem dX9_readsWord_286 : decode cX9_readsWord 286 = .ok (.laload, 1) := by decide +kernel
theorem dX9_readsWord_287 : decode cX9_readsWord 287 = .ok (.iload_n 3, 1) := by decide +kernel
theorem dX9_readsWord_288 : decode cX9_readsWord 288 = .ok (.iconst 1, 1) := by decide +kernel
theorem dX9_readsWord_289 : decode cX9_readsWord 289 = .ok (.iadd, 1) := by decide +kernel
theorem dX9_readsWord_290 : decode cX9_readsWord 290 = .ok (.i2l, 1) := by decide +kernel
theorem dX9_readsWord_291 : decode cX9_readsWord 291 = .ok (.ladd, 1) := by decide +kernel
theorem dX9_readsWord_292 : decode cX9_readsWord 292 = .ok (.lastore, 1) := by decide +kernel
theorem dX9_readsWord_293 : decode cX9_readsWord 293 = .ok (.aload_n 0, 1) := by decide +kernel
theorem dX9_readsWord_294 : decode cX9_readsWord 294 = .ok (.getfield 24, 3) := by decide +kernel
theorem dX9_readsWord_297 : decode cX9_readsWord 297 = .ok (.iload 4, 2) := by decide +kernel
theorem dX9_readsWord_299 : decode cX9_readsWord 299 = .ok (.iconst 2, 1) := by decide +kernel
theorem dX9_readsWord_300 : decode cX9_readsWord 300 = .ok (.iadd, 1) := by decide +kernel
theorem dX9_readsWord_301 : decode cX9_readsWord 301 = .ok (.dup2, 1) := by decide +kernel
theorem dX9_readsWord_302 : decode cX9_readsWord 302 = .ok (.laload, 1) := by decide +kernel
theorem dX9_readsWord_303 : decode cX9_readsWord 303 = .ok (.lconst 1, 1) := by decide +kernel
theorem dX9_readsWord_304 : decode cX9_readsWord 304 = .ok (.ladd, 1) := by decide +kernel
theorem dX9_readsWord_305 : decode cX9_readsWord 305 = .ok (.lastore, 1) := by decide +kernel
theorem dX9_readsWord_306 : decode cX9_readsWord 306 = .ok (.return_, 1) := by decide +kernel
theorem dX9_isWord_0 : decode cX9_isWord 0 = .ok (.aload_n 0, 1) := by decide +kernel
theorem dX9_isWord_1 : decode cX9_isWord 1 = .ok (.getfield 24, 3) := by decide +kernel
theorem dX9_isWord_4 : decode cX9_isWord 4 = .ok (.iload_n 1, 1) := by decide +kernel
theorem dX9_isWord_5 : decode cX9_isWord 5 = .ok (.invokestatic 103, 3) := by decide +kernel
theorem dX9_isWord_8 : decode cX9_isWord 8 = .ok (.bipush 10, 2) := by decide +kernel
theorem dX9_isWord_10 : decode cX9_isWord 10 = .ok (.iadd, 1) := by decide +kernel
theorem dX9_isWord_11 : decode cX9_isWord 11 = .ok (.laload, 1) := by decide +kernel
theorem dX9_isWord_12 : decode cX9_isWord 12 = .ok (.iload_n 3, 1) := by decide +kernel
theorem dX9_isWord_13 : decode cX9_isWord 13 = .ok (.i2l, 1) := by decide +kernel
theorem dX9_isWord_14 : decode cX9_isWord 14 = .ok (.lcmp, 1) := by decide +kernel
theorem dX9_isWord_15 : decode cX9_isWord 15 = .ok (.ifCond .ne 7, 3) := by decide +kernel
theorem dX9_isWord_18 : decode cX9_isWord 18 = .ok (.iconst 1, 1) := by decide +kernel
theorem dX9_isWord_19 : decode cX9_isWord 19 = .ok (.goto 4, 3) := by decide +kernel
theorem dX9_isWord_22 : decode cX9_isWord 22 = .ok (.iconst 0, 1) := by decide +kernel
theorem dX9_isWord_23 : decode cX9_isWord 23 = .ok (.istore 4, 2) := by decide +kernel
theorem dX9_isWord_25 : decode cX9_isWord 25 = .ok (.iconst 0, 1) := by decide +kernel
theorem dX9_isWord_26 : decode cX9_isWord 26 = .ok (.istore 5, 2) := by decide +kernel
theorem dX9_isWord_28 : decode cX9_isWord 28 = .ok (.iload 5, 2) := by decide +kernel
theorem dX9_isWord_30 : decode cX9_isWord 30 = .ok (.iload_n 3, 1) := by decide +kernel
theorem dX9_isWord_31 : decode cX9_isWord 31 = .ok (.if_icmp .ge 47, 3) := by decide +kernel
theorem dX9_isWord_34 : decode cX9_isWord 34 = .ok (.iload 4, 2) := by decide +kernel
theorem dX9_isWord_36 : decode cX9_isWord 36 = .ok (.ifCond .eq 42, 3) := by decide +kernel
theorem dX9_isWord_39 : decode cX9_isWord 39 = .ok (.aload_n 0, 1) := by decide +kernel
theorem dX9_isWord_40 : decode cX9_isWord 40 = .ok (.getfield 24, 3) := by decide +kernel
theorem dX9_isWord_43 : decode cX9_isWord 43 = .ok (.iload_n 1, 1) := by decide +kernel
theorem dX9_isWord_44 : decode cX9_isWord 44 = .ok (.invokestatic 103, 3) := by decide +kernel
theorem dX9_isWord_47 : decode cX9_isWord 47 = .ok (.iload 5, 2) := by decide +kernel
theorem dX9_isWord_49 : decode cX9_isWord 49 = .ok (.iadd, 1) := by decide +kernel
theorem dX9_isWord_50 : decode cX9_isWord 50 = .ok (.laload, 1) := by decide +kernel
theorem dX9_isWord_51 : decode cX9_isWord 51 = .ok (.aload_n 0, 1) := by decide +kernel
theorem dX9_isWord_52 : decode cX9_isWord 52 = .ok (.getfield 17, 3) := by decide +kernel
theorem dX9_isWord_55 : decode cX9_isWord 55 = .ok (.iload_n 2, 1) := by decide +kernel
theorem dX9_isWord_56 : decode cX9_isWord 56 = .ok (.iload 5, 2) := by decide +kernel
theorem dX9_isWord_58 : decode cX9_isWord 58 = .ok (.iadd, 1) := by decide +kernel
theorem dX9_isWord_59 : decode cX9_isWord 59 = .ok (.iaload, 1) := by decide +kernel
theorem dX9_isWord_60 : decode cX9_isWord 60 = .ok (.i2l, 1) := by decide +kernel
theorem dX9_isWord_61 : decode cX9_isWord 61 = .ok (.lcmp, 1) := by decide +kernel
theorem dX9_isWord_62 : decode cX9_isWord 62 = .ok (.ifCond .ne 7, 3) := by decide +kernel
theorem dX9_isWord_65 : decode cX9_isWord 65 = .ok (.iconst 1, 1) := by decide +kernel
theorem dX9_isWord_66 : decode cX9_isWord 66 = .ok (.goto 4, 3) := by decide +kernel
theorem dX9_isWord_69 : decode cX9_isWord 69 = .ok (.iconst 0, 1) := by decide +kernel
theorem dX9_isWord_70 : decode cX9_isWord 70 = .ok (.istore 4, 2) := by decide +kernel
theorem dX9_isWord_72 : decode cX9_isWord 72 = .ok (.iinc 5 1, 3) := by decide +kernel
theorem dX9_isWord_75 : decode cX9_isWord 75 = .ok (.goto (-47), 3) := by decide +kernel
theorem dX9_isWord_78 : decode cX9_isWord 78 = .ok (.iload 4, 2) := by decide +kernel
theorem dX9_isWord_80 : decode cX9_isWord 80 = .ok (.ireturn, 1) := by decide +kernel
theorem dX9_readsSentence_0 : decode cX9_readsSentence 0 = .ok (.aload_n 0, 1) := by decide +kernel
theorem dX9_readsSentence_1 : decode cX9_readsSentence 1 = .ok (.getfield 24, 3) := by decide +kernel
theorem dX9_readsSentence_4 : decode cX9_readsSentence 4 = .ok (.iconst 0, 1) := by decide +kernel
theorem dX9_readsSentence_5 : decode cX9_readsSentence 5 = .ok (.laload, 1) := by decide +kernel
theorem dX9_readsSentence_6 : decode cX9_readsSentence 6 = .ok (.l2i, 1) := by decide +kernel
theorem dX9_readsSentence_7 : decode cX9_readsSentence 7 = .ok (.istore_n 1, 1) := by decide +kernel
theorem dX9_readsSentence_8 : decode cX9_readsSentence 8 = .ok (.aload_n 0, 1) := by decide +kernel
theorem dX9_readsSentence_9 : decode cX9_readsSentence 9 = .ok (.getfield 73, 3) := by decide +kernel
theorem dX9_readsSentence_12 : decode cX9_readsSentence 12 = .ok (.istore_n 2, 1) := by decide +kernel
theorem dX9_readsSentence_13 : decode cX9_readsSentence 13 = .ok (.aload_n 0, 1) := by decide +kernel
theorem dX9_readsSentence_14 : decode cX9_readsSentence 14 = .ok (.invokevirtual 108, 3) := by decide +kernel
theorem dX9_readsSentence_17 : decode cX9_readsSentence 17 = .ok (.invokestatic 85, 3) := by decide +kernel
theorem dX9_readsSentence_20 : decode cX9_readsSentence 20 = .ok (.ifCond .ne 13, 3) := by decide +kernel
theorem dX9_readsSentence_23 : decode cX9_readsSentence 23 = .ok (.aload_n 0, 1) := by decide +kernel
theorem dX9_readsSentence_24 : decode cX9_readsSentence 24 = .ok (.iconst 1, 1) := by decide +kernel
theorem dX9_readsSentence_25 : decode cX9_readsSentence 25 = .ok (.aload_n 0, 1) := by decide +kernel
theorem dX9_readsSentence_26 : decode cX9_readsSentence 26 = .ok (.getfield 73, 3) := by decide +kernel
theorem dX9_readsSentence_29 : decode cX9_readsSentence 29 = .ok (.invokevirtual 89, 3) := by decide +kernel
theorem dX9_readsSentence_32 : decode cX9_readsSentence 32 = .ok (.return_, 1) := by decide +kernel
theorem dX9_readsSentence_33 : decode cX9_readsSentence 33 = .ok (.iload_n 1, 1) := by decide +kernel
theorem dX9_readsSentence_34 : decode cX9_readsSentence 34 = .ok (.bipush 16, 2) := by decide +kernel
theorem dX9_readsSentence_36 : decode cX9_readsSentence 36 = .ok (.if_icmp .ne 47, 3) := by decide +kernel
theorem dX9_readsSentence_39 : decode cX9_readsSentence 39 = .ok (.iconst 0, 1) := by decide +kernel
theorem dX9_readsSentence_40 : decode cX9_readsSentence 40 = .ok (.istore_n 3, 1) := by decide +kernel
theorem dX9_readsSentence_41 : decode cX9_readsSentence 41 = .ok (.aload_n 0, 1) := by decide +kernel
theorem dX9_readsSentence_42 : decode cX9_readsSentence 42 = .ok (.aload_n 0, 1) := by decide +kernel
theorem dX9_readsSentence_43 : decode cX9_readsSentence 43 = .ok (.getfield 73, 3) := by decide +kernel
theorem dX9_readsSentence_46 : decode cX9_readsSentence 46 = .ok (.iload_n 3, 1) := by decide +kernel
theorem dX9_readsSentence_47 : decode cX9_readsSentence 47 = .ok (.iadd, 1) := by decide +kernel
theorem dX9_readsSentence_48 : decode cX9_readsSentence 48 = .ok (.invokevirtual 76, 3) := by decide +kernel
theorem dX9_readsSentence_51 : decode cX9_readsSentence 51 = .ok (.invokestatic 85, 3) := by decide +kernel
theorem dX9_readsSentence_54 : decode cX9_readsSentence 54 = .ok (.ifCond .eq 9, 3) := by decide +kernel
theorem dX9_readsSentence_57 : decode cX9_readsSentence 57 = .ok (.iinc 3 1, 3) := by decide +kernel
theorem dX9_readsSentence_60 : decode cX9_readsSentence 60 = .ok (.goto (-19), 3) := by decide +kernel
theorem dX9_readsSentence_63 : decode cX9_readsSentence 63 = .ok (.aload_n 0, 1) := by decide +kernel
theorem dX9_readsSentence_64 : decode cX9_readsSentence 64 = .ok (.iload_n 3, 1) := by decide +kernel
theorem dX9_readsSentence_65 : decode cX9_readsSentence 65 = .ok (.bipush 10, 2) := by decide +kernel
theorem dX9_readsSentence_67 : decode cX9_readsSentence 67 = .ok (.if_icmp .le 7, 3) := by decide +kernel
theorem dX9_readsSentence_70 : decode cX9_readsSentence 70 = .ok (.iconst 2, 1) := by decide +kernel
theorem dX9_readsSentence_71 : decode cX9_readsSentence 71 = .ok (.goto 4, 3) := by decide +kernel
theorem dX9_readsSentence_74 : decode cX9_readsSentence 74 = .ok (.iconst 3, 1) := by decide +kernel
theorem dX9_readsSentence_75 : decode cX9_readsSentence 75 = .ok (.aload_n 0, 1) := by decide +kernel
theorem dX9_readsSentence_76 : decode cX9_readsSentence 76 = .ok (.getfield 73, 3) := by decide +kernel
theorem dX9_readsSentence_79 : decode cX9_readsSentence 79 = .ok (.invokevirtual 89, 3) := by decide +kernel
theorem dX9_readsSentence_82 : decode cX9_readsSentence 82 = .ok (.return_, 1) := by decide +kernel
theorem dX9_readsSentence_83 : decode cX9_readsSentence 83 = .ok (.iconst 0, 1) := by decide +kernel
theorem dX9_readsSentence_84 : decode cX9_readsSentence 84 = .ok (.istore_n 3, 1) := by decide +kernel
theorem dX9_readsSentence_85 : decode cX9_readsSentence 85 = .ok (.iload_n 3, 1) := by decide +kernel
theorem dX9_readsSentence_86 : decode cX9_readsSentence 86 = .ok (.iconst 4, 1) := by decide +kernel
theorem dX9_readsSentence_87 : decode cX9_readsSentence 87 = .ok (.if_icmp .ge 21, 3) := by decide +kernel
theorem dX9_readsSentence_90 : decode cX9_readsSentence 90 = .ok (.aload_n 0, 1) := by decide +kernel
theorem dX9_readsSentence_91 : decode cX9_readsSentence 91 = .ok (.getfield 24, 3) := by decide +kernel
theorem dX9_readsSentence_94 : decode cX9_readsSentence 94 = .ok (.iload_n 1, 1) := by decide +kernel
theorem dX9_readsSentence_95 : decode cX9_readsSentence 95 = .ok (.invokestatic 66, 3) := by decide +kernel
theorem dX9_readsSentence_98 : decode cX9_readsSentence 98 = .ok (.iload_n 3, 1) := by decide +kernel
theorem dX9_readsSentence_99 : decode cX9_readsSentence 99 = .ok (.iadd, 1) := by decide +kernel
theorem dX9_readsSentence_100 : decode cX9_readsSentence 100 = .ok (.lconst 0, 1) := by decide +kernel
theorem dX9_readsSentence_101 : decode cX9_readsSentence 101 = .ok (.lastore, 1) := by decide +kernel
theorem dX9_readsSentence_102 : decode cX9_readsSentence 102 = .ok (.iinc 3 1, 3) := by decide +kernel
theorem dX9_readsSentence_105 : decode cX9_readsSentence 105 = .ok (.goto (-20), 3) := by decide +kernel
theorem dX9_readsSentence_108 : decode cX9_readsSentence 108 = .ok (.aload_n 0, 1) := by decide +kernel
theorem dX9_readsSentence_109 : decode cX9_readsSentence 109 = .ok (.invokevirtual 95, 3) := by decide +kernel
theorem dX9_readsSentence_112 : decode cX9_readsSentence 112 = .ok (.ifCond .eq 21, 3) := by decide +kernel
theorem dX9_readsSentence_115 : decode cX9_readsSentence 115 = .ok (.aload_n 0, 1) := by decide +kernel
theorem dX9_readsSentence_116 : decode cX9_readsSentence 116 = .ok (.invokevirtual 108, 3) := by decide +kernel
theorem dX9_readsSentence_119 : decode cX9_readsSentence 119 = .ok (.invokestatic 85, 3) := by decide +kernel
theorem dX9_readsSentence_122 : decode cX9_readsSentence 122 = .ok (.ifCond .eq 11, 3) := by decide +kernel
theorem dX9_readsSentence_125 : decode cX9_readsSentence 125 = .ok (.aload_n 0, 1) := by decide +kernel
theorem dX9_readsSentence_126 : decode cX9_readsSentence 126 = .ok (.iload_n 1, 1) := by decide +kernel
theorem dX9_readsSentence_127 : decode cX9_readsSentence 127 = .ok (.invokevirtual 112, 3) := by decide +kernel
theorem dX9_readsSentence_130 : decode cX9_readsSentence 130 = .ok (.goto (-22), 3) := by decide +kernel
theorem dX9_readsSentence_133 : decode cX9_readsSentence 133 = .ok (.aload_n 0, 1) := by decide +kernel
theorem dX9_readsSentence_134 : decode cX9_readsSentence 134 = .ok (.invokevirtual 95, 3) := by decide +kernel
theorem dX9_readsSentence_137 : decode cX9_readsSentence 137 = .ok (.ifCond .eq 21, 3) := by decide +kernel
theorem dX9_readsSentence_140 : decode cX9_readsSentence 140 = .ok (.aload_n 0, 1) := by decide +kernel
theorem dX9_readsSentence_141 : decode cX9_readsSentence 141 = .ok (.invokevirtual 108, 3) := by decide +kernel
theorem dX9_readsSentence_144 : decode cX9_readsSentence 144 = .ok (.bipush 46, 2) := by decide +kernel
theorem dX9_readsSentence_146 : decode cX9_readsSentence 146 = .ok (.if_icmp .eq 12, 3) := by decide +kernel
theorem dX9_readsSentence_149 : decode cX9_readsSentence 149 = .ok (.aload_n 0, 1) := by decide +kernel
theorem dX9_readsSentence_150 : decode cX9_readsSentence 150 = .ok (.iconst 1, 1) := by decide +kernel
theorem dX9_readsSentence_151 : decode cX9_readsSentence 151 = .ok (.aload_n 0, 1) := by decide +kernel
theorem dX9_readsSentence_152 : decode cX9_readsSentence 152 = .ok (.getfield 73, 3) := by decide +kernel
theorem dX9_readsSentence_155 : decode cX9_readsSentence 155 = .ok (.invokevirtual 89, 3) := by decide +kernel
theorem dX9_readsSentence_158 : decode cX9_readsSentence 158 = .ok (.aload_n 0, 1) := by decide +kernel
theorem dX9_readsSentence_159 : decode cX9_readsSentence 159 = .ok (.dup, 1) := by decide +kernel
theorem dX9_readsSentence_160 : decode cX9_readsSentence 160 = .ok (.getfield 73, 3) := by decide +kernel
theorem dX9_readsSentence_163 : decode cX9_readsSentence 163 = .ok (.iconst 1, 1) := by decide +kernel
theorem dX9_readsSentence_164 : decode cX9_readsSentence 164 = .ok (.iadd, 1) := by decide +kernel
theorem dX9_readsSentence_165 : decode cX9_readsSentence 165 = .ok (.putfield 73, 3) := by decide +kernel
theorem dX9_readsSentence_168 : decode cX9_readsSentence 168 = .ok (.aload_n 0, 1) := by decide +kernel
theorem dX9_readsSentence_169 : decode cX9_readsSentence 169 = .ok (.getfield 24, 3) := by decide +kernel
theorem dX9_readsSentence_172 : decode cX9_readsSentence 172 = .ok (.iconst 0, 1) := by decide +kernel
theorem dX9_readsSentence_173 : decode cX9_readsSentence 173 = .ok (.dup2, 1) := by decide +kernel
theorem dX9_readsSentence_174 : decode cX9_readsSentence 174 = .ok (.laload, 1) := by decide +kernel
theorem dX9_readsSentence_175 : decode cX9_readsSentence 175 = .ok (.lconst 1, 1) := by decide +kernel
theorem dX9_readsSentence_176 : decode cX9_readsSentence 176 = .ok (.ladd, 1) := by decide +kernel
theorem dX9_readsSentence_177 : decode cX9_readsSentence 177 = .ok (.lastore, 1) := by decide +kernel
theorem dX9_readsSentence_178 : decode cX9_readsSentence 178 = .ok (.return_, 1) := by decide +kernel
theorem dX9_text_0 : decode cX9_text 0 = .ok (.aload_n 0, 1) := by decide +kernel
theorem dX9_text_1 : decode cX9_text 1 = .ok (.iconst 0, 1) := by decide +kernel
theorem dX9_text_2 : decode cX9_text 2 = .ok (.putfield 60, 3) := by decide +kernel
theorem dX9_text_5 : decode cX9_text 5 = .ok (.aload_n 0, 1) := by decide +kernel
theorem dX9_text_6 : decode cX9_text 6 = .ok (.iload_n 1, 1) := by decide +kernel
theorem dX9_text_7 : decode cX9_text 7 = .ok (.iconst 0, 1) := by decide +kernel
theorem dX9_text_8 : decode cX9_text 8 = .ok (.aload_n 0, 1) := by decide +kernel
theorem dX9_text_9 : decode cX9_text 9 = .ok (.getfield 63, 3) := by decide +kernel
theorem dX9_text_12 : decode cX9_text 12 = .ok (.invokestatic 116, 3) := by decide +kernel
theorem dX9_text_15 : decode cX9_text 15 = .ok (.ifCond .ne 7, 3) := by decide +kernel
theorem dX9_text_18 : decode cX9_text 18 = .ok (.iconst 1, 1) := by decide +kernel
theorem dX9_text_19 : decode cX9_text 19 = .ok (.goto 4, 3) := by decide +kernel
theorem dX9_text_22 : decode cX9_text 22 = .ok (.iconst 0, 1) := by decide +kernel
theorem dX9_text_23 : decode cX9_text 23 = .ok (.iconst 1, 1) := by decide +kernel
theorem dX9_text_24 : decode cX9_text 24 = .ok (.iconst 1, 1) := by decide +kernel
theorem dX9_text_25 : decode cX9_text 25 = .ok (.invokevirtual 119, 3) := by decide +kernel
theorem dX9_text_28 : decode cX9_text 28 = .ok (.ifCond .eq 5, 3) := by decide +kernel
theorem dX9_text_31 : decode cX9_text 31 = .ok (.iconst 0, 1) := by decide +kernel
theorem dX9_text_32 : decode cX9_text 32 = .ok (.ireturn, 1) := by decide +kernel
theorem dX9_text_33 : decode cX9_text 33 = .ok (.aload_n 0, 1) := by decide +kernel
theorem dX9_text_34 : decode cX9_text 34 = .ok (.iconst 0, 1) := by decide +kernel
theorem dX9_text_35 : decode cX9_text 35 = .ok (.putfield 63, 3) := by decide +kernel
theorem dX9_text_38 : decode cX9_text 38 = .ok (.aload_n 0, 1) := by decide +kernel
theorem dX9_text_39 : decode cX9_text 39 = .ok (.iload_n 1, 1) := by decide +kernel
theorem dX9_text_40 : decode cX9_text 40 = .ok (.putfield 70, 3) := by decide +kernel
theorem dX9_text_43 : decode cX9_text 43 = .ok (.aload_n 0, 1) := by decide +kernel
theorem dX9_text_44 : decode cX9_text 44 = .ok (.iconst 0, 1) := by decide +kernel
theorem dX9_text_45 : decode cX9_text 45 = .ok (.putfield 73, 3) := by decide +kernel
theorem dX9_text_48 : decode cX9_text 48 = .ok (.aload_n 0, 1) := by decide +kernel
theorem dX9_text_49 : decode cX9_text 49 = .ok (.iconst 0, 1) := by decide +kernel
theorem dX9_text_50 : decode cX9_text 50 = .ok (.putfield 79, 3) := by decide +kernel
theorem dX9_text_53 : decode cX9_text 53 = .ok (.aload_n 0, 1) := by decide +kernel
theorem dX9_text_54 : decode cX9_text 54 = .ok (.iconst (-1), 1) := by decide +kernel
theorem dX9_text_55 : decode cX9_text 55 = .ok (.putfield 82, 3) := by decide +kernel
theorem dX9_text_58 : decode cX9_text 58 = .ok (.iconst 0, 1) := by decide +kernel
theorem dX9_text_59 : decode cX9_text 59 = .ok (.istore_n 2, 1) := by decide +kernel
theorem dX9_text_60 : decode cX9_text 60 = .ok (.iload_n 2, 1) := by decide +kernel
theorem dX9_text_61 : decode cX9_text 61 = .ok (.sipush 645, 3) := by decide +kernel
theorem dX9_text_64 : decode cX9_text 64 = .ok (.if_icmp .ge 16, 3) := by decide +kernel
theorem dX9_text_67 : decode cX9_text 67 = .ok (.aload_n 0, 1) := by decide +kernel
theorem dX9_text_68 : decode cX9_text 68 = .ok (.getfield 24, 3) := by decide +kernel
theorem dX9_text_71 : decode cX9_text 71 = .ok (.iload_n 2, 1) := by decide +kernel
theorem dX9_text_72 : decode cX9_text 72 = .ok (.lconst 0, 1) := by decide +kernel
theorem dX9_text_73 : decode cX9_text 73 = .ok (.lastore, 1) := by decide +kernel
theorem dX9_text_74 : decode cX9_text 74 = .ok (.iinc 2 1, 3) := by decide +kernel
theorem dX9_text_77 : decode cX9_text 77 = .ok (.goto (-17), 3) := by decide +kernel
theorem dX9_text_80 : decode cX9_text 80 = .ok (.aload_n 0, 1) := by decide +kernel
theorem dX9_text_81 : decode cX9_text 81 = .ok (.getfield 24, 3) := by decide +kernel
theorem dX9_text_84 : decode cX9_text 84 = .ok (.iconst 2, 1) := by decide +kernel
theorem dX9_text_85 : decode cX9_text 85 = .ok (.aload_n 0, 1) := by decide +kernel
theorem dX9_text_86 : decode cX9_text 86 = .ok (.getfield 20, 3) := by decide +kernel
theorem dX9_text_89 : decode cX9_text 89 = .ok (.iconst 2, 1) := by decide +kernel
theorem dX9_text_90 : decode cX9_text 90 = .ok (.laload, 1) := by decide +kernel
theorem dX9_text_91 : decode cX9_text 91 = .ok (.lastore, 1) := by decide +kernel
theorem dX9_text_92 : decode cX9_text 92 = .ok (.aload_n 0, 1) := by decide +kernel
theorem dX9_text_93 : decode cX9_text 93 = .ok (.invokevirtual 95, 3) := by decide +kernel
theorem dX9_text_96 : decode cX9_text 96 = .ok (.ifCond .eq 18, 3) := by decide +kernel
theorem dX9_text_99 : decode cX9_text 99 = .ok (.aload_n 0, 1) := by decide +kernel
theorem dX9_text_100 : decode cX9_text 100 = .ok (.invokevirtual 108, 3) := by decide +kernel
theorem dX9_text_103 : decode cX9_text 103 = .ok (.iconst (-1), 1) := by decide +kernel
theorem dX9_text_104 : decode cX9_text 104 = .ok (.if_icmp .eq 10, 3) := by decide +kernel
theorem dX9_text_107 : decode cX9_text 107 = .ok (.aload_n 0, 1) := by decide +kernel
theorem dX9_text_108 : decode cX9_text 108 = .ok (.invokevirtual 123, 3) := by decide +kernel
theorem dX9_text_111 : decode cX9_text 111 = .ok (.goto (-19), 3) := by decide +kernel
theorem dX9_text_114 : decode cX9_text 114 = .ok (.aload_n 0, 1) := by decide +kernel
theorem dX9_text_115 : decode cX9_text 115 = .ok (.aload_n 0, 1) := by decide +kernel
theorem dX9_text_116 : decode cX9_text 116 = .ok (.getfield 82, 3) := by decide +kernel
theorem dX9_text_119 : decode cX9_text 119 = .ok (.putfield 13, 3) := by decide +kernel
theorem dX9_text_122 : decode cX9_text 122 = .ok (.aload_n 0, 1) := by decide +kernel
theorem dX9_text_123 : decode cX9_text 123 = .ok (.invokevirtual 95, 3) := by decide +kernel
theorem dX9_text_126 : decode cX9_text 126 = .ok (.ifCond .ne 11, 3) := by decide +kernel
theorem dX9_text_129 : decode cX9_text 129 = .ok (.aload_n 0, 1) := by decide +kernel
theorem dX9_text_130 : decode cX9_text 130 = .ok (.getfield 79, 3) := by decide +kernel
theorem dX9_text_133 : decode cX9_text 133 = .ok (.bipush 10, 2) := by decide +kernel
theorem dX9_text_135 : decode cX9_text 135 = .ok (.isub, 1) := by decide +kernel
theorem dX9_text_136 : decode cX9_text 136 = .ok (.ireturn, 1) := by decide +kernel
theorem dX9_text_137 : decode cX9_text 137 = .ok (.aload_n 0, 1) := by decide +kernel
theorem dX9_text_138 : decode cX9_text 138 = .ok (.invokevirtual 126, 3) := by decide +kernel
theorem dX9_text_141 : decode cX9_text 141 = .ok (.aload_n 0, 1) := by decide +kernel
theorem dX9_text_142 : decode cX9_text 142 = .ok (.getfield 24, 3) := by decide +kernel
theorem dX9_text_145 : decode cX9_text 145 = .ok (.aload_n 0, 1) := by decide +kernel
theorem dX9_text_146 : decode cX9_text 146 = .ok (.getfield 20, 3) := by decide +kernel
theorem dX9_text_149 : decode cX9_text 149 = .ok (.invokestatic 129, 3) := by decide +kernel
theorem dX9_text_152 : decode cX9_text 152 = .ok (.aload_n 0, 1) := by decide +kernel
theorem dX9_text_153 : decode cX9_text 153 = .ok (.invokevirtual 133, 3) := by decide +kernel
theorem dX9_text_156 : decode cX9_text 156 = .ok (.ireturn, 1) := by decide +kernel
theorem dX9_fault_0 : decode cX9_fault 0 = .ok (.aload_n 0, 1) := by decide +kernel
theorem dX9_fault_1 : decode cX9_fault 1 = .ok (.iconst 0, 1) := by decide +kernel
theorem dX9_fault_2 : decode cX9_fault 2 = .ok (.putfield 60, 3) := by decide +kernel
theorem dX9_fault_5 : decode cX9_fault 5 = .ok (.aload_n 0, 1) := by decide +kernel
theorem dX9_fault_6 : decode cX9_fault 6 = .ok (.getfield 13, 3) := by decide +kernel
theorem dX9_fault_9 : decode cX9_fault 9 = .ok (.ireturn, 1) := by decide +kernel
theorem dX9_standsIn_0 : decode cX9_standsIn 0 = .ok (.iconst 0, 1) := by decide +kernel
theorem dX9_standsIn_1 : decode cX9_standsIn 1 = .ok (.istore_n 2, 1) := by decide +kernel
theorem dX9_standsIn_2 : decode cX9_standsIn 2 = .ok (.iconst 0, 1) := by decide +kernel
theorem dX9_standsIn_3 : decode cX9_standsIn 3 = .ok (.istore_n 3, 1) := by decide +kernel
theorem dX9_standsIn_4 : decode cX9_standsIn 4 = .ok (.iload_n 3, 1) := by decide +kernel
theorem dX9_standsIn_5 : decode cX9_standsIn 5 = .ok (.aload_n 0, 1) := by decide +kernel
theorem dX9_standsIn_6 : decode cX9_standsIn 6 = .ok (.invokevirtual 133, 3) := by decide +kernel
theorem dX9_standsIn_9 : decode cX9_standsIn 9 = .ok (.if_icmp .ge 29, 3) := by decide +kernel
theorem dX9_standsIn_12 : decode cX9_standsIn 12 = .ok (.iload_n 2, 1) := by decide +kernel
theorem dX9_standsIn_13 : decode cX9_standsIn 13 = .ok (.aload_n 0, 1) := by decide +kernel
theorem dX9_standsIn_14 : decode cX9_standsIn 14 = .ok (.iload_n 3, 1) := by decide +kernel
theorem dX9_standsIn_15 : decode cX9_standsIn 15 = .ok (.invokevirtual 136, 3) := by decide +kernel
theorem dX9_standsIn_18 : decode cX9_standsIn 18 = .ok (.iload_n 1, 1) := by decide +kernel
theorem dX9_standsIn_19 : decode cX9_standsIn 19 = .ok (.invokestatic 140, 3) := by decide +kernel
theorem dX9_standsIn_22 : decode cX9_standsIn 22 = .ok (.ifCond .eq 7, 3) := by decide +kernel
theorem dX9_standsIn_25 : decode cX9_standsIn 25 = .ok (.iconst 1, 1) := by decide +kernel
theorem dX9_standsIn_26 : decode cX9_standsIn 26 = .ok (.goto 4, 3) := by decide +kernel
theorem dX9_standsIn_29 : decode cX9_standsIn 29 = .ok (.iconst 0, 1) := by decide +kernel
theorem dX9_standsIn_30 : decode cX9_standsIn 30 = .ok (.iadd, 1) := by decide +kernel
theorem dX9_standsIn_31 : decode cX9_standsIn 31 = .ok (.istore_n 2, 1) := by decide +kernel
theorem dX9_standsIn_32 : decode cX9_standsIn 32 = .ok (.iinc 3 1, 3) := by decide +kernel
theorem dX9_standsIn_35 : decode cX9_standsIn 35 = .ok (.goto (-31), 3) := by decide +kernel
theorem dX9_standsIn_38 : decode cX9_standsIn 38 = .ok (.iload_n 2, 1) := by decide +kernel
theorem dX9_standsIn_39 : decode cX9_standsIn 39 = .ok (.ireturn, 1) := by decide +kernel
theorem dX9_weightOf_0 : decode cX9_weightOf 0 = .ok (.aload_n 0, 1) := by decide +kernel
theorem dX9_weightOf_1 : decode cX9_weightOf 1 = .ok (.getfield 20, 3) := by decide +kernel
theorem dX9_weightOf_4 : decode cX9_weightOf 4 = .ok (.iload_n 1, 1) := by decide +kernel
theorem dX9_weightOf_5 : decode cX9_weightOf 5 = .ok (.invokestatic 103, 3) := by decide +kernel
theorem dX9_weightOf_8 : decode cX9_weightOf 8 = .ok (.bipush 10, 2) := by decide +kernel
theorem dX9_weightOf_10 : decode cX9_weightOf 10 = .ok (.iadd, 1) := by decide +kernel
theorem dX9_weightOf_11 : decode cX9_weightOf 11 = .ok (.iconst 1, 1) := by decide +kernel
theorem dX9_weightOf_12 : decode cX9_weightOf 12 = .ok (.iadd, 1) := by decide +kernel
theorem dX9_weightOf_13 : decode cX9_weightOf 13 = .ok (.laload, 1) := by decide +kernel
theorem dX9_weightOf_14 : decode cX9_weightOf 14 = .ok (.l2i, 1) := by decide +kernel
theorem dX9_weightOf_15 : decode cX9_weightOf 15 = .ok (.istore_n 2, 1) := by decide +kernel
theorem dX9_weightOf_16 : decode cX9_weightOf 16 = .ok (.iload_n 2, 1) := by decide +kernel
theorem dX9_weightOf_17 : decode cX9_weightOf 17 = .ok (.iconst (-1), 1) := by decide +kernel
theorem dX9_weightOf_18 : decode cX9_weightOf 18 = .ok (.if_icmp .ne 11, 3) := by decide +kernel
theorem dX9_weightOf_21 : decode cX9_weightOf 21 = .ok (.aload_n 0, 1) := by decide +kernel
theorem dX9_weightOf_22 : decode cX9_weightOf 22 = .ok (.iload_n 1, 1) := by decide +kernel
theorem dX9_weightOf_23 : decode cX9_weightOf 23 = .ok (.invokevirtual 144, 3) := by decide +kernel
theorem dX9_weightOf_26 : decode cX9_weightOf 26 = .ok (.goto 4, 3) := by decide +kernel
theorem dX9_weightOf_29 : decode cX9_weightOf 29 = .ok (.iload_n 2, 1) := by decide +kernel
theorem dX9_weightOf_30 : decode cX9_weightOf 30 = .ok (.ireturn, 1) := by decide +kernel
theorem dX9_weightsOf_0 : decode cX9_weightsOf 0 = .ok (.iconst 0, 1) := by decide +kernel
theorem dX9_weightsOf_1 : decode cX9_weightsOf 1 = .ok (.istore_n 3, 1) := by decide +kernel
theorem dX9_weightsOf_2 : decode cX9_weightsOf 2 = .ok (.iconst 0, 1) := by decide +kernel
theorem dX9_weightsOf_3 : decode cX9_weightsOf 3 = .ok (.istore 4, 2) := by decide +kernel
theorem dX9_weightsOf_5 : decode cX9_weightsOf 5 = .ok (.iload 4, 2) := by decide +kernel
theorem dX9_weightsOf_7 : decode cX9_weightsOf 7 = .ok (.aload_n 0, 1) := by decide +kernel
theorem dX9_weightsOf_8 : decode cX9_weightsOf 8 = .ok (.invokevirtual 147, 3) := by decide +kernel
theorem dX9_weightsOf_11 : decode cX9_weightsOf 11 = .ok (.if_icmp .ge 31, 3) := by decide +kernel
theorem dX9_weightsOf_14 : decode cX9_weightsOf 14 = .ok (.iload_n 3, 1) := by decide +kernel
theorem dX9_weightsOf_15 : decode cX9_weightsOf 15 = .ok (.lload_n 1, 1) := by decide +kernel
theorem dX9_weightsOf_16 : decode cX9_weightsOf 16 = .ok (.iload 4, 2) := by decide +kernel
theorem dX9_weightsOf_18 : decode cX9_weightsOf 18 = .ok (.invokestatic 140, 3) := by decide +kernel
theorem dX9_weightsOf_21 : decode cX9_weightsOf 21 = .ok (.ifCond .eq 12, 3) := by decide +kernel
theorem dX9_weightsOf_24 : decode cX9_weightsOf 24 = .ok (.aload_n 0, 1) := by decide +kernel
theorem dX9_weightsOf_25 : decode cX9_weightsOf 25 = .ok (.iload 4, 2) := by decide +kernel
theorem dX9_weightsOf_27 : decode cX9_weightsOf 27 = .ok (.invokevirtual 150, 3) := by decide +kernel
theorem dX9_weightsOf_30 : decode cX9_weightsOf 30 = .ok (.goto 4, 3) := by decide +kernel
theorem dX9_weightsOf_33 : decode cX9_weightsOf 33 = .ok (.iconst 0, 1) := by decide +kernel
theorem dX9_weightsOf_34 : decode cX9_weightsOf 34 = .ok (.iadd, 1) := by decide +kernel
theorem dX9_weightsOf_35 : decode cX9_weightsOf 35 = .ok (.istore_n 3, 1) := by decide +kernel
theorem dX9_weightsOf_36 : decode cX9_weightsOf 36 = .ok (.iinc 4 1, 3) := by decide +kernel
theorem dX9_weightsOf_39 : decode cX9_weightsOf 39 = .ok (.goto (-34), 3) := by decide +kernel
theorem dX9_weightsOf_42 : decode cX9_weightsOf 42 = .ok (.iload_n 3, 1) := by decide +kernel
theorem dX9_weightsOf_43 : decode cX9_weightsOf 43 = .ok (.ireturn, 1) := by decide +kernel
theorem dX9_chain_0 : decode cX9_chain 0 = .ok (.iconst 0, 1) := by decide +kernel
theorem dX9_chain_1 : decode cX9_chain 1 = .ok (.istore_n 2, 1) := by decide +kernel
theorem dX9_chain_2 : decode cX9_chain 2 = .ok (.iload_n 1, 1) := by decide +kernel
theorem dX9_chain_3 : decode cX9_chain 3 = .ok (.istore_n 3, 1) := by decide +kernel
theorem dX9_chain_4 : decode cX9_chain 4 = .ok (.iconst 1, 1) := by decide +kernel
theorem dX9_chain_5 : decode cX9_chain 5 = .ok (.istore 4, 2) := by decide +kernel
theorem dX9_chain_7 : decode cX9_chain 7 = .ok (.iload 4, 2) := by decide +kernel
theorem dX9_chain_9 : decode cX9_chain 9 = .ok (.ifCond .eq 50, 3) := by decide +kernel
theorem dX9_chain_12 : decode cX9_chain 12 = .ok (.iload_n 2, 1) := by decide +kernel
theorem dX9_chain_13 : decode cX9_chain 13 = .ok (.iconst 1, 1) := by decide +kernel
theorem dX9_chain_14 : decode cX9_chain 14 = .ok (.iload_n 3, 1) := by decide +kernel
theorem dX9_chain_15 : decode cX9_chain 15 = .ok (.ishl, 1) := by decide +kernel
theorem dX9_chain_16 : decode cX9_chain 16 = .ok (.ior, 1) := by decide +kernel
theorem dX9_chain_17 : decode cX9_chain 17 = .ok (.istore_n 2, 1) := by decide +kernel
theorem dX9_chain_18 : decode cX9_chain 18 = .ok (.iload_n 3, 1) := by decide +kernel
theorem dX9_chain_19 : decode cX9_chain 19 = .ok (.ifCond .le 31, 3) := by decide +kernel
theorem dX9_chain_22 : decode cX9_chain 22 = .ok (.aload_n 0, 1) := by decide +kernel
theorem dX9_chain_23 : decode cX9_chain 23 = .ok (.getfield 20, 3) := by decide +kernel
theorem dX9_chain_26 : decode cX9_chain 26 = .ok (.iconst 4, 1) := by decide +kernel
theorem dX9_chain_27 : decode cX9_chain 27 = .ok (.laload, 1) := by decide +kernel
theorem dX9_chain_28 : decode cX9_chain 28 = .ok (.aload_n 0, 1) := by decide +kernel
theorem dX9_chain_29 : decode cX9_chain 29 = .ok (.getfield 20, 3) := by decide +kernel
theorem dX9_chain_32 : decode cX9_chain 32 = .ok (.iload_n 3, 1) := by decide +kernel
theorem dX9_chain_33 : decode cX9_chain 33 = .ok (.invokestatic 66, 3) := by decide +kernel
theorem dX9_chain_36 : decode cX9_chain 36 = .ok (.iconst 3, 1) := by decide +kernel
theorem dX9_chain_37 : decode cX9_chain 37 = .ok (.iadd, 1) := by decide +kernel
theorem dX9_chain_38 : decode cX9_chain 38 = .ok (.laload, 1) := by decide +kernel
theorem dX9_chain_39 : decode cX9_chain 39 = .ok (.l2i, 1) := by decide +kernel
theorem dX9_chain_40 : decode cX9_chain 40 = .ok (.invokestatic 140, 3) := by decide +kernel
theorem dX9_chain_43 : decode cX9_chain 43 = .ok (.ifCond .eq 7, 3) := by decide +kernel
theorem dX9_chain_46 : decode cX9_chain 46 = .ok (.iconst 1, 1) := by decide +kernel
theorem dX9_chain_47 : decode cX9_chain 47 = .ok (.goto 4, 3) := by decide +kernel
theorem dX9_chain_50 : decode cX9_chain 50 = .ok (.iconst 0, 1) := by decide +kernel
theorem dX9_chain_51 : decode cX9_chain 51 = .ok (.istore 4, 2) := by decide +kernel
theorem dX9_chain_53 : decode cX9_chain 53 = .ok (.iinc 3 (-1), 3) := by decide +kernel
theorem dX9_chain_56 : decode cX9_chain 56 = .ok (.goto (-49), 3) := by decide +kernel
theorem dX9_chain_59 : decode cX9_chain 59 = .ok (.iload_n 2, 1) := by decide +kernel
theorem dX9_chain_60 : decode cX9_chain 60 = .ok (.ireturn, 1) := by decide +kernel
theorem dX9_wordsIn_0 : decode cX9_wordsIn 0 = .ok (.lconst 0, 1) := by decide +kernel
theorem dX9_wordsIn_1 : decode cX9_wordsIn 1 = .ok (.lstore_n 2, 1) := by decide +kernel
theorem dX9_wordsIn_2 : decode cX9_wordsIn 2 = .ok (.iconst 0, 1) := by decide +kernel
theorem dX9_wordsIn_3 : decode cX9_wordsIn 3 = .ok (.istore 4, 2) := by decide +kernel
theorem dX9_wordsIn_5 : decode cX9_wordsIn 5 = .ok (.iload 4, 2) := by decide +kernel
theorem dX9_wordsIn_7 : decode cX9_wordsIn 7 = .ok (.aload_n 0, 1) := by decide +kernel
theorem dX9_wordsIn_8 : decode cX9_wordsIn 8 = .ok (.invokevirtual 133, 3) := by decide +kernel
theorem dX9_wordsIn_11 : decode cX9_wordsIn 11 = .ok (.if_icmp .ge 28, 3) := by decide +kernel
theorem dX9_wordsIn_14 : decode cX9_wordsIn 14 = .ok (.iload_n 1, 1) := by decide +kernel
theorem dX9_wordsIn_15 : decode cX9_wordsIn 15 = .ok (.i2l, 1) := by decide +kernel
theorem dX9_wordsIn_16 : decode cX9_wordsIn 16 = .ok (.iload 4, 2) := by decide +kernel
theorem dX9_wordsIn_18 : decode cX9_wordsIn 18 = .ok (.invokestatic 140, 3) := by decide +kernel
theorem dX9_wordsIn_21 : decode cX9_wordsIn 21 = .ok (.ifCond .eq 12, 3) := by decide +kernel
theorem dX9_wordsIn_24 : decode cX9_wordsIn 24 = .ok (.lload_n 2, 1) := by decide +kernel
theorem dX9_wordsIn_25 : decode cX9_wordsIn 25 = .ok (.aload_n 0, 1) := by decide +kernel
theorem dX9_wordsIn_26 : decode cX9_wordsIn 26 = .ok (.iload 4, 2) := by decide +kernel
theorem dX9_wordsIn_28 : decode cX9_wordsIn 28 = .ok (.invokevirtual 136, 3) := by decide +kernel
theorem dX9_wordsIn_31 : decode cX9_wordsIn 31 = .ok (.lor, 1) := by decide +kernel
theorem dX9_wordsIn_32 : decode cX9_wordsIn 32 = .ok (.lstore_n 2, 1) := by decide +kernel
theorem dX9_wordsIn_33 : decode cX9_wordsIn 33 = .ok (.iinc 4 1, 3) := by decide +kernel
theorem dX9_wordsIn_36 : decode cX9_wordsIn 36 = .ok (.goto (-31), 3) := by decide +kernel
theorem dX9_wordsIn_39 : decode cX9_wordsIn 39 = .ok (.lload_n 2, 1) := by decide +kernel
theorem dX9_wordsIn_40 : decode cX9_wordsIn 40 = .ok (.lreturn, 1) := by decide +kernel
theorem dX9_covered_0 : decode cX9_covered 0 = .ok (.aload_n 0, 1) := by decide +kernel
theorem dX9_covered_1 : decode cX9_covered 1 = .ok (.aload_n 0, 1) := by decide +kernel
theorem dX9_covered_2 : decode cX9_covered 2 = .ok (.iload_n 1, 1) := by decide +kernel
theorem dX9_covered_3 : decode cX9_covered 3 = .ok (.invokevirtual 153, 3) := by decide +kernel
theorem dX9_covered_6 : decode cX9_covered 6 = .ok (.invokevirtual 156, 3) := by decide +kernel
theorem dX9_covered_9 : decode cX9_covered 9 = .ok (.ireturn, 1) := by decide +kernel
theorem dX9_length_0 : decode cX9_length 0 = .ok (.iconst 0, 1) := by decide +kernel
theorem dX9_length_1 : decode cX9_length 1 = .ok (.istore_n 2, 1) := by decide +kernel
theorem dX9_length_2 : decode cX9_length 2 = .ok (.iconst 0, 1) := by decide +kernel
theorem dX9_length_3 : decode cX9_length 3 = .ok (.istore_n 3, 1) := by decide +kernel
theorem dX9_length_4 : decode cX9_length 4 = .ok (.iload_n 3, 1) := by decide +kernel
theorem dX9_length_5 : decode cX9_length 5 = .ok (.aload_n 0, 1) := by decide +kernel
theorem dX9_length_6 : decode cX9_length 6 = .ok (.invokevirtual 133, 3) := by decide +kernel
theorem dX9_length_9 : decode cX9_length 9 = .ok (.if_icmp .ge 30, 3) := by decide +kernel
theorem dX9_length_12 : decode cX9_length 12 = .ok (.iload_n 2, 1) := by decide +kernel
theorem dX9_length_13 : decode cX9_length 13 = .ok (.iload_n 1, 1) := by decide +kernel
theorem dX9_length_14 : decode cX9_length 14 = .ok (.i2l, 1) := by decide +kernel
theorem dX9_length_15 : decode cX9_length 15 = .ok (.iload_n 3, 1) := by decide +kernel
theorem dX9_length_16 : decode cX9_length 16 = .ok (.invokestatic 140, 3) := by decide +kernel
theorem dX9_length_19 : decode cX9_length 19 = .ok (.ifCond .eq 11, 3) := by decide +kernel
theorem dX9_length_22 : decode cX9_length 22 = .ok (.aload_n 0, 1) := by decide +kernel
theorem dX9_length_23 : decode cX9_length 23 = .ok (.iload_n 3, 1) := by decide +kernel
theorem dX9_length_24 : decode cX9_length 24 = .ok (.invokevirtual 160, 3) := by decide +kernel
theorem dX9_length_27 : decode cX9_length 27 = .ok (.goto 4, 3) := by decide +kernel
theorem dX9_length_30 : decode cX9_length 30 = .ok (.iconst 0, 1) := by decide +kernel
theorem dX9_length_31 : decode cX9_length 31 = .ok (.iadd, 1) := by decide +kernel
theorem dX9_length_32 : decode cX9_length 32 = .ok (.istore_n 2, 1) := by decide +kernel
theorem dX9_length_33 : decode cX9_length 33 = .ok (.iinc 3 1, 3) := by decide +kernel
theorem dX9_length_36 : decode cX9_length 36 = .ok (.goto (-32), 3) := by decide +kernel
theorem dX9_length_39 : decode cX9_length 39 = .ok (.iload_n 2, 1) := by decide +kernel
theorem dX9_length_40 : decode cX9_length 40 = .ok (.ireturn, 1) := by decide +kernel
theorem dX9_gain_0 : decode cX9_gain 0 = .ok (.aload_n 0, 1) := by decide +kernel
theorem dX9_gain_1 : decode cX9_gain 1 = .ok (.aload_n 0, 1) := by decide +kernel
theorem dX9_gain_2 : decode cX9_gain 2 = .ok (.iload_n 1, 1) := by decide +kernel
theorem dX9_gain_3 : decode cX9_gain 3 = .ok (.aload_n 0, 1) := by decide +kernel
theorem dX9_gain_4 : decode cX9_gain 4 = .ok (.iload_n 2, 1) := by decide +kernel
theorem dX9_gain_5 : decode cX9_gain 5 = .ok (.invokevirtual 163, 3) := by decide +kernel
theorem dX9_gain_8 : decode cX9_gain 8 = .ok (.ior, 1) := by decide +kernel
theorem dX9_gain_9 : decode cX9_gain 9 = .ok (.invokevirtual 153, 3) := by decide +kernel
theorem dX9_gain_12 : decode cX9_gain 12 = .ok (.aload_n 0, 1) := by decide +kernel
theorem dX9_gain_13 : decode cX9_gain 13 = .ok (.iload_n 1, 1) := by decide +kernel
theorem dX9_gain_14 : decode cX9_gain 14 = .ok (.invokevirtual 153, 3) := by decide +kernel
theorem dX9_gain_17 : decode cX9_gain 17 = .ok (.ldc2_w 106, 3) := by decide +kernel
theorem dX9_gain_20 : decode cX9_gain 20 = .ok (.lxor, 1) := by decide +kernel
theorem dX9_gain_21 : decode cX9_gain 21 = .ok (.land, 1) := by decide +kernel
theorem dX9_gain_22 : decode cX9_gain 22 = .ok (.invokevirtual 156, 3) := by decide +kernel
theorem dX9_gain_25 : decode cX9_gain 25 = .ok (.ireturn, 1) := by decide +kernel
theorem dX9_cost_0 : decode cX9_cost 0 = .ok (.aload_n 0, 1) := by decide +kernel
theorem dX9_cost_1 : decode cX9_cost 1 = .ok (.aload_n 0, 1) := by decide +kernel
theorem dX9_cost_2 : decode cX9_cost 2 = .ok (.iload_n 2, 1) := by decide +kernel
theorem dX9_cost_3 : decode cX9_cost 3 = .ok (.invokevirtual 163, 3) := by decide +kernel
theorem dX9_cost_6 : decode cX9_cost 6 = .ok (.iload_n 1, 1) := by decide +kernel
theorem dX9_cost_7 : decode cX9_cost 7 = .ok (.iconst (-1), 1) := by decide +kernel
theorem dX9_cost_8 : decode cX9_cost 8 = .ok (.ixor, 1) := by decide +kernel
theorem dX9_cost_9 : decode cX9_cost 9 = .ok (.iand, 1) := by decide +kernel
theorem dX9_cost_10 : decode cX9_cost 10 = .ok (.invokevirtual 166, 3) := by decide +kernel
theorem dX9_cost_13 : decode cX9_cost 13 = .ok (.ireturn, 1) := by decide +kernel
theorem dX9_fits_0 : decode cX9_fits 0 = .ok (.iload_n 1, 1) := by decide +kernel
theorem dX9_fits_1 : decode cX9_fits 1 = .ok (.i2l, 1) := by decide +kernel
theorem dX9_fits_2 : decode cX9_fits 2 = .ok (.iload_n 2, 1) := by decide +kernel
theorem dX9_fits_3 : decode cX9_fits 3 = .ok (.invokestatic 140, 3) := by decide +kernel
theorem dX9_fits_6 : decode cX9_fits 6 = .ok (.ifCond .ne 30, 3) := by decide +kernel
theorem dX9_fits_9 : decode cX9_fits 9 = .ok (.aload_n 0, 1) := by decide +kernel
theorem dX9_fits_10 : decode cX9_fits 10 = .ok (.iload_n 1, 1) := by decide +kernel
theorem dX9_fits_11 : decode cX9_fits 11 = .ok (.invokevirtual 166, 3) := by decide +kernel
theorem dX9_fits_14 : decode cX9_fits 14 = .ok (.aload_n 0, 1) := by decide +kernel
theorem dX9_fits_15 : decode cX9_fits 15 = .ok (.iload_n 1, 1) := by decide +kernel
theorem dX9_fits_16 : decode cX9_fits 16 = .ok (.iload_n 2, 1) := by decide +kernel
theorem dX9_fits_17 : decode cX9_fits 17 = .ok (.invokevirtual 169, 3) := by decide +kernel
theorem dX9_fits_20 : decode cX9_fits 20 = .ok (.iadd, 1) := by decide +kernel
theorem dX9_fits_21 : decode cX9_fits 21 = .ok (.i2l, 1) := by decide +kernel
theorem dX9_fits_22 : decode cX9_fits 22 = .ok (.aload_n 0, 1) := by decide +kernel
theorem dX9_fits_23 : decode cX9_fits 23 = .ok (.getfield 20, 3) := by decide +kernel
theorem dX9_fits_26 : decode cX9_fits 26 = .ok (.iconst 2, 1) := by decide +kernel
theorem dX9_fits_27 : decode cX9_fits 27 = .ok (.laload, 1) := by decide +kernel
theorem dX9_fits_28 : decode cX9_fits 28 = .ok (.lcmp, 1) := by decide +kernel
theorem dX9_fits_29 : decode cX9_fits 29 = .ok (.ifCond .gt 7, 3) := by decide +kernel
theorem dX9_fits_32 : decode cX9_fits 32 = .ok (.iconst 1, 1) := by decide +kernel
theorem dX9_fits_33 : decode cX9_fits 33 = .ok (.goto 4, 3) := by decide +kernel
theorem dX9_fits_36 : decode cX9_fits 36 = .ok (.iconst 0, 1) := by decide +kernel
theorem dX9_fits_37 : decode cX9_fits 37 = .ok (.ireturn, 1) := by decide +kernel
theorem dX9_remembers_0 : decode cX9_remembers 0 = .ok (.aload_n 0, 1) := by decide +kernel
theorem dX9_remembers_1 : decode cX9_remembers 1 = .ok (.iconst 0, 1) := by decide +kernel
theorem dX9_remembers_2 : decode cX9_remembers 2 = .ok (.putfield 173, 3) := by decide +kernel
theorem dX9_remembers_5 : decode cX9_remembers 5 = .ok (.aload_n 0, 1) := by decide +kernel
theorem dX9_remembers_6 : decode cX9_remembers 6 = .ok (.getfield 177, 3) := by decide +kernel
theorem dX9_remembers_9 : decode cX9_remembers 9 = .ok (.bipush 8, 2) := by decide +kernel
theorem dX9_remembers_11 : decode cX9_remembers 11 = .ok (.if_icmp .ne 44, 3) := by decide +kernel
theorem dX9_remembers_14 : decode cX9_remembers 14 = .ok (.iconst 1, 1) := by decide +kernel
theorem dX9_remembers_15 : decode cX9_remembers 15 = .ok (.istore_n 1, 1) := by decide +kernel
theorem dX9_remembers_16 : decode cX9_remembers 16 = .ok (.iload_n 1, 1) := by decide +kernel
theorem dX9_remembers_17 : decode cX9_remembers 17 = .ok (.bipush 8, 2) := by decide +kernel
theorem dX9_remembers_19 : decode cX9_remembers 19 = .ok (.if_icmp .ge 26, 3) := by decide +kernel
theorem dX9_remembers_22 : decode cX9_remembers 22 = .ok (.aload_n 0, 1) := by decide +kernel
theorem dX9_remembers_23 : decode cX9_remembers 23 = .ok (.getfield 29, 3) := by decide +kernel
theorem dX9_remembers_26 : decode cX9_remembers 26 = .ok (.iload_n 1, 1) := by decide +kernel
theorem dX9_remembers_27 : decode cX9_remembers 27 = .ok (.aaload, 1) := by decide +kernel
theorem dX9_remembers_28 : decode cX9_remembers 28 = .ok (.aload_n 0, 1) := by decide +kernel
theorem dX9_remembers_29 : decode cX9_remembers 29 = .ok (.getfield 29, 3) := by decide +kernel
theorem dX9_remembers_32 : decode cX9_remembers 32 = .ok (.iload_n 1, 1) := by decide +kernel
theorem dX9_remembers_33 : decode cX9_remembers 33 = .ok (.iconst 1, 1) := by decide +kernel
theorem dX9_remembers_34 : decode cX9_remembers 34 = .ok (.isub, 1) := by decide +kernel
theorem dX9_remembers_35 : decode cX9_remembers 35 = .ok (.aaload, 1) := by decide +kernel
theorem dX9_remembers_36 : decode cX9_remembers 36 = .ok (.invokestatic 129, 3) := by decide +kernel
theorem dX9_remembers_39 : decode cX9_remembers 39 = .ok (.iinc 1 1, 3) := by decide +kernel
theorem dX9_remembers_42 : decode cX9_remembers 42 = .ok (.goto (-26), 3) := by decide +kernel
theorem dX9_remembers_45 : decode cX9_remembers 45 = .ok (.aload_n 0, 1) := by decide +kernel
theorem dX9_remembers_46 : decode cX9_remembers 46 = .ok (.dup, 1) := by decide +kernel
theorem dX9_remembers_47 : decode cX9_remembers 47 = .ok (.getfield 177, 3) := by decide +kernel
theorem dX9_remembers_50 : decode cX9_remembers 50 = .ok (.iconst 1, 1) := by decide +kernel
theorem dX9_remembers_51 : decode cX9_remembers 51 = .ok (.isub, 1) := by decide +kernel
theorem dX9_remembers_52 : decode cX9_remembers 52 = .ok (.putfield 177, 3) := by decide +kernel
theorem dX9_remembers_55 : decode cX9_remembers 55 = .ok (.aload_n 0, 1) := by decide +kernel
theorem dX9_remembers_56 : decode cX9_remembers 56 = .ok (.getfield 20, 3) := by decide +kernel
theorem dX9_remembers_59 : decode cX9_remembers 59 = .ok (.aload_n 0, 1) := by decide +kernel
theorem dX9_remembers_60 : decode cX9_remembers 60 = .ok (.getfield 29, 3) := by decide +kernel
theorem dX9_remembers_63 : decode cX9_remembers 63 = .ok (.aload_n 0, 1) := by decide +kernel
theorem dX9_remembers_64 : decode cX9_remembers 64 = .ok (.getfield 177, 3) := by decide +kernel
theorem dX9_remembers_67 : decode cX9_remembers 67 = .ok (.aaload, 1) := by decide +kernel
theorem dX9_remembers_68 : decode cX9_remembers 68 = .ok (.invokestatic 129, 3) := by decide +kernel
theorem dX9_remembers_71 : decode cX9_remembers 71 = .ok (.aload_n 0, 1) := by decide +kernel
theorem dX9_remembers_72 : decode cX9_remembers 72 = .ok (.dup, 1) := by decide +kernel
theorem dX9_remembers_73 : decode cX9_remembers 73 = .ok (.getfield 177, 3) := by decide +kernel
theorem dX9_remembers_76 : decode cX9_remembers 76 = .ok (.iconst 1, 1) := by decide +kernel
theorem dX9_remembers_77 : decode cX9_remembers 77 = .ok (.iadd, 1) := by decide +kernel
theorem dX9_remembers_78 : decode cX9_remembers 78 = .ok (.putfield 177, 3) := by decide +kernel
theorem dX9_remembers_81 : decode cX9_remembers 81 = .ok (.return_, 1) := by decide +kernel
theorem dX9_undo_0 : decode cX9_undo 0 = .ok (.aload_n 0, 1) := by decide +kernel
theorem dX9_undo_1 : decode cX9_undo 1 = .ok (.iconst 0, 1) := by decide +kernel
theorem dX9_undo_2 : decode cX9_undo 2 = .ok (.putfield 60, 3) := by decide +kernel
theorem dX9_undo_5 : decode cX9_undo 5 = .ok (.aload_n 0, 1) := by decide +kernel
theorem dX9_undo_6 : decode cX9_undo 6 = .ok (.getfield 177, 3) := by decide +kernel
theorem dX9_undo_9 : decode cX9_undo 9 = .ok (.ifCond .ne 5, 3) := by decide +kernel
theorem dX9_undo_12 : decode cX9_undo 12 = .ok (.iconst (-1), 1) := by decide +kernel
theorem dX9_undo_13 : decode cX9_undo 13 = .ok (.ireturn, 1) := by decide +kernel
theorem dX9_undo_14 : decode cX9_undo 14 = .ok (.aload_n 0, 1) := by decide +kernel
theorem dX9_undo_15 : decode cX9_undo 15 = .ok (.dup, 1) := by decide +kernel
theorem dX9_undo_16 : decode cX9_undo 16 = .ok (.getfield 177, 3) := by decide +kernel
theorem dX9_undo_19 : decode cX9_undo 19 = .ok (.iconst 1, 1) := by decide +kernel
theorem dX9_undo_20 : decode cX9_undo 20 = .ok (.isub, 1) := by decide +kernel
theorem dX9_undo_21 : decode cX9_undo 21 = .ok (.putfield 177, 3) := by decide +kernel
theorem dX9_undo_24 : decode cX9_undo 24 = .ok (.aload_n 0, 1) := by decide +kernel
theorem dX9_undo_25 : decode cX9_undo 25 = .ok (.getfield 29, 3) := by decide +kernel
theorem dX9_undo_28 : decode cX9_undo 28 = .ok (.aload_n 0, 1) := by decide +kernel
theorem dX9_undo_29 : decode cX9_undo 29 = .ok (.getfield 177, 3) := by decide +kernel
theorem dX9_undo_32 : decode cX9_undo 32 = .ok (.aaload, 1) := by decide +kernel
theorem dX9_undo_33 : decode cX9_undo 33 = .ok (.aload_n 0, 1) := by decide +kernel
theorem dX9_undo_34 : decode cX9_undo 34 = .ok (.getfield 20, 3) := by decide +kernel
theorem dX9_undo_37 : decode cX9_undo 37 = .ok (.invokestatic 129, 3) := by decide +kernel
theorem dX9_undo_40 : decode cX9_undo 40 = .ok (.aload_n 0, 1) := by decide +kernel
theorem dX9_undo_41 : decode cX9_undo 41 = .ok (.iconst 0, 1) := by decide +kernel
theorem dX9_undo_42 : decode cX9_undo 42 = .ok (.putfield 173, 3) := by decide +kernel
theorem dX9_undo_45 : decode cX9_undo 45 = .ok (.aload_n 0, 1) := by decide +kernel
theorem dX9_undo_46 : decode cX9_undo 46 = .ok (.getfield 177, 3) := by decide +kernel
theorem dX9_undo_49 : decode cX9_undo 49 = .ok (.ireturn, 1) := by decide +kernel
theorem dX9_isThere_0 : decode cX9_isThere 0 = .ok (.iload_n 1, 1) := by decide +kernel
theorem dX9_isThere_1 : decode cX9_isThere 1 = .ok (.iconst 0, 1) := by decide +kernel
theorem dX9_isThere_2 : decode cX9_isThere 2 = .ok (.aload_n 0, 1) := by decide +kernel
theorem dX9_isThere_3 : decode cX9_isThere 3 = .ok (.invokevirtual 147, 3) := by decide +kernel
theorem dX9_isThere_6 : decode cX9_isThere 6 = .ok (.iconst 1, 1) := by decide +kernel
theorem dX9_isThere_7 : decode cX9_isThere 7 = .ok (.isub, 1) := by decide +kernel
theorem dX9_isThere_8 : decode cX9_isThere 8 = .ok (.invokestatic 116, 3) := by decide +kernel
theorem dX9_isThere_11 : decode cX9_isThere 11 = .ok (.ireturn, 1) := by decide +kernel
theorem dX9_isSentence_0 : decode cX9_isSentence 0 = .ok (.iload_n 1, 1) := by decide +kernel
theorem dX9_isSentence_1 : decode cX9_isSentence 1 = .ok (.iconst 0, 1) := by decide +kernel
theorem dX9_isSentence_2 : decode cX9_isSentence 2 = .ok (.aload_n 0, 1) := by decide +kernel
theorem dX9_isSentence_3 : decode cX9_isSentence 3 = .ok (.invokevirtual 133, 3) := by decide +kernel
theorem dX9_isSentence_6 : decode cX9_isSentence 6 = .ok (.iconst 1, 1) := by decide +kernel
theorem dX9_isSentence_7 : decode cX9_isSentence 7 = .ok (.isub, 1) := by decide +kernel
theorem dX9_isSentence_8 : decode cX9_isSentence 8 = .ok (.invokestatic 116, 3) := by decide +kernel
theorem dX9_isSentence_11 : decode cX9_isSentence 11 = .ok (.ireturn, 1) := by decide +kernel
theorem dX9_weigh_0 : decode cX9_weigh 0 = .ok (.aload_n 0, 1) := by decide +kernel
theorem dX9_weigh_1 : decode cX9_weigh 1 = .ok (.iconst 0, 1) := by decide +kernel
theorem dX9_weigh_2 : decode cX9_weigh 2 = .ok (.putfield 60, 3) := by decide +kernel
theorem dX9_weigh_5 : decode cX9_weigh 5 = .ok (.aload_n 0, 1) := by decide +kernel
theorem dX9_weigh_6 : decode cX9_weigh 6 = .ok (.aload_n 0, 1) := by decide +kernel
theorem dX9_weigh_7 : decode cX9_weigh 7 = .ok (.iload_n 1, 1) := by decide +kernel
theorem dX9_weigh_8 : decode cX9_weigh 8 = .ok (.invokevirtual 180, 3) := by decide +kernel
theorem dX9_weigh_11 : decode cX9_weigh 11 = .ok (.ifCond .ne 7, 3) := by decide +kernel
theorem dX9_weigh_14 : decode cX9_weigh 14 = .ok (.iconst 1, 1) := by decide +kernel
theorem dX9_weigh_15 : decode cX9_weigh 15 = .ok (.goto 4, 3) := by decide +kernel
theorem dX9_weigh_18 : decode cX9_weigh 18 = .ok (.iconst 0, 1) := by decide +kernel
theorem dX9_weigh_19 : decode cX9_weigh 19 = .ok (.iconst 1, 1) := by decide +kernel
theorem dX9_weigh_20 : decode cX9_weigh 20 = .ok (.iconst 0, 1) := by decide +kernel
theorem dX9_weigh_21 : decode cX9_weigh 21 = .ok (.invokevirtual 119, 3) := by decide +kernel
theorem dX9_weigh_24 : decode cX9_weigh 24 = .ok (.ifCond .ne 28, 3) := by decide +kernel
theorem dX9_weigh_27 : decode cX9_weigh 27 = .ok (.aload_n 0, 1) := by decide +kernel
theorem dX9_weigh_28 : decode cX9_weigh 28 = .ok (.iload_n 2, 1) := by decide +kernel
theorem dX9_weigh_29 : decode cX9_weigh 29 = .ok (.iconst 0, 1) := by decide +kernel
theorem dX9_weigh_30 : decode cX9_weigh 30 = .ok (.sipush 1000, 3) := by decide +kernel
theorem dX9_weigh_33 : decode cX9_weigh 33 = .ok (.invokestatic 116, 3) := by decide +kernel
theorem dX9_weigh_36 : decode cX9_weigh 36 = .ok (.ifCond .ne 7, 3) := by decide +kernel
theorem dX9_weigh_39 : decode cX9_weigh 39 = .ok (.iconst 1, 1) := by decide +kernel
theorem dX9_weigh_40 : decode cX9_weigh 40 = .ok (.goto 4, 3) := by decide +kernel
theorem dX9_weigh_43 : decode cX9_weigh 43 = .ok (.iconst 0, 1) := by decide +kernel
theorem dX9_weigh_44 : decode cX9_weigh 44 = .ok (.iconst 2, 1) := by decide +kernel
theorem dX9_weigh_45 : decode cX9_weigh 45 = .ok (.iconst 1, 1) := by decide +kernel
theorem dX9_weigh_46 : decode cX9_weigh 46 = .ok (.invokevirtual 119, 3) := by decide +kernel
theorem dX9_weigh_49 : decode cX9_weigh 49 = .ok (.ifCond .eq 5, 3) := by decide +kernel
theorem dX9_weigh_52 : decode cX9_weigh 52 = .ok (.iconst 0, 1) := by decide +kernel
theorem dX9_weigh_53 : decode cX9_weigh 53 = .ok (.ireturn, 1) := by decide +kernel
theorem dX9_weigh_54 : decode cX9_weigh 54 = .ok (.aload_n 0, 1) := by decide +kernel
theorem dX9_weigh_55 : decode cX9_weigh 55 = .ok (.iload_n 1, 1) := by decide +kernel
theorem dX9_weigh_56 : decode cX9_weigh 56 = .ok (.invokevirtual 150, 3) := by decide +kernel
theorem dX9_weigh_59 : decode cX9_weigh 59 = .ok (.istore_n 3, 1) := by decide +kernel
theorem dX9_weigh_60 : decode cX9_weigh 60 = .ok (.aload_n 0, 1) := by decide +kernel
theorem dX9_weigh_61 : decode cX9_weigh 61 = .ok (.invokevirtual 126, 3) := by decide +kernel
theorem dX9_weigh_64 : decode cX9_weigh 64 = .ok (.aload_n 0, 1) := by decide +kernel
theorem dX9_weigh_65 : decode cX9_weigh 65 = .ok (.getfield 20, 3) := by decide +kernel
theorem dX9_weigh_68 : decode cX9_weigh 68 = .ok (.iload_n 1, 1) := by decide +kernel
theorem dX9_weigh_69 : decode cX9_weigh 69 = .ok (.invokestatic 103, 3) := by decide +kernel
theorem dX9_weigh_72 : decode cX9_weigh 72 = .ok (.bipush 10, 2) := by decide +kernel
theorem dX9_weigh_74 : decode cX9_weigh 74 = .ok (.iadd, 1) := by decide +kernel
theorem dX9_weigh_75 : decode cX9_weigh 75 = .ok (.iconst 1, 1) := by decide +kernel
theorem dX9_weigh_76 : decode cX9_weigh 76 = .ok (.iadd, 1) := by decide +kernel
theorem dX9_weigh_77 : decode cX9_weigh 77 = .ok (.iload_n 2, 1) := by decide +kernel
theorem dX9_weigh_78 : decode cX9_weigh 78 = .ok (.i2l, 1) := by decide +kernel
theorem dX9_weigh_79 : decode cX9_weigh 79 = .ok (.lastore, 1) := by decide +kernel
theorem dX9_weigh_80 : decode cX9_weigh 80 = .ok (.iload_n 3, 1) := by decide +kernel
theorem dX9_weigh_81 : decode cX9_weigh 81 = .ok (.ireturn, 1) := by decide +kernel
theorem dX9_lean_0 : decode cX9_lean 0 = .ok (.aload_n 0, 1) := by decide +kernel
theorem dX9_lean_1 : decode cX9_lean 1 = .ok (.iconst 0, 1) := by decide +kernel
theorem dX9_lean_2 : decode cX9_lean 2 = .ok (.putfield 60, 3) := by decide +kernel
theorem dX9_lean_5 : decode cX9_lean 5 = .ok (.aload_n 0, 1) := by decide +kernel
theorem dX9_lean_6 : decode cX9_lean 6 = .ok (.aload_n 0, 1) := by decide +kernel
theorem dX9_lean_7 : decode cX9_lean 7 = .ok (.iload_n 1, 1) := by decide +kernel
theorem dX9_lean_8 : decode cX9_lean 8 = .ok (.invokevirtual 180, 3) := by decide +kernel
theorem dX9_lean_11 : decode cX9_lean 11 = .ok (.ifCond .ne 7, 3) := by decide +kernel
theorem dX9_lean_14 : decode cX9_lean 14 = .ok (.iconst 1, 1) := by decide +kernel
theorem dX9_lean_15 : decode cX9_lean 15 = .ok (.goto 4, 3) := by decide +kernel
theorem dX9_lean_18 : decode cX9_lean 18 = .ok (.iconst 0, 1) := by decide +kernel
theorem dX9_lean_19 : decode cX9_lean 19 = .ok (.iconst 1, 1) := by decide +kernel
theorem dX9_lean_20 : decode cX9_lean 20 = .ok (.iconst 0, 1) := by decide +kernel
theorem dX9_lean_21 : decode cX9_lean 21 = .ok (.invokevirtual 119, 3) := by decide +kernel
theorem dX9_lean_24 : decode cX9_lean 24 = .ok (.ifCond .eq 5, 3) := by decide +kernel
theorem dX9_lean_27 : decode cX9_lean 27 = .ok (.iconst 0, 1) := by decide +kernel
theorem dX9_lean_28 : decode cX9_lean 28 = .ok (.ireturn, 1) := by decide +kernel
theorem dX9_lean_29 : decode cX9_lean 29 = .ok (.aload_n 0, 1) := by decide +kernel
theorem dX9_lean_30 : decode cX9_lean 30 = .ok (.getfield 20, 3) := by decide +kernel
theorem dX9_lean_33 : decode cX9_lean 33 = .ok (.iconst 4, 1) := by decide +kernel
theorem dX9_lean_34 : decode cX9_lean 34 = .ok (.laload, 1) := by decide +kernel
theorem dX9_lean_35 : decode cX9_lean 35 = .ok (.iload_n 1, 1) := by decide +kernel
theorem dX9_lean_36 : decode cX9_lean 36 = .ok (.invokestatic 140, 3) := by decide +kernel
theorem dX9_lean_39 : decode cX9_lean 39 = .ok (.istore_n 3, 1) := by decide +kernel
theorem dX9_lean_40 : decode cX9_lean 40 = .ok (.aload_n 0, 1) := by decide +kernel
theorem dX9_lean_41 : decode cX9_lean 41 = .ok (.invokevirtual 126, 3) := by decide +kernel
theorem dX9_lean_44 : decode cX9_lean 44 = .ok (.aload_n 0, 1) := by decide +kernel
theorem dX9_lean_45 : decode cX9_lean 45 = .ok (.getfield 20, 3) := by decide +kernel
theorem dX9_lean_48 : decode cX9_lean 48 = .ok (.iconst 4, 1) := by decide +kernel
theorem dX9_lean_49 : decode cX9_lean 49 = .ok (.iload_n 2, 1) := by decide +kernel
theorem dX9_lean_50 : decode cX9_lean 50 = .ok (.ifCond .eq 16, 3) := by decide +kernel
theorem dX9_lean_53 : decode cX9_lean 53 = .ok (.aload_n 0, 1) := by decide +kernel
theorem dX9_lean_54 : decode cX9_lean 54 = .ok (.getfield 20, 3) := by decide +kernel
theorem dX9_lean_57 : decode cX9_lean 57 = .ok (.iconst 4, 1) := by decide +kernel
theorem dX9_lean_58 : decode cX9_lean 58 = .ok (.laload, 1) := by decide +kernel
theorem dX9_lean_59 : decode cX9_lean 59 = .ok (.lconst 1, 1) := by decide +kernel
theorem dX9_lean_60 : decode cX9_lean 60 = .ok (.iload_n 1, 1) := by decide +kernel
theorem dX9_lean_61 : decode cX9_lean 61 = .ok (.lshl, 1) := by decide +kernel
theorem dX9_lean_62 : decode cX9_lean 62 = .ok (.lor, 1) := by decide +kernel
theorem dX9_lean_63 : decode cX9_lean 63 = .ok (.goto 17, 3) := by decide +kernel
theorem dX9_lean_66 : decode cX9_lean 66 = .ok (.aload_n 0, 1) := by decide +kernel
theorem dX9_lean_67 : decode cX9_lean 67 = .ok (.getfield 20, 3) := by decide +kernel
theorem dX9_lean_70 : decode cX9_lean 70 = .ok (.iconst 4, 1) := by decide +kernel
theorem dX9_lean_71 : decode cX9_lean 71 = .ok (.laload, 1) := by decide +kernel
theorem dX9_lean_72 : decode cX9_lean 72 = .ok (.lconst 1, 1) := by decide +kernel
theorem dX9_lean_73 : decode cX9_lean 73 = .ok (.iload_n 1, 1) := by decide +kernel
theorem dX9_lean_74 : decode cX9_lean 74 = .ok (.lshl, 1) := by decide +kernel
theorem dX9_lean_75 : decode cX9_lean 75 = .ok (.ldc2_w 106, 3) := by decide +kernel
theorem dX9_lean_78 : decode cX9_lean 78 = .ok (.lxor, 1) := by decide +kernel
theorem dX9_lean_79 : decode cX9_lean 79 = .ok (.land, 1) := by decide +kernel
theorem dX9_lean_80 : decode cX9_lean 80 = .ok (.lastore, 1) := by decide +kernel
theorem dX9_lean_81 : decode cX9_lean 81 = .ok (.iload_n 3, 1) := by decide +kernel
theorem dX9_lean_82 : decode cX9_lean 82 = .ok (.iload_n 2, 1) := by decide +kernel
theorem dX9_lean_83 : decode cX9_lean 83 = .ok (.if_icmp .ne 7, 3) := by decide +kernel
theorem dX9_lean_86 : decode cX9_lean 86 = .ok (.iconst 0, 1) := by decide +kernel
theorem dX9_lean_87 : decode cX9_lean 87 = .ok (.goto 4, 3) := by decide +kernel
theorem dX9_lean_90 : decode cX9_lean 90 = .ok (.iconst 1, 1) := by decide +kernel
theorem dX9_lean_91 : decode cX9_lean 91 = .ok (.ireturn, 1) := by decide +kernel
theorem dX9_budget_0 : decode cX9_budget 0 = .ok (.aload_n 0, 1) := by decide +kernel
theorem dX9_budget_1 : decode cX9_budget 1 = .ok (.iconst 0, 1) := by decide +kernel
theorem dX9_budget_2 : decode cX9_budget 2 = .ok (.putfield 60, 3) := by decide +kernel
theorem dX9_budget_5 : decode cX9_budget 5 = .ok (.aload_n 0, 1) := by decide +kernel
theorem dX9_budget_6 : decode cX9_budget 6 = .ok (.iload_n 1, 1) := by decide +kernel
theorem dX9_budget_7 : decode cX9_budget 7 = .ok (.iconst 0, 1) := by decide +kernel
theorem dX9_budget_8 : decode cX9_budget 8 = .ok (.sipush 9999, 3) := by decide +kernel
theorem dX9_budget_11 : decode cX9_budget 11 = .ok (.invokestatic 116, 3) := by decide +kernel
theorem dX9_budget_14 : decode cX9_budget 14 = .ok (.ifCond .ne 7, 3) := by decide +kernel
theorem dX9_budget_17 : decode cX9_budget 17 = .ok (.iconst 1, 1) := by decide +kernel
theorem dX9_budget_18 : decode cX9_budget 18 = .ok (.goto 4, 3) := by decide +kernel
theorem dX9_budget_21 : decode cX9_budget 21 = .ok (.iconst 0, 1) := by decide +kernel
theorem dX9_budget_22 : decode cX9_budget 22 = .ok (.iconst 1, 1) := by decide +kernel
theorem dX9_budget_23 : decode cX9_budget 23 = .ok (.iconst 1, 1) := by decide +kernel
theorem dX9_budget_24 : decode cX9_budget 24 = .ok (.invokevirtual 119, 3) := by decide +kernel
theorem dX9_budget_27 : decode cX9_budget 27 = .ok (.ifCond .eq 5, 3) := by decide +kernel
theorem dX9_budget_30 : decode cX9_budget 30 = .ok (.iconst 0, 1) := by decide +kernel
theorem dX9_budget_31 : decode cX9_budget 31 = .ok (.ireturn, 1) := by decide +kernel
theorem dX9_budget_32 : decode cX9_budget 32 = .ok (.aload_n 0, 1) := by decide +kernel
theorem dX9_budget_33 : decode cX9_budget 33 = .ok (.invokevirtual 126, 3) := by decide +kernel
theorem dX9_budget_36 : decode cX9_budget 36 = .ok (.aload_n 0, 1) := by decide +kernel
theorem dX9_budget_37 : decode cX9_budget 37 = .ok (.getfield 20, 3) := by decide +kernel
theorem dX9_budget_40 : decode cX9_budget 40 = .ok (.iconst 2, 1) := by decide +kernel
theorem dX9_budget_41 : decode cX9_budget 41 = .ok (.laload, 1) := by decide +kernel
theorem dX9_budget_42 : decode cX9_budget 42 = .ok (.l2i, 1) := by decide +kernel
theorem dX9_budget_43 : decode cX9_budget 43 = .ok (.istore_n 2, 1) := by decide +kernel
theorem dX9_budget_44 : decode cX9_budget 44 = .ok (.aload_n 0, 1) := by decide +kernel
theorem dX9_budget_45 : decode cX9_budget 45 = .ok (.getfield 20, 3) := by decide +kernel
theorem dX9_budget_48 : decode cX9_budget 48 = .ok (.iconst 2, 1) := by decide +kernel
theorem dX9_budget_49 : decode cX9_budget 49 = .ok (.iload_n 1, 1) := by decide +kernel
theorem dX9_budget_50 : decode cX9_budget 50 = .ok (.i2l, 1) := by decide +kernel
theorem dX9_budget_51 : decode cX9_budget 51 = .ok (.lastore, 1) := by decide +kernel
theorem dX9_budget_52 : decode cX9_budget 52 = .ok (.iload_n 2, 1) := by decide +kernel
theorem dX9_budget_53 : decode cX9_budget 53 = .ok (.ireturn, 1) := by decide +kernel
theorem dX9_takenNow_0 : decode cX9_takenNow 0 = .ok (.aload_n 0, 1) := by decide +kernel
theorem dX9_takenNow_1 : decode cX9_takenNow 1 = .ok (.getfield 20, 3) := by decide +kernel
theorem dX9_takenNow_4 : decode cX9_takenNow 4 = .ok (.iconst 3, 1) := by decide +kernel
theorem dX9_takenNow_5 : decode cX9_takenNow 5 = .ok (.laload, 1) := by decide +kernel
theorem dX9_takenNow_6 : decode cX9_takenNow 6 = .ok (.l2i, 1) := by decide +kernel
theorem dX9_takenNow_7 : decode cX9_takenNow 7 = .ok (.ireturn, 1) := by decide +kernel
theorem dX9_take_0 : decode cX9_take 0 = .ok (.aload_n 0, 1) := by decide +kernel
theorem dX9_take_1 : decode cX9_take 1 = .ok (.iconst 0, 1) := by decide +kernel
theorem dX9_take_2 : decode cX9_take 2 = .ok (.putfield 60, 3) := by decide +kernel
theorem dX9_take_5 : decode cX9_take 5 = .ok (.aload_n 0, 1) := by decide +kernel
theorem dX9_take_6 : decode cX9_take 6 = .ok (.aload_n 0, 1) := by decide +kernel
theorem dX9_take_7 : decode cX9_take 7 = .ok (.iload_n 1, 1) := by decide +kernel
theorem dX9_take_8 : decode cX9_take 8 = .ok (.invokevirtual 183, 3) := by decide +kernel
theorem dX9_take_11 : decode cX9_take 11 = .ok (.ifCond .ne 7, 3) := by decide +kernel
theorem dX9_take_14 : decode cX9_take 14 = .ok (.iconst 1, 1) := by decide +kernel
theorem dX9_take_15 : decode cX9_take 15 = .ok (.goto 4, 3) := by decide +kernel
theorem dX9_take_18 : decode cX9_take 18 = .ok (.iconst 0, 1) := by decide +kernel
theorem dX9_take_19 : decode cX9_take 19 = .ok (.iconst 1, 1) := by decide +kernel
theorem dX9_take_20 : decode cX9_take 20 = .ok (.iconst 0, 1) := by decide +kernel
theorem dX9_take_21 : decode cX9_take 21 = .ok (.invokevirtual 119, 3) := by decide +kernel
theorem dX9_take_24 : decode cX9_take 24 = .ok (.ifCond .ne 29, 3) := by decide +kernel
theorem dX9_take_27 : decode cX9_take 27 = .ok (.aload_n 0, 1) := by decide +kernel
theorem dX9_take_28 : decode cX9_take 28 = .ok (.aload_n 0, 1) := by decide +kernel
theorem dX9_take_29 : decode cX9_take 29 = .ok (.aload_n 0, 1) := by decide +kernel
theorem dX9_take_30 : decode cX9_take 30 = .ok (.invokevirtual 186, 3) := by decide +kernel
theorem dX9_take_33 : decode cX9_take 33 = .ok (.iload_n 1, 1) := by decide +kernel
theorem dX9_take_34 : decode cX9_take 34 = .ok (.invokevirtual 189, 3) := by decide +kernel
theorem dX9_take_37 : decode cX9_take 37 = .ok (.ifCond .ne 7, 3) := by decide +kernel
theorem dX9_take_40 : decode cX9_take 40 = .ok (.iconst 1, 1) := by decide +kernel
theorem dX9_take_41 : decode cX9_take 41 = .ok (.goto 4, 3) := by decide +kernel
theorem dX9_take_44 : decode cX9_take 44 = .ok (.iconst 0, 1) := by decide +kernel
theorem dX9_take_45 : decode cX9_take 45 = .ok (.iconst 2, 1) := by decide +kernel
theorem dX9_take_46 : decode cX9_take 46 = .ok (.iconst 2, 1) := by decide +kernel
theorem dX9_take_47 : decode cX9_take 47 = .ok (.invokevirtual 119, 3) := by decide +kernel
theorem dX9_take_50 : decode cX9_take 50 = .ok (.ifCond .eq 5, 3) := by decide +kernel
theorem dX9_take_53 : decode cX9_take 53 = .ok (.iconst 0, 1) := by decide +kernel
theorem dX9_take_54 : decode cX9_take 54 = .ok (.ireturn, 1) := by decide +kernel
theorem dX9_take_55 : decode cX9_take 55 = .ok (.aload_n 0, 1) := by decide +kernel
theorem dX9_take_56 : decode cX9_take 56 = .ok (.aload_n 0, 1) := by decide +kernel
theorem dX9_take_57 : decode cX9_take 57 = .ok (.invokevirtual 186, 3) := by decide +kernel
theorem dX9_take_60 : decode cX9_take 60 = .ok (.iload_n 1, 1) := by decide +kernel
theorem dX9_take_61 : decode cX9_take 61 = .ok (.invokevirtual 193, 3) := by decide +kernel
theorem dX9_take_64 : decode cX9_take 64 = .ok (.istore_n 2, 1) := by decide +kernel
theorem dX9_take_65 : decode cX9_take 65 = .ok (.aload_n 0, 1) := by decide +kernel
theorem dX9_take_66 : decode cX9_take 66 = .ok (.invokevirtual 126, 3) := by decide +kernel
theorem dX9_take_69 : decode cX9_take 69 = .ok (.aload_n 0, 1) := by decide +kernel
theorem dX9_take_70 : decode cX9_take 70 = .ok (.getfield 20, 3) := by decide +kernel
theorem dX9_take_73 : decode cX9_take 73 = .ok (.iconst 3, 1) := by decide +kernel
theorem dX9_take_74 : decode cX9_take 74 = .ok (.dup2, 1) := by decide +kernel
theorem dX9_take_75 : decode cX9_take 75 = .ok (.laload, 1) := by decide +kernel
theorem dX9_take_76 : decode cX9_take 76 = .ok (.aload_n 0, 1) := by decide +kernel
theorem dX9_take_77 : decode cX9_take 77 = .ok (.iload_n 1, 1) := by decide +kernel
theorem dX9_take_78 : decode cX9_take 78 = .ok (.invokevirtual 163, 3) := by decide +kernel
theorem dX9_take_81 : decode cX9_take 81 = .ok (.i2l, 1) := by decide +kernel
theorem dX9_take_82 : decode cX9_take 82 = .ok (.lor, 1) := by decide +kernel
theorem dX9_take_83 : decode cX9_take 83 = .ok (.lastore, 1) := by decide +kernel
theorem dX9_take_84 : decode cX9_take 84 = .ok (.iload_n 2, 1) := by decide +kernel
theorem dX9_take_85 : decode cX9_take 85 = .ok (.ireturn, 1) := by decide +kernel
theorem dX9_drop_0 : decode cX9_drop 0 = .ok (.aload_n 0, 1) := by decide +kernel
theorem dX9_drop_1 : decode cX9_drop 1 = .ok (.iconst 0, 1) := by decide +kernel
theorem dX9_drop_2 : decode cX9_drop 2 = .ok (.putfield 60, 3) := by decide +kernel
theorem dX9_drop_5 : decode cX9_drop 5 = .ok (.aload_n 0, 1) := by decide +kernel
theorem dX9_drop_6 : decode cX9_drop 6 = .ok (.aload_n 0, 1) := by decide +kernel
theorem dX9_drop_7 : decode cX9_drop 7 = .ok (.iload_n 1, 1) := by decide +kernel
theorem dX9_drop_8 : decode cX9_drop 8 = .ok (.invokevirtual 183, 3) := by decide +kernel
theorem dX9_drop_11 : decode cX9_drop 11 = .ok (.ifCond .ne 7, 3) := by decide +kernel
theorem dX9_drop_14 : decode cX9_drop 14 = .ok (.iconst 1, 1) := by decide +kernel
theorem dX9_drop_15 : decode cX9_drop 15 = .ok (.goto 4, 3) := by decide +kernel
theorem dX9_drop_18 : decode cX9_drop 18 = .ok (.iconst 0, 1) := by decide +kernel
theorem dX9_drop_19 : decode cX9_drop 19 = .ok (.iconst 1, 1) := by decide +kernel
theorem dX9_drop_20 : decode cX9_drop 20 = .ok (.iconst 0, 1) := by decide +kernel
theorem dX9_drop_21 : decode cX9_drop 21 = .ok (.invokevirtual 119, 3) := by decide +kernel
theorem dX9_drop_24 : decode cX9_drop 24 = .ok (.ifCond .ne 29, 3) := by decide +kernel
theorem dX9_drop_27 : decode cX9_drop 27 = .ok (.aload_n 0, 1) := by decide +kernel
theorem dX9_drop_28 : decode cX9_drop 28 = .ok (.aload_n 0, 1) := by decide +kernel
theorem dX9_drop_29 : decode cX9_drop 29 = .ok (.invokevirtual 186, 3) := by decide +kernel
theorem dX9_drop_32 : decode cX9_drop 32 = .ok (.i2l, 1) := by decide +kernel
theorem dX9_drop_33 : decode cX9_drop 33 = .ok (.iload_n 1, 1) := by decide +kernel
theorem dX9_drop_34 : decode cX9_drop 34 = .ok (.invokestatic 140, 3) := by decide +kernel
theorem dX9_drop_37 : decode cX9_drop 37 = .ok (.ifCond .ne 7, 3) := by decide +kernel
theorem dX9_drop_40 : decode cX9_drop 40 = .ok (.iconst 1, 1) := by decide +kernel
theorem dX9_drop_41 : decode cX9_drop 41 = .ok (.goto 4, 3) := by decide +kernel
theorem dX9_drop_44 : decode cX9_drop 44 = .ok (.iconst 0, 1) := by decide +kernel
theorem dX9_drop_45 : decode cX9_drop 45 = .ok (.iconst 2, 1) := by decide +kernel
theorem dX9_drop_46 : decode cX9_drop 46 = .ok (.iconst 2, 1) := by decide +kernel
theorem dX9_drop_47 : decode cX9_drop 47 = .ok (.invokevirtual 119, 3) := by decide +kernel
theorem dX9_drop_50 : decode cX9_drop 50 = .ok (.ifCond .eq 5, 3) := by decide +kernel
theorem dX9_drop_53 : decode cX9_drop 53 = .ok (.iconst 0, 1) := by decide +kernel
theorem dX9_drop_54 : decode cX9_drop 54 = .ok (.ireturn, 1) := by decide +kernel
theorem dX9_drop_55 : decode cX9_drop 55 = .ok (.aload_n 0, 1) := by decide +kernel
theorem dX9_drop_56 : decode cX9_drop 56 = .ok (.invokevirtual 126, 3) := by decide +kernel
theorem dX9_drop_59 : decode cX9_drop 59 = .ok (.aload_n 0, 1) := by decide +kernel
theorem dX9_drop_60 : decode cX9_drop 60 = .ok (.aload_n 0, 1) := by decide +kernel
theorem dX9_drop_61 : decode cX9_drop 61 = .ok (.invokevirtual 186, 3) := by decide +kernel
theorem dX9_drop_64 : decode cX9_drop 64 = .ok (.invokevirtual 196, 3) := by decide +kernel
theorem dX9_drop_67 : decode cX9_drop 67 = .ok (.istore_n 2, 1) := by decide +kernel
theorem dX9_drop_68 : decode cX9_drop 68 = .ok (.aload_n 0, 1) := by decide +kernel
theorem dX9_drop_69 : decode cX9_drop 69 = .ok (.invokevirtual 186, 3) := by decide +kernel
theorem dX9_drop_72 : decode cX9_drop 72 = .ok (.istore_n 3, 1) := by decide +kernel
theorem dX9_drop_73 : decode cX9_drop 73 = .ok (.iconst 0, 1) := by decide +kernel
theorem dX9_drop_74 : decode cX9_drop 74 = .ok (.istore 4, 2) := by decide +kernel
theorem dX9_drop_76 : decode cX9_drop 76 = .ok (.iload 4, 2) := by decide +kernel
theorem dX9_drop_78 : decode cX9_drop 78 = .ok (.aload_n 0, 1) := by decide +kernel
theorem dX9_drop_79 : decode cX9_drop 79 = .ok (.invokevirtual 133, 3) := by decide +kernel
theorem dX9_drop_82 : decode cX9_drop 82 = .ok (.if_icmp .ge 42, 3) := by decide +kernel
theorem dX9_drop_85 : decode cX9_drop 85 = .ok (.iload_n 3, 1) := by decide +kernel
theorem dX9_drop_86 : decode cX9_drop 86 = .ok (.i2l, 1) := by decide +kernel
theorem dX9_drop_87 : decode cX9_drop 87 = .ok (.iload 4, 2) := by decide +kernel
theorem dX9_drop_89 : decode cX9_drop 89 = .ok (.invokestatic 140, 3) := by decide +kernel
theorem dX9_drop_92 : decode cX9_drop 92 = .ok (.ifCond .eq 26, 3) := by decide +kernel
theorem dX9_drop_95 : decode cX9_drop 95 = .ok (.aload_n 0, 1) := by decide +kernel
theorem dX9_drop_96 : decode cX9_drop 96 = .ok (.iload 4, 2) := by decide +kernel
theorem dX9_drop_98 : decode cX9_drop 98 = .ok (.invokevirtual 163, 3) := by decide +kernel
theorem dX9_drop_101 : decode cX9_drop 101 = .ok (.i2l, 1) := by decide +kernel
theorem dX9_drop_102 : decode cX9_drop 102 = .ok (.iload_n 1, 1) := by decide +kernel
theorem dX9_drop_103 : decode cX9_drop 103 = .ok (.invokestatic 140, 3) := by decide +kernel
theorem dX9_drop_106 : decode cX9_drop 106 = .ok (.ifCond .eq 12, 3) := by decide +kernel
theorem dX9_drop_109 : decode cX9_drop 109 = .ok (.iload_n 3, 1) := by decide +kernel
theorem dX9_drop_110 : decode cX9_drop 110 = .ok (.iconst 1, 1) := by decide +kernel
theorem dX9_drop_111 : decode cX9_drop 111 = .ok (.iload 4, 2) := by decide +kernel
theorem dX9_drop_113 : decode cX9_drop 113 = .ok (.ishl, 1) := by decide +kernel
theorem dX9_drop_114 : decode cX9_drop 114 = .ok (.iconst (-1), 1) := by decide +kernel
theorem dX9_drop_115 : decode cX9_drop 115 = .ok (.ixor, 1) := by decide +kernel
theorem dX9_drop_116 : decode cX9_drop 116 = .ok (.iand, 1) := by decide +kernel
theorem dX9_drop_117 : decode cX9_drop 117 = .ok (.istore_n 3, 1) := by decide +kernel
theorem dX9_drop_118 : decode cX9_drop 118 = .ok (.iinc 4 1, 3) := by decide +kernel
theorem dX9_drop_121 : decode cX9_drop 121 = .ok (.goto (-45), 3) := by decide +kernel
theorem dX9_drop_124 : decode cX9_drop 124 = .ok (.aload_n 0, 1) := by decide +kernel
theorem dX9_drop_125 : decode cX9_drop 125 = .ok (.getfield 20, 3) := by decide +kernel
theorem dX9_drop_128 : decode cX9_drop 128 = .ok (.iconst 3, 1) := by decide +kernel
theorem dX9_drop_129 : decode cX9_drop 129 = .ok (.iload_n 3, 1) := by decide +kernel
theorem dX9_drop_130 : decode cX9_drop 130 = .ok (.i2l, 1) := by decide +kernel
theorem dX9_drop_131 : decode cX9_drop 131 = .ok (.lastore, 1) := by decide +kernel
theorem dX9_drop_132 : decode cX9_drop 132 = .ok (.iload_n 2, 1) := by decide +kernel
theorem dX9_drop_133 : decode cX9_drop 133 = .ok (.aload_n 0, 1) := by decide +kernel
theorem dX9_drop_134 : decode cX9_drop 134 = .ok (.iload_n 3, 1) := by decide +kernel
theorem dX9_drop_135 : decode cX9_drop 135 = .ok (.invokevirtual 196, 3) := by decide +kernel
theorem dX9_drop_138 : decode cX9_drop 138 = .ok (.isub, 1) := by decide +kernel
theorem dX9_drop_139 : decode cX9_drop 139 = .ok (.ireturn, 1) := by decide +kernel
theorem dX9_told_0 : decode cX9_told 0 = .ok (.aload_n 0, 1) := by decide +kernel
theorem dX9_told_1 : decode cX9_told 1 = .ok (.iconst 0, 1) := by decide +kernel
theorem dX9_told_2 : decode cX9_told 2 = .ok (.putfield 60, 3) := by decide +kernel
theorem dX9_told_5 : decode cX9_told 5 = .ok (.aload_n 0, 1) := by decide +kernel
theorem dX9_told_6 : decode cX9_told 6 = .ok (.iload_n 1, 1) := by decide +kernel
theorem dX9_told_7 : decode cX9_told 7 = .ok (.iconst 0, 1) := by decide +kernel
theorem dX9_told_8 : decode cX9_told 8 = .ok (.bipush 9, 2) := by decide +kernel
theorem dX9_told_10 : decode cX9_told 10 = .ok (.invokestatic 116, 3) := by decide +kernel
theorem dX9_told_13 : decode cX9_told 13 = .ok (.ifCond .ne 7, 3) := by decide +kernel
theorem dX9_told_16 : decode cX9_told 16 = .ok (.iconst 1, 1) := by decide +kernel
theorem dX9_told_17 : decode cX9_told 17 = .ok (.goto 4, 3) := by decide +kernel
theorem dX9_told_20 : decode cX9_told 20 = .ok (.iconst 0, 1) := by decide +kernel
theorem dX9_told_21 : decode cX9_told 21 = .ok (.iconst 1, 1) := by decide +kernel
theorem dX9_told_22 : decode cX9_told 22 = .ok (.iconst 1, 1) := by decide +kernel
theorem dX9_told_23 : decode cX9_told 23 = .ok (.invokevirtual 119, 3) := by decide +kernel
theorem dX9_told_26 : decode cX9_told 26 = .ok (.ifCond .eq 5, 3) := by decide +kernel
theorem dX9_told_29 : decode cX9_told 29 = .ok (.iconst 0, 1) := by decide +kernel
theorem dX9_told_30 : decode cX9_told 30 = .ok (.ireturn, 1) := by decide +kernel
theorem dX9_told_31 : decode cX9_told 31 = .ok (.iconst 1, 1) := by decide +kernel
theorem dX9_told_32 : decode cX9_told 32 = .ok (.aload_n 0, 1) := by decide +kernel
theorem dX9_told_33 : decode cX9_told 33 = .ok (.invokevirtual 133, 3) := by decide +kernel
theorem dX9_told_36 : decode cX9_told 36 = .ok (.ishl, 1) := by decide +kernel
theorem dX9_told_37 : decode cX9_told 37 = .ok (.iconst 1, 1) := by decide +kernel
theorem dX9_told_38 : decode cX9_told 38 = .ok (.isub, 1) := by decide +kernel
theorem dX9_told_39 : decode cX9_told 39 = .ok (.istore_n 2, 1) := by decide +kernel
theorem dX9_told_40 : decode cX9_told 40 = .ok (.iload_n 1, 1) := by decide +kernel
theorem dX9_told_41 : decode cX9_told 41 = .ok (.tableswitch 105 0 8 #[51, 56, 61, 69, 75, 81, 86, 91, 96], 51) := by decide +kernel
theorem dX9_told_92 : decode cX9_told 92 = .ok (.aload_n 0, 1) := by decide +kernel
theorem dX9_told_93 : decode cX9_told 93 = .ok (.invokevirtual 133, 3) := by decide +kernel
theorem dX9_told_96 : decode cX9_told 96 = .ok (.ireturn, 1) := by decide +kernel
theorem dX9_told_97 : decode cX9_told 97 = .ok (.aload_n 0, 1) := by decide +kernel
theorem dX9_told_98 : decode cX9_told 98 = .ok (.invokevirtual 147, 3) := by decide +kernel
theorem dX9_told_101 : decode cX9_told 101 = .ok (.ireturn, 1) := by decide +kernel
theorem dX9_told_102 : decode cX9_told 102 = .ok (.aload_n 0, 1) := by decide +kernel
theorem dX9_told_103 : decode cX9_told 103 = .ok (.getfield 20, 3) := by decide +kernel
theorem dX9_told_106 : decode cX9_told 106 = .ok (.iconst 2, 1) := by decide +kernel
theorem dX9_told_107 : decode cX9_told 107 = .ok (.laload, 1) := by decide +kernel
theorem dX9_told_108 : decode cX9_told 108 = .ok (.l2i, 1) := by decide +kernel
theorem dX9_told_109 : decode cX9_told 109 = .ok (.ireturn, 1) := by decide +kernel
theorem dX9_told_110 : decode cX9_told 110 = .ok (.aload_n 0, 1) := by decide +kernel
theorem dX9_told_111 : decode cX9_told 111 = .ok (.iload_n 2, 1) := by decide +kernel
theorem dX9_told_112 : decode cX9_told 112 = .ok (.invokevirtual 196, 3) := by decide +kernel
theorem dX9_told_115 : decode cX9_told 115 = .ok (.ireturn, 1) := by decide +kernel
theorem dX9_told_116 : decode cX9_told 116 = .ok (.aload_n 0, 1) := by decide +kernel
theorem dX9_told_117 : decode cX9_told 117 = .ok (.iload_n 2, 1) := by decide +kernel
theorem dX9_told_118 : decode cX9_told 118 = .ok (.invokevirtual 166, 3) := by decide +kernel
theorem dX9_told_121 : decode cX9_told 121 = .ok (.ireturn, 1) := by decide +kernel
theorem dX9_told_122 : decode cX9_told 122 = .ok (.aload_n 0, 1) := by decide +kernel
theorem dX9_told_123 : decode cX9_told 123 = .ok (.getfield 63, 3) := by decide +kernel
theorem dX9_told_126 : decode cX9_told 126 = .ok (.ireturn, 1) := by decide +kernel
theorem dX9_told_127 : decode cX9_told 127 = .ok (.aload_n 0, 1) := by decide +kernel
theorem dX9_told_128 : decode cX9_told 128 = .ok (.getfield 177, 3) := by decide +kernel
theorem dX9_told_131 : decode cX9_told 131 = .ok (.ireturn, 1) := by decide +kernel
theorem dX9_told_132 : decode cX9_told 132 = .ok (.aload_n 0, 1) := by decide +kernel
theorem dX9_told_133 : decode cX9_told 133 = .ok (.invokevirtual 186, 3) := by decide +kernel
theorem dX9_told_136 : decode cX9_told 136 = .ok (.ireturn, 1) := by decide +kernel
theorem dX9_told_137 : decode cX9_told 137 = .ok (.aload_n 0, 1) := by decide +kernel
theorem dX9_told_138 : decode cX9_told 138 = .ok (.aload_n 0, 1) := by decide +kernel
theorem dX9_told_139 : decode cX9_told 139 = .ok (.invokevirtual 186, 3) := by decide +kernel
theorem dX9_told_142 : decode cX9_told 142 = .ok (.invokevirtual 196, 3) := by decide +kernel
theorem dX9_told_145 : decode cX9_told 145 = .ok (.ireturn, 1) := by decide +kernel
theorem dX9_told_146 : decode cX9_told 146 = .ok (.aload_n 0, 1) := by decide +kernel
theorem dX9_told_147 : decode cX9_told 147 = .ok (.aload_n 0, 1) := by decide +kernel
theorem dX9_told_148 : decode cX9_told 148 = .ok (.invokevirtual 186, 3) := by decide +kernel
theorem dX9_told_151 : decode cX9_told 151 = .ok (.invokevirtual 166, 3) := by decide +kernel
theorem dX9_told_154 : decode cX9_told 154 = .ok (.ireturn, 1) := by decide +kernel
theorem dX9_sentence_0 : decode cX9_sentence 0 = .ok (.aload_n 0, 1) := by decide +kernel
theorem dX9_sentence_1 : decode cX9_sentence 1 = .ok (.iconst 0, 1) := by decide +kernel
theorem dX9_sentence_2 : decode cX9_sentence 2 = .ok (.putfield 60, 3) := by decide +kernel
theorem dX9_sentence_5 : decode cX9_sentence 5 = .ok (.aload_n 0, 1) := by decide +kernel
theorem dX9_sentence_6 : decode cX9_sentence 6 = .ok (.aload_n 0, 1) := by decide +kernel
theorem dX9_sentence_7 : decode cX9_sentence 7 = .ok (.iload_n 1, 1) := by decide +kernel
theorem dX9_sentence_8 : decode cX9_sentence 8 = .ok (.invokevirtual 183, 3) := by decide +kernel
theorem dX9_sentence_11 : decode cX9_sentence 11 = .ok (.ifCond .ne 7, 3) := by decide +kernel
theorem dX9_sentence_14 : decode cX9_sentence 14 = .ok (.iconst 1, 1) := by decide +kernel
theorem dX9_sentence_15 : decode cX9_sentence 15 = .ok (.goto 4, 3) := by decide +kernel
theorem dX9_sentence_18 : decode cX9_sentence 18 = .ok (.iconst 0, 1) := by decide +kernel
theorem dX9_sentence_19 : decode cX9_sentence 19 = .ok (.iconst 1, 1) := by decide +kernel
theorem dX9_sentence_20 : decode cX9_sentence 20 = .ok (.iconst 0, 1) := by decide +kernel
theorem dX9_sentence_21 : decode cX9_sentence 21 = .ok (.invokevirtual 119, 3) := by decide +kernel
theorem dX9_sentence_24 : decode cX9_sentence 24 = .ok (.ifCond .ne 27, 3) := by decide +kernel
theorem dX9_sentence_27 : decode cX9_sentence 27 = .ok (.aload_n 0, 1) := by decide +kernel
theorem dX9_sentence_28 : decode cX9_sentence 28 = .ok (.iload_n 2, 1) := by decide +kernel
theorem dX9_sentence_29 : decode cX9_sentence 29 = .ok (.iconst 0, 1) := by decide +kernel
theorem dX9_sentence_30 : decode cX9_sentence 30 = .ok (.bipush 7, 2) := by decide +kernel
theorem dX9_sentence_32 : decode cX9_sentence 32 = .ok (.invokestatic 116, 3) := by decide +kernel
theorem dX9_sentence_35 : decode cX9_sentence 35 = .ok (.ifCond .ne 7, 3) := by decide +kernel
theorem dX9_sentence_38 : decode cX9_sentence 38 = .ok (.iconst 1, 1) := by decide +kernel
theorem dX9_sentence_39 : decode cX9_sentence 39 = .ok (.goto 4, 3) := by decide +kernel
theorem dX9_sentence_42 : decode cX9_sentence 42 = .ok (.iconst 0, 1) := by decide +kernel
theorem dX9_sentence_43 : decode cX9_sentence 43 = .ok (.iconst 2, 1) := by decide +kernel
theorem dX9_sentence_44 : decode cX9_sentence 44 = .ok (.iconst 1, 1) := by decide +kernel
theorem dX9_sentence_45 : decode cX9_sentence 45 = .ok (.invokevirtual 119, 3) := by decide +kernel
theorem dX9_sentence_48 : decode cX9_sentence 48 = .ok (.ifCond .eq 5, 3) := by decide +kernel
theorem dX9_sentence_51 : decode cX9_sentence 51 = .ok (.iconst 0, 1) := by decide +kernel
theorem dX9_sentence_52 : decode cX9_sentence 52 = .ok (.ireturn, 1) := by decide +kernel
theorem dX9_sentence_53 : decode cX9_sentence 53 = .ok (.iload_n 2, 1) := by decide +kernel
theorem dX9_sentence_54 : decode cX9_sentence 54 = .ok (.tableswitch 106 0 6 #[42, 48, 61, 70, 80, 86, 96], 42) := by decide +kernel
theorem dX9_sentence_96 : decode cX9_sentence 96 = .ok (.aload_n 0, 1) := by decide +kernel
theorem dX9_sentence_97 : decode cX9_sentence 97 = .ok (.iload_n 1, 1) := by decide +kernel
theorem dX9_sentence_98 : decode cX9_sentence 98 = .ok (.invokevirtual 160, 3) := by decide +kernel
theorem dX9_sentence_101 : decode cX9_sentence 101 = .ok (.ireturn, 1) := by decide +kernel
theorem dX9_sentence_102 : decode cX9_sentence 102 = .ok (.aload_n 0, 1) := by decide +kernel
theorem dX9_sentence_103 : decode cX9_sentence 103 = .ok (.getfield 20, 3) := by decide +kernel
theorem dX9_sentence_106 : decode cX9_sentence 106 = .ok (.iload_n 1, 1) := by decide +kernel
theorem dX9_sentence_107 : decode cX9_sentence 107 = .ok (.invokestatic 66, 3) := by decide +kernel
theorem dX9_sentence_110 : decode cX9_sentence 110 = .ok (.iconst 2, 1) := by decide +kernel
theorem dX9_sentence_111 : decode cX9_sentence 111 = .ok (.iadd, 1) := by decide +kernel
theorem dX9_sentence_112 : decode cX9_sentence 112 = .ok (.laload, 1) := by decide +kernel
theorem dX9_sentence_113 : decode cX9_sentence 113 = .ok (.l2i, 1) := by decide +kernel
theorem dX9_sentence_114 : decode cX9_sentence 114 = .ok (.ireturn, 1) := by decide +kernel
theorem dX9_sentence_115 : decode cX9_sentence 115 = .ok (.aload_n 0, 1) := by decide +kernel
theorem dX9_sentence_116 : decode cX9_sentence 116 = .ok (.iload_n 1, 1) := by decide +kernel
theorem dX9_sentence_117 : decode cX9_sentence 117 = .ok (.invokevirtual 136, 3) := by decide +kernel
theorem dX9_sentence_120 : decode cX9_sentence 120 = .ok (.invokestatic 199, 3) := by decide +kernel
theorem dX9_sentence_123 : decode cX9_sentence 123 = .ok (.ireturn, 1) := by decide +kernel
theorem dX9_sentence_124 : decode cX9_sentence 124 = .ok (.aload_n 0, 1) := by decide +kernel
theorem dX9_sentence_125 : decode cX9_sentence 125 = .ok (.aload_n 0, 1) := by decide +kernel
theorem dX9_sentence_126 : decode cX9_sentence 126 = .ok (.iload_n 1, 1) := by decide +kernel
theorem dX9_sentence_127 : decode cX9_sentence 127 = .ok (.invokevirtual 136, 3) := by decide +kernel
theorem dX9_sentence_130 : decode cX9_sentence 130 = .ok (.invokevirtual 156, 3) := by decide +kernel
theorem dX9_sentence_133 : decode cX9_sentence 133 = .ok (.ireturn, 1) := by decide +kernel
theorem dX9_sentence_134 : decode cX9_sentence 134 = .ok (.aload_n 0, 1) := by decide +kernel
theorem dX9_sentence_135 : decode cX9_sentence 135 = .ok (.iload_n 1, 1) := by decide +kernel
theorem dX9_sentence_136 : decode cX9_sentence 136 = .ok (.invokevirtual 163, 3) := by decide +kernel
theorem dX9_sentence_139 : decode cX9_sentence 139 = .ok (.ireturn, 1) := by decide +kernel
theorem dX9_sentence_140 : decode cX9_sentence 140 = .ok (.aload_n 0, 1) := by decide +kernel
theorem dX9_sentence_141 : decode cX9_sentence 141 = .ok (.aload_n 0, 1) := by decide +kernel
theorem dX9_sentence_142 : decode cX9_sentence 142 = .ok (.invokevirtual 186, 3) := by decide +kernel
theorem dX9_sentence_145 : decode cX9_sentence 145 = .ok (.iload_n 1, 1) := by decide +kernel
theorem dX9_sentence_146 : decode cX9_sentence 146 = .ok (.invokevirtual 193, 3) := by decide +kernel
theorem dX9_sentence_149 : decode cX9_sentence 149 = .ok (.ireturn, 1) := by decide +kernel
theorem dX9_sentence_150 : decode cX9_sentence 150 = .ok (.aload_n 0, 1) := by decide +kernel
theorem dX9_sentence_151 : decode cX9_sentence 151 = .ok (.aload_n 0, 1) := by decide +kernel
theorem dX9_sentence_152 : decode cX9_sentence 152 = .ok (.invokevirtual 186, 3) := by decide +kernel
theorem dX9_sentence_155 : decode cX9_sentence 155 = .ok (.iload_n 1, 1) := by decide +kernel
theorem dX9_sentence_156 : decode cX9_sentence 156 = .ok (.invokevirtual 169, 3) := by decide +kernel
theorem dX9_sentence_159 : decode cX9_sentence 159 = .ok (.ireturn, 1) := by decide +kernel
theorem dX9_sentence_160 : decode cX9_sentence 160 = .ok (.aload_n 0, 1) := by decide +kernel
theorem dX9_sentence_161 : decode cX9_sentence 161 = .ok (.aload_n 0, 1) := by decide +kernel
theorem dX9_sentence_162 : decode cX9_sentence 162 = .ok (.invokevirtual 186, 3) := by decide +kernel
theorem dX9_sentence_165 : decode cX9_sentence 165 = .ok (.iload_n 1, 1) := by decide +kernel
theorem dX9_sentence_166 : decode cX9_sentence 166 = .ok (.invokevirtual 189, 3) := by decide +kernel
theorem dX9_sentence_169 : decode cX9_sentence 169 = .ok (.ifCond .eq 7, 3) := by decide +kernel
theorem dX9_sentence_172 : decode cX9_sentence 172 = .ok (.iconst 1, 1) := by decide +kernel
theorem dX9_sentence_173 : decode cX9_sentence 173 = .ok (.goto 4, 3) := by decide +kernel
theorem dX9_sentence_176 : decode cX9_sentence 176 = .ok (.iconst 0, 1) := by decide +kernel
theorem dX9_sentence_177 : decode cX9_sentence 177 = .ok (.ireturn, 1) := by decide +kernel
theorem dX9_words_0 : decode cX9_words 0 = .ok (.aload_n 0, 1) := by decide +kernel
theorem dX9_words_1 : decode cX9_words 1 = .ok (.iconst 0, 1) := by decide +kernel
theorem dX9_words_2 : decode cX9_words 2 = .ok (.putfield 60, 3) := by decide +kernel
theorem dX9_words_5 : decode cX9_words 5 = .ok (.aload_n 0, 1) := by decide +kernel
theorem dX9_words_6 : decode cX9_words 6 = .ok (.aload_n 0, 1) := by decide +kernel
theorem dX9_words_7 : decode cX9_words 7 = .ok (.iload_n 1, 1) := by decide +kernel
theorem dX9_words_8 : decode cX9_words 8 = .ok (.invokevirtual 183, 3) := by decide +kernel
theorem dX9_words_11 : decode cX9_words 11 = .ok (.ifCond .ne 7, 3) := by decide +kernel
theorem dX9_words_14 : decode cX9_words 14 = .ok (.iconst 1, 1) := by decide +kernel
theorem dX9_words_15 : decode cX9_words 15 = .ok (.goto 4, 3) := by decide +kernel
theorem dX9_words_18 : decode cX9_words 18 = .ok (.iconst 0, 1) := by decide +kernel
theorem dX9_words_19 : decode cX9_words 19 = .ok (.iconst 1, 1) := by decide +kernel
theorem dX9_words_20 : decode cX9_words 20 = .ok (.iconst 0, 1) := by decide +kernel
theorem dX9_words_21 : decode cX9_words 21 = .ok (.invokevirtual 119, 3) := by decide +kernel
theorem dX9_words_24 : decode cX9_words 24 = .ok (.ifCond .eq 7, 3) := by decide +kernel
theorem dX9_words_27 : decode cX9_words 27 = .ok (.lconst 0, 1) := by decide +kernel
theorem dX9_words_28 : decode cX9_words 28 = .ok (.goto 8, 3) := by decide +kernel
theorem dX9_words_31 : decode cX9_words 31 = .ok (.aload_n 0, 1) := by decide +kernel
theorem dX9_words_32 : decode cX9_words 32 = .ok (.iload_n 1, 1) := by decide +kernel
theorem dX9_words_33 : decode cX9_words 33 = .ok (.invokevirtual 136, 3) := by decide +kernel
theorem dX9_words_36 : decode cX9_words 36 = .ok (.lreturn, 1) := by decide +kernel
theorem dX9_word_0 : decode cX9_word 0 = .ok (.aload_n 0, 1) := by decide +kernel
theorem dX9_word_1 : decode cX9_word 1 = .ok (.iconst 0, 1) := by decide +kernel
theorem dX9_word_2 : decode cX9_word 2 = .ok (.putfield 60, 3) := by decide +kernel
theorem dX9_word_5 : decode cX9_word 5 = .ok (.aload_n 0, 1) := by decide +kernel
theorem dX9_word_6 : decode cX9_word 6 = .ok (.aload_n 0, 1) := by decide +kernel
theorem dX9_word_7 : decode cX9_word 7 = .ok (.iload_n 1, 1) := by decide +kernel
theorem dX9_word_8 : decode cX9_word 8 = .ok (.invokevirtual 180, 3) := by decide +kernel
theorem dX9_word_11 : decode cX9_word 11 = .ok (.ifCond .ne 7, 3) := by decide +kernel
theorem dX9_word_14 : decode cX9_word 14 = .ok (.iconst 1, 1) := by decide +kernel
theorem dX9_word_15 : decode cX9_word 15 = .ok (.goto 4, 3) := by decide +kernel
theorem dX9_word_18 : decode cX9_word 18 = .ok (.iconst 0, 1) := by decide +kernel
theorem dX9_word_19 : decode cX9_word 19 = .ok (.iconst 1, 1) := by decide +kernel
theorem dX9_word_20 : decode cX9_word 20 = .ok (.iconst 0, 1) := by decide +kernel
theorem dX9_word_21 : decode cX9_word 21 = .ok (.invokevirtual 119, 3) := by decide +kernel
theorem dX9_word_24 : decode cX9_word 24 = .ok (.ifCond .ne 26, 3) := by decide +kernel
theorem dX9_word_27 : decode cX9_word 27 = .ok (.aload_n 0, 1) := by decide +kernel
theorem dX9_word_28 : decode cX9_word 28 = .ok (.iload_n 2, 1) := by decide +kernel
theorem dX9_word_29 : decode cX9_word 29 = .ok (.iconst 0, 1) := by decide +kernel
theorem dX9_word_30 : decode cX9_word 30 = .ok (.iconst 3, 1) := by decide +kernel
theorem dX9_word_31 : decode cX9_word 31 = .ok (.invokestatic 116, 3) := by decide +kernel
theorem dX9_word_34 : decode cX9_word 34 = .ok (.ifCond .ne 7, 3) := by decide +kernel
theorem dX9_word_37 : decode cX9_word 37 = .ok (.iconst 1, 1) := by decide +kernel
theorem dX9_word_38 : decode cX9_word 38 = .ok (.goto 4, 3) := by decide +kernel
theorem dX9_word_41 : decode cX9_word 41 = .ok (.iconst 0, 1) := by decide +kernel
theorem dX9_word_42 : decode cX9_word 42 = .ok (.iconst 2, 1) := by decide +kernel
theorem dX9_word_43 : decode cX9_word 43 = .ok (.iconst 1, 1) := by decide +kernel
theorem dX9_word_44 : decode cX9_word 44 = .ok (.invokevirtual 119, 3) := by decide +kernel
theorem dX9_word_47 : decode cX9_word 47 = .ok (.ifCond .eq 5, 3) := by decide +kernel
theorem dX9_word_50 : decode cX9_word 50 = .ok (.iconst 0, 1) := by decide +kernel
theorem dX9_word_51 : decode cX9_word 51 = .ok (.ireturn, 1) := by decide +kernel
theorem dX9_word_52 : decode cX9_word 52 = .ok (.iload_n 2, 1) := by decide +kernel
theorem dX9_word_53 : decode cX9_word 53 = .ok (.ifCond .ne 11, 3) := by decide +kernel
theorem dX9_word_56 : decode cX9_word 56 = .ok (.aload_n 0, 1) := by decide +kernel
theorem dX9_word_57 : decode cX9_word 57 = .ok (.iload_n 1, 1) := by decide +kernel
theorem dX9_word_58 : decode cX9_word 58 = .ok (.invokevirtual 150, 3) := by decide +kernel
theorem dX9_word_61 : decode cX9_word 61 = .ok (.goto 55, 3) := by decide +kernel
theorem dX9_word_64 : decode cX9_word 64 = .ok (.iload_n 2, 1) := by decide +kernel
theorem dX9_word_65 : decode cX9_word 65 = .ok (.iconst 1, 1) := by decide +kernel
theorem dX9_word_66 : decode cX9_word 66 = .ok (.if_icmp .ne 19, 3) := by decide +kernel
theorem dX9_word_69 : decode cX9_word 69 = .ok (.aload_n 0, 1) := by decide +kernel
theorem dX9_word_70 : decode cX9_word 70 = .ok (.getfield 20, 3) := by decide +kernel
theorem dX9_word_73 : decode cX9_word 73 = .ok (.iload_n 1, 1) := by decide +kernel
theorem dX9_word_74 : decode cX9_word 74 = .ok (.invokestatic 103, 3) := by decide +kernel
theorem dX9_word_77 : decode cX9_word 77 = .ok (.bipush 10, 2) := by decide +kernel
theorem dX9_word_79 : decode cX9_word 79 = .ok (.iadd, 1) := by decide +kernel
theorem dX9_word_80 : decode cX9_word 80 = .ok (.laload, 1) := by decide +kernel
theorem dX9_word_81 : decode cX9_word 81 = .ok (.l2i, 1) := by decide +kernel
theorem dX9_word_82 : decode cX9_word 82 = .ok (.goto 34, 3) := by decide +kernel
theorem dX9_word_85 : decode cX9_word 85 = .ok (.iload_n 2, 1) := by decide +kernel
theorem dX9_word_86 : decode cX9_word 86 = .ok (.iconst 2, 1) := by decide +kernel
theorem dX9_word_87 : decode cX9_word 87 = .ok (.if_icmp .ne 11, 3) := by decide +kernel
theorem dX9_word_90 : decode cX9_word 90 = .ok (.aload_n 0, 1) := by decide +kernel
theorem dX9_word_91 : decode cX9_word 91 = .ok (.iload_n 1, 1) := by decide +kernel
theorem dX9_word_92 : decode cX9_word 92 = .ok (.invokevirtual 144, 3) := by decide +kernel
theorem dX9_word_95 : decode cX9_word 95 = .ok (.goto 21, 3) := by decide +kernel
theorem dX9_word_98 : decode cX9_word 98 = .ok (.aload_n 0, 1) := by decide +kernel
theorem dX9_word_99 : decode cX9_word 99 = .ok (.getfield 20, 3) := by decide +kernel
theorem dX9_word_102 : decode cX9_word 102 = .ok (.iconst 4, 1) := by decide +kernel
theorem dX9_word_103 : decode cX9_word 103 = .ok (.laload, 1) := by decide +kernel
theorem dX9_word_104 : decode cX9_word 104 = .ok (.iload_n 1, 1) := by decide +kernel
theorem dX9_word_105 : decode cX9_word 105 = .ok (.invokestatic 140, 3) := by decide +kernel
theorem dX9_word_108 : decode cX9_word 108 = .ok (.ifCond .eq 7, 3) := by decide +kernel
theorem dX9_word_111 : decode cX9_word 111 = .ok (.iconst 1, 1) := by decide +kernel
theorem dX9_word_112 : decode cX9_word 112 = .ok (.goto 4, 3) := by decide +kernel
